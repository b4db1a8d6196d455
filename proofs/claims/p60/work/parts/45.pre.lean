def G_ca (g : h_T) (n : Int) : Int × Int := G_if (0 ≤ n ∧ n ≤ 60) (S_nights g n.toNat 0 1)
def G_da (g : h_T) (y n : Int) : Int × Int := if ¬ (0 ≤ y ∧ y < g 0 9) then (1, 0) else if ¬ (0 ≤ n ∧ n ≤ 60) then (2, 0) else (0, S_nights g n.toNat 6 y)
def S_nud (g : h_T) (y : Int) : Int := h_find (fun k => decide (S_pos (S_nights g k.toNat) y = -1)) 60 1
def G_nud (g : h_T) (y : Int) : Int × Int := if S_pos g y = -1 then (1, 0) else if g 8 (g 10 (S_pos g y)) ≠ 0 then (2, 0) else if S_nud g y = -1 then (2, 0) else (0, S_nud g y)
def g_pq (r : Int × Int) (A : m_M → Prop) : Option Value → m_M → Prop := fun v M' => r.1 = 0 ∧ v = some (VI r.2) ∧ A M'
def g_pxq (Es : List String) (r : Int × Int) (A : m_M → Prop) : String → m_M → Prop := fun E M' => (1 ≤ r.1 ∧ Es[(r.1 - 1).toNat]? = some E) ∧ A M'
theorem g_pq.mk {r : Int × Int} {z : Int} {A : m_M → Prop} {M : m_M} (e : r = (0, z)) (h : A M) : g_pq r A (some (VI z)) M := by
  subst e
  exact ⟨rfl, rfl, h⟩
theorem g_pxq.mk {Es : List String} {r : Int × Int} {E : String} {A : m_M → Prop} {M' : m_M} (k z : Int) (e : r = (k, z)) (hk : 1 ≤ k) (hE : Es[(k - 1).toNat]? = some E) (h : A M') : g_pxq Es r A E M' := by
  subst e
  exact ⟨⟨hk, hE⟩, h⟩

set_option maxHeartbeats 4000000 in
set_option maxRecDepth 100000 in
theorem t_X9_predict {D : va_G} {aC : Nat → ClassId} {s0 : State} {l : Launch} (hF : m_F D aC s0) (hl : l.stackTraces = false) {x w : Nat} {g sg : h_T} {L : Nat → h_T} {q : Int → Int} {tx ot : List Int} {M : m_M} {K : Int} {fo : Nat → Nat} (hX : m_TH s0) (hG : ghP s0.heap.size fo x w g sg L q tx ot M) (hB : h_BK K g) (hK : K ≤ 80000000) (hc : 0 ≤ q 0 ∧ q 0 ≤ 8) {y : Int} (hy : -2147483648 ≤ y ∧ y < 2147483648) : m_Met D aC s0 l yX9_predict cX9_predict 3 none 9 (1) (6) [.ref x, VI y] M (fun v M' => v = none ∧ (0 ≤ y ∧ y ≤ 60) ∧ hhR (x + 18) (S_nights g y.toNat) M' ∧ m_fr (x + 18) 17 M M') (fun E M' => (E = eA ∧ ¬ (0 ≤ y ∧ y ≤ 60)) ∧ M.1 ≤ M'.1 ∧ M'.2 = M.2) := by
  refine m_entry (lv := [(0, .ref x), (1, VI y)]) (by decide +kernel) (Nat.le_of_ble_eq_true rfl) rfl hF hl ?_
  intro p e s m args below meth c hC hr hno hnm
  change m_C D aC s0 RX9 _ _ _ _ _ _ _ _ _ at hC
  have hG9 := hG
  obtain ⟨a1, hO, hR, ⟨f9, hFo⟩, a5, ⟨L9, hH, hL⟩, a7, a8⟩ := hG9
  have hx := a1.2.2
  have h8 := hB.n8.2
  have h9 := hB.n9.2
  have h11 := hB.n11.2
  have hB0 := hB.toB (by omega)
  obtain ⟨p9, hQ⟩ := id hH
  refine m_iload_n hC 1 dX9_predict_0 rfl rfl ?_
  refine m_if_lt (tgt := 10) hC dX9_predict_1 (by decide) (by first | omega | (simp [hs_at] <;> omega)) (fun c1 => ?_) (fun c1 => ?_)
  · exact m_thrW hC hX (ic := 115) (cls := "java/lang/IllegalArgumentException") (is := 256) (text := "the number of nights is out of its bounds") (by decide) (by decide) (by decide +kernel) kX_111 kXi_111 ⟨by decide +kernel, by decide +kernel⟩ dX9_predict_10 dX9_predict_13 dX9_predict_14 dX9_predict_17 dX9_predict_20 hno (by decide) (Nat.le_of_ble_eq_true rfl) (Nat.le_of_ble_eq_true rfl) (Nat.le_of_ble_eq_true rfl) (Nat.le_of_ble_eq_true rfl) (Nat.le_of_ble_eq_true rfl) (fun M9 e1 e2 => ⟨⟨rfl, by omega⟩, e1, e2⟩)
  · refine m_iload_n hC 1 dX9_predict_4 rfl rfl ?_
    refine m_bipush hC dX9_predict_5 (by decide) ?_
    refine m_icmp_le (tgt := 21) hC dX9_predict_7 (by decide) (by first | omega | (simp [hs_at] <;> omega)) (fun c2 => ?_) (fun c2 => ?_)
    · refine m_aload_n hC 0 dX9_predict_21 rfl rfl ?_
      refine m_getf hC dX9_predict_22 kf_X9_16 hO rfl ?_
      refine m_aload_n hC 0 dX9_predict_25 rfl rfl ?_
      refine m_getf hC dX9_predict_26 kf_X9_12 hO rfl ?_
      refine m_callV hC (t_X7_copyFrom hF hl hFo (by omega) hR (by omega) h8 h9 h11) dX9_predict_29 kc_X7_copyFrom kV_X9_239 hFo.ob rfl rfl rfl rfl (Nat.le_of_ble_eq_true rfl) (by decide) (by decide) m_nox (fun v9 M3 h9 => ?_)
      obtain ⟨rfl, R4, f5⟩ := h9
      refine m_iconst hC dX9_predict_32 ?_
      refine m_istore_n hC dX9_predict_33 rfl (by decide) rfl ?_
      have LL : ∀ (n : Nat) (i : Int) (M1 : m_M), y - i < (n : Int) → 0 ≤ i → i ≤ y → hhR (x + 18) (S_nights g i.toNat) M1 → m_fr (x + 18) 17 M M1 → m_W D aC s0 3 p l e (m_R 9 (1) (6)) s m args below meth c (0) (0) (m_Q D aC s0 below (fun v M' => v = none ∧ (0 ≤ y ∧ y ≤ 60) ∧ hhR (x + 18) (S_nights g y.toNat) M' ∧ m_fr (x + 18) 17 M M') (fun E M' => (E = eA ∧ ¬ (0 ≤ y ∧ y ≤ 60)) ∧ M.1 ≤ M'.1 ∧ M'.2 = M.2) args s (1) (6)) 34 [(2, VI i), (1, VI y), (0, .ref x)] [] M1 := by
        intro n
        induction n with
        | zero =>
          intro i M1 hn h0 h1 hF1 hf1
          omega
        | succ n ih =>
          intro i M1 hn h0 h1 hF1 hf1
          have hO1 : gO x q M1 := (hf1.2 _ (by omega)).trans hO
          have hBn := hB.nights3 i.toNat (by omega)
          refine m_iload_n hC 0 dX9_predict_34 rfl rfl ?_
          refine m_iload_n hC 1 dX9_predict_35 rfl rfl ?_
          refine m_icmp_ge (tgt := 52) hC dX9_predict_36 (by decide) (by first | omega | (simp [hs_at] <;> omega)) (fun c6 => ?_) (fun c6 => ?_)
          · exact m_vret hC dX9_predict_52 hr (by decide) (by decide) (⟨rfl, by omega, (show i = y by omega) ▸ hF1, hf1⟩)
          · refine m_aload_n hC 2 dX9_predict_39 rfl rfl ?_
            refine m_getf hC dX9_predict_40 kf_X9_16 hO1 rfl ?_
            refine m_callV hC (t_X7_passOneNight hF hl hF1 hBn (by omega) (by omega)) dX9_predict_43 kc_X7_passOneNight kV_X9_242 hF1.ob rfl rfl rfl rfl (Nat.le_of_ble_eq_true rfl) (by decide) (by decide) m_nox (fun v9 M7 h9 => ?_)
            obtain ⟨rfl, R8, f9⟩ := h9
            refine m_iinc hC 0 dX9_predict_46 rfl (by decide) rfl ?_
            refine m_goto (tgt := 34) hC dX9_predict_49 (by decide) ?_
            refine m_lvs [0, 1, 2] rfl (ih (i + 1) M7 (by omega) (by omega) (by omega) (by rw [show (i + 1).toNat = i.toNat + 1 by omega]; exact R8) (hf1.tr f9))
      refine m_lvs [0, 2, 1] rfl (LL ((y - 0).toNat + 1) 0 M3 (by omega) (by omega) (by omega) R4 f5)
    · exact m_thrW hC hX (ic := 115) (cls := "java/lang/IllegalArgumentException") (is := 256) (text := "the number of nights is out of its bounds") (by decide) (by decide) (by decide +kernel) kX_111 kXi_111 ⟨by decide +kernel, by decide +kernel⟩ dX9_predict_10 dX9_predict_13 dX9_predict_14 dX9_predict_17 dX9_predict_20 hno (by decide) (Nat.le_of_ble_eq_true rfl) (Nat.le_of_ble_eq_true rfl) (Nat.le_of_ble_eq_true rfl) (Nat.le_of_ble_eq_true rfl) (Nat.le_of_ble_eq_true rfl) (fun M9 e1 e2 => ⟨⟨rfl, by omega⟩, e1, e2⟩)

set_option maxHeartbeats 4000000 in
set_option maxRecDepth 100000 in
theorem t_X9_chestAfter {D : va_G} {aC : Nat → ClassId} {s0 : State} {l : Launch} (hF : m_F D aC s0) (hl : l.stackTraces = false) {x w : Nat} {g sg : h_T} {L : Nat → h_T} {q : Int → Int} {tx ot : List Int} {M : m_M} {K : Int} {fo : Nat → Nat} (hX : m_TH s0) (hG : ghP s0.heap.size fo x w g sg L q tx ot M) (hB : h_BK K g) (hK : K ≤ 80000000) (hc : 0 ≤ q 0 ∧ q 0 ≤ 8) {n : Int} (hn : -2147483648 ≤ n ∧ n < 2147483648)  : m_Met D aC s0 l yX9_chestAfter cX9_chestAfter 2 (some .int) 12 (470) (940) [.ref x, VI n] M (g_pq (G_ca g n) (fun M' => ghP s0.heap.size fo x w g sg L q tx ot M' ∧ gFr x w M M')) (g_pxq [eA] (G_ca g n) (fun M' => ghP s0.heap.size fo x w g sg L q tx ot M' ∧ gFr x w M M')) := by
  refine m_entry (lv := [(0, .ref x), (1, VI n)]) (by decide +kernel) (Nat.le_of_ble_eq_true rfl) rfl hF hl ?_
  intro p e s m args below meth c hC hr hno hnm
  change m_C D aC s0 RX9 _ _ _ _ _ _ _ _ _ at hC
  have hG9 := hG
  obtain ⟨a1, hO, hR, ⟨f9, hFo⟩, a5, ⟨L9, hH, hL⟩, a7, a8⟩ := hG9
  have hx := a1.2.2
  have h8 := hB.n8.2
  have h9 := hB.n9.2
  have h11 := hB.n11.2
  have hB0 := hB.toB (by omega)
  obtain ⟨p9, hQ⟩ := id hH
  refine m_aload_n hC 0 dX9_chestAfter_0 rfl rfl ?_
  refine m_iload_n hC 1 dX9_chestAfter_1 rfl rfl ?_
  refine m_callV hC (t_X9_predict hF hl hX hG hB hK hc hn) dX9_chestAfter_2 kc_X9_predict kV_X9_250 hO rfl rfl rfl rfl (Nat.le_of_ble_eq_true rfl) (by decide) ⟨Nat.le_of_ble_eq_true rfl, Nat.le_of_ble_eq_true rfl⟩ (m_out hC hno (Nat.le_of_ble_eq_true rfl) (Nat.le_of_ble_eq_true rfl) (fun E9 M9 h9 => (by obtain ⟨⟨rfl, h8⟩, h7, h6⟩ := h9; exact g_pxq.mk 1 0 (G_if.f h8) (by decide) rfl ⟨hG.grow h7 h6, gFr.gr h7 h6⟩))) (fun v9 M1 h9 => ?_)
  obtain ⟨rfl, hnn, hF1, f1⟩ := h9
  have hO1 : gO x q M1 := (f1.2 _ (by omega)).trans hO
  have hG1 := hG.u_for hF1 f1 (by omega)
  have hfr1 := gFr.of (x := x) (w := w) f1 (by omega)
  refine m_aload_n hC 0 dX9_chestAfter_5 rfl rfl ?_
  refine m_getf hC dX9_chestAfter_6 kf_X9_16 hO1 rfl ?_
  refine m_getf hC dX9_chestAfter_9 kf_X9_253 hF1.ob rfl ?_
  exact m_iret hC dX9_chestAfter_12 hr (Nat.le_of_ble_eq_true rfl) (Nat.le_of_ble_eq_true rfl) (g_pq.mk (G_if.t hnn) ⟨hG1, hfr1⟩)

set_option maxHeartbeats 4000000 in
set_option maxRecDepth 100000 in
theorem t_X9_debtAfter {D : va_G} {aC : Nat → ClassId} {s0 : State} {l : Launch} (hF : m_F D aC s0) (hl : l.stackTraces = false) {x w : Nat} {g sg : h_T} {L : Nat → h_T} {q : Int → Int} {tx ot : List Int} {M : m_M} {K : Int} {fo : Nat → Nat} (hX : m_TH s0) (hG : ghP s0.heap.size fo x w g sg L q tx ot M) (hB : h_BK K g) (hK : K ≤ 80000000) (hc : 0 ≤ q 0 ∧ q 0 ≤ 8) {y : Int} (hy : -2147483648 ≤ y ∧ y < 2147483648) {n : Int} (hn : -2147483648 ≤ n ∧ n < 2147483648)  : m_Met D aC s0 l yX9_debtAfter cX9_debtAfter 3 (some .int) 12 (470) (940) [.ref x, VI y, VI n] M (g_pq (G_da g y n) (fun M' => ghP s0.heap.size fo x w g sg L q tx ot M' ∧ gFr x w M M')) (g_pxq [eI, eA] (G_da g y n) (fun M' => ghP s0.heap.size fo x w g sg L q tx ot M' ∧ gFr x w M M')) := by
  refine m_entry (lv := [(0, .ref x), (1, VI y), (2, VI n)]) (by decide +kernel) (Nat.le_of_ble_eq_true rfl) rfl hF hl ?_
  intro p e s m args below meth c hC hr hno hnm
  change m_C D aC s0 RX9 _ _ _ _ _ _ _ _ _ at hC
  have hG9 := hG
  obtain ⟨a1, hO, hR, ⟨f9, hFo⟩, a5, ⟨L9, hH, hL⟩, a7, a8⟩ := hG9
  have hx := a1.2.2
  have h8 := hB.n8.2
  have h9 := hB.n9.2
  have h11 := hB.n11.2
  have hB0 := hB.toB (by omega)
  obtain ⟨p9, hQ⟩ := id hH
  have hn9 : S_nights g n.toNat 0 9 = g 0 9 := (hB.nights n.toNat).2.1
  refine m_aload_n hC 0 dX9_debtAfter_0 rfl rfl ?_
  refine m_iload_n hC 1 dX9_debtAfter_1 rfl rfl ?_
  refine m_callV hC (t_X9_checkGoblin hF hl hX hO hR hB0 hy) dX9_debtAfter_2 kc_X9_checkGoblin kV_X9_177 hO rfl rfl rfl rfl (Nat.le_of_ble_eq_true rfl) (by decide) ⟨Nat.le_of_ble_eq_true rfl, Nat.le_of_ble_eq_true rfl⟩ (m_out hC hno (Nat.le_of_ble_eq_true rfl) (Nat.le_of_ble_eq_true rfl) (fun E9 M9 h9 => (by obtain ⟨⟨rfl, h8⟩, h7, h6⟩ := h9; exact g_pxq.mk 1 0 (if_pos h8) (by decide) rfl ⟨hG.grow h7 h6, gFr.gr h7 h6⟩))) (fun v9 M1 h9 => ?_)
  obtain ⟨rfl, h9, hyg⟩ := h9
  replace h9 := h9.symm
  subst h9
  refine m_aload_n hC 0 dX9_debtAfter_5 rfl rfl ?_
  refine m_iload_n hC 2 dX9_debtAfter_6 rfl rfl ?_
  refine m_callV hC (t_X9_predict hF hl hX hG hB hK hc hn) dX9_debtAfter_7 kc_X9_predict kV_X9_250 hO rfl rfl rfl rfl (Nat.le_of_ble_eq_true rfl) (by decide) ⟨Nat.le_of_ble_eq_true rfl, Nat.le_of_ble_eq_true rfl⟩ (m_out hC hno (Nat.le_of_ble_eq_true rfl) (Nat.le_of_ble_eq_true rfl) (fun E9 M9 h9 => (by obtain ⟨⟨rfl, h8⟩, h7, h6⟩ := h9; exact g_pxq.mk 2 0 ((if_neg (fun z => z hyg)).trans (if_pos h8)) (by decide) rfl ⟨hG.grow h7 h6, gFr.gr h7 h6⟩))) (fun v9 M2 h9 => ?_)
  obtain ⟨rfl, hnn, hF1, f1⟩ := h9
  have hO1 : gO x q M2 := (f1.2 _ (by omega)).trans hO
  have hG1 := hG.u_for hF1 f1 (by omega)
  have hfr1 := gFr.of (x := x) (w := w) f1 (by omega)
  refine m_aload_n hC 0 dX9_debtAfter_10 rfl rfl ?_
  refine m_getf hC dX9_debtAfter_11 kf_X9_16 hO1 rfl ?_
  refine m_getf hC dX9_debtAfter_14 kf_X9_170 hF1.ob rfl ?_
  refine m_getf hC dX9_debtAfter_17 kf_X9_186 hF1.go rfl ?_
  refine m_iload_n hC 1 dX9_debtAfter_20 rfl rfl ?_
  refine m_ld6 hC hF1 dX9_debtAfter_21 (by omega) (by first | omega | (simp [hs_at] <;> omega)) ?_
  exact m_iret hC dX9_debtAfter_22 hr (Nat.le_of_ble_eq_true rfl) (Nat.le_of_ble_eq_true rfl) (g_pq.mk ((if_neg (fun z => z hyg)).trans (if_neg (fun z => z hnn))) ⟨hG1, hfr1⟩)

set_option maxHeartbeats 4000000 in
set_option maxRecDepth 100000 in
theorem t_X9_nightsUntilDone {D : va_G} {aC : Nat → ClassId} {s0 : State} {l : Launch} (hF : m_F D aC s0) (hl : l.stackTraces = false) {x w : Nat} {g sg : h_T} {L : Nat → h_T} {q : Int → Int} {tx ot : List Int} {M : m_M} {K : Int} {fo : Nat → Nat} (hX : m_TH s0) (hG : ghP s0.heap.size fo x w g sg L q tx ot M) (hB : h_BK K g) (hK : K ≤ 80000000) (hc : 0 ≤ q 0 ∧ q 0 ≤ 8) {y : Int} (hy : -2147483648 ≤ y ∧ y < 2147483648)  : m_Met D aC s0 l yX9_nightsUntilDone cX9_nightsUntilDone 4 (some .int) 12 (470) (940) [.ref x, VI y] M (g_pq (G_nud g y) (fun M' => ghP s0.heap.size fo x w g sg L q tx ot M' ∧ gFr x w M M')) (g_pxq [eN, eS] (G_nud g y) (fun M' => ghP s0.heap.size fo x w g sg L q tx ot M' ∧ gFr x w M M')) := by
  refine m_entry (lv := [(0, .ref x), (1, VI y)]) (by decide +kernel) (Nat.le_of_ble_eq_true rfl) rfl hF hl ?_
  intro p e s m args below meth c hC hr hno hnm
  change m_C D aC s0 RX9 _ _ _ _ _ _ _ _ _ at hC
  have hG9 := hG
  obtain ⟨a1, hO, hR, ⟨f9, hFo⟩, a5, ⟨L9, hH, hL⟩, a7, a8⟩ := hG9
  have hx := a1.2.2
  have h8 := hB.n8.2
  have h9 := hB.n9.2
  have h11 := hB.n11.2
  have hB0 := hB.toB (by omega)
  obtain ⟨p9, hQ⟩ := id hH
  have hn11 := hB.n11
  have hn9 := hB.n9
  refine m_aload_n hC 0 dX9_nightsUntilDone_0 rfl rfl ?_
  refine m_getf hC dX9_nightsUntilDone_1 kf_X9_12 hO rfl ?_
  refine m_getf hC dX9_nightsUntilDone_4 kf_X9_201 hR.ob rfl ?_
  refine m_getf hC dX9_nightsUntilDone_7 kf_X9_223 hR.co rfl ?_
  refine m_aload_n hC 0 dX9_nightsUntilDone_10 rfl rfl ?_
  refine m_iload_n hC 1 dX9_nightsUntilDone_11 rfl rfl ?_
  refine m_callV hC (t_X9_checkedPosition hF hl hX hO hR hB0 hy) dX9_nightsUntilDone_12 kc_X9_checkedPosition kV_X9_225 hO rfl rfl rfl rfl (Nat.le_of_ble_eq_true rfl) (by decide) ⟨Nat.le_of_ble_eq_true rfl, Nat.le_of_ble_eq_true rfl⟩ (m_out hC hno (Nat.le_of_ble_eq_true rfl) (Nat.le_of_ble_eq_true rfl) (fun E9 M9 h9 => (by obtain ⟨⟨rfl, h8⟩, h7, h6⟩ := h9; exact g_pxq.mk 1 0 (if_pos (Decidable.not_not.mp h8)) (by decide) rfl ⟨hG.grow h7 h6, gFr.gr h7 h6⟩))) (fun v9 M1 h9 => ?_)
  obtain ⟨rfl, h9, hyp⟩ := h9
  replace h9 := h9.symm
  subst h9
  have hps := S_pos_rg (g := g) y (by have := hB.n11; omega)
  have hco := hB.co (i := S_pos g y) (by omega)
  have hgo := hB.go (i := g 10 (S_pos g y)) (by omega)
  refine m_ld10 hC hR dX9_nightsUntilDone_15 (by first | omega | (simp [hs_at] <;> omega)) (by first | omega | (simp [hs_at] <;> omega)) ?_
  refine m_istore_n hC dX9_nightsUntilDone_16 rfl (by decide) rfl ?_
  refine m_aload_n hC 1 dX9_nightsUntilDone_17 rfl rfl ?_
  refine m_getf hC dX9_nightsUntilDone_18 kf_X9_12 hO rfl ?_
  refine m_getf hC dX9_nightsUntilDone_21 kf_X9_170 hR.ob rfl ?_
  refine m_getf hC dX9_nightsUntilDone_24 kf_X9_192 hR.go rfl ?_
  refine m_iload_n hC 0 dX9_nightsUntilDone_27 rfl rfl ?_
  refine m_ld8 hC hR dX9_nightsUntilDone_28 (by first | omega | (simp [hs_at] <;> omega)) (by first | omega | (simp [hs_at] <;> omega)) ?_
  refine m_if_eq (tgt := 42) hC dX9_nightsUntilDone_29 (by decide) (by first | omega | (simp [hs_at] <;> omega)) (fun c2 => ?_) (fun c2 => ?_)
  · refine m_aload_n hC 1 dX9_nightsUntilDone_42 rfl rfl ?_
    refine m_getf hC dX9_nightsUntilDone_43 kf_X9_16 hO rfl ?_
    refine m_aload_n hC 1 dX9_nightsUntilDone_46 rfl rfl ?_
    refine m_getf hC dX9_nightsUntilDone_47 kf_X9_12 hO rfl ?_
    refine m_callV hC (t_X7_copyFrom hF hl hFo (by omega) hR (by omega) h8 h9 h11) dX9_nightsUntilDone_50 kc_X7_copyFrom kV_X9_239 hFo.ob rfl rfl rfl rfl (Nat.le_of_ble_eq_true rfl) (by decide) ⟨Nat.le_of_ble_eq_true rfl, Nat.le_of_ble_eq_true rfl⟩ m_nox (fun v9 M3 h9 => ?_)
    obtain ⟨rfl, R4, f5⟩ := h9
    have hO0 : gO x q M3 := (f5.2 _ (by omega)).trans hO
    refine m_iconst hC dX9_nightsUntilDone_53 ?_
    refine m_istore_n hC dX9_nightsUntilDone_54 rfl (by decide) rfl ?_
    have LL : ∀ (n : Nat) (i : Int) (M1 : m_M), 61 - i < (n : Int) → 1 ≤ i → i ≤ 61 → S_nud g y = h_find (fun k => decide (S_pos (S_nights g k.toNat) y = -1)) (61 - i).toNat i → hhR (x + 18) (S_nights g (i - 1).toNat) M1 → m_fr (x + 18) 17 M M1 → m_W D aC s0 4 p l e (m_R 12 (470) (940)) s m args below meth c (1) (6) (m_Q D aC s0 below (g_pq (G_nud g y) (fun M' => ghP s0.heap.size fo x w g sg L q tx ot M' ∧ gFr x w M M')) (g_pxq [eN, eS] (G_nud g y) (fun M' => ghP s0.heap.size fo x w g sg L q tx ot M' ∧ gFr x w M M')) args s (470) (940)) 55 [(3, VI i), (1, VI y), (0, .ref x)] [] M1 := by
      intro n
      induction n with
      | zero =>
        intro i M1 hn h0 h1 ha hF1 hf1
        omega
      | succ n ih =>
        intro i M1 hn h0 h1 ha hF1 hf1
        have hO1 : gO x q M1 := (hf1.2 _ (by omega)).trans hO
        refine m_iload_n hC 0 dX9_nightsUntilDone_55 rfl rfl ?_
        refine m_bipush hC dX9_nightsUntilDone_56 (by decide) ?_
        refine m_icmp_gt (tgt := 91) hC dX9_nightsUntilDone_58 (by decide) (by first | omega | (simp [hs_at] <;> omega)) (fun c6 => ?_) (fun c6 => ?_)
        · exact m_thr hC hX (ic := 120) (cls := "java/lang/IllegalStateException") (is := 248) (text := "not done within the nights that are predicted") (by decide) (by decide) (by decide +kernel) kX_116 kXi_116 ⟨by decide +kernel, by decide +kernel⟩ dX9_nightsUntilDone_91 dX9_nightsUntilDone_94 dX9_nightsUntilDone_95 dX9_nightsUntilDone_97 dX9_nightsUntilDone_100 hno (by decide) (Nat.le_of_ble_eq_true rfl) (Nat.le_of_ble_eq_true rfl) (Nat.le_of_ble_eq_true rfl) (Nat.le_of_ble_eq_true rfl) (Nat.le_of_ble_eq_true rfl) (fun M9 e1 e2 => (g_pxq.mk 2 0 ((if_neg hyp).trans ((if_neg (by omega)).trans (if_pos (by rw [ha, h_find_0 (by omega)])))) (by decide) rfl ⟨(hG.u_for hF1 hf1 (by omega)).grow e1 e2, (gFr.of hf1 (by omega)).tr (gFr.gr e1 e2)⟩))
        · refine m_aload_n hC 2 dX9_nightsUntilDone_61 rfl rfl ?_
          refine m_getf hC dX9_nightsUntilDone_62 kf_X9_16 hO1 rfl ?_
          have hBn := hB.nights3 (i - 1).toNat (by omega)
          refine m_callV hC (t_X7_passOneNight hF hl hF1 hBn (by omega) (by omega)) dX9_nightsUntilDone_65 kc_X7_passOneNight kV_X9_242 hF1.ob rfl rfl rfl rfl (Nat.le_of_ble_eq_true rfl) (by decide) ⟨Nat.le_of_ble_eq_true rfl, Nat.le_of_ble_eq_true rfl⟩ m_nox (fun v9 M7 h9 => ?_)
          obtain ⟨rfl, R8, f9⟩ := h9
          have eN : S_night (S_nights g (i - 1).toNat) = S_nights g i.toNat := by rw [show i.toNat = (i - 1).toNat + 1 by omega]; rfl
          rw [eN] at R8
          have hF2 := R8
          have hB2 := (hB.nights3 i.toNat (by omega)).toB (by omega)
          have hps2 := S_pos_rg (g := S_nights g i.toNat) y (by have := hB2.n11; omega)
          have hn11 := hB2.n11
          have hO2 : gO x q M7 := (f9.2 _ (by omega)).trans hO1
          refine m_aload_n hC 2 dX9_nightsUntilDone_68 rfl rfl ?_
          refine m_getf hC dX9_nightsUntilDone_69 kf_X9_16 hO2 rfl ?_
          refine m_getf hC dX9_nightsUntilDone_72 kf_X9_201 R8.ob rfl ?_
          refine m_iload_n hC 1 dX9_nightsUntilDone_75 rfl rfl ?_
          refine m_callV hC (t_X3_positionOf hF hl R8 hB2 hy) dX9_nightsUntilDone_76 kc_X3_positionOf kV_X9_245 R8.co rfl rfl rfl rfl (Nat.le_of_ble_eq_true rfl) (by decide) ⟨Nat.le_of_ble_eq_true rfl, Nat.le_of_ble_eq_true rfl⟩ m_nox (fun v9 M10 h9 => ?_)
          obtain ⟨rfl, h9⟩ := h9
          replace h9 := h9.symm
          subst h9
          refine m_iconst hC dX9_nightsUntilDone_79 ?_
          refine m_icmp_ne (tgt := 85) hC dX9_nightsUntilDone_80 (by decide) (by first | omega | (simp [hs_at] <;> omega)) (fun c11 => ?_) (fun c11 => ?_)
          · refine m_iinc hC 0 dX9_nightsUntilDone_85 rfl (by decide) rfl ?_
            refine m_goto (tgt := 55) hC dX9_nightsUntilDone_88 (by decide) ?_
            refine m_lvs [0, 1, 2] rfl (ih (i + 1) M7 (by omega) (by omega) (by omega) (by rw [ha, h_find_f (by omega) (by simp only [decide_eq_false_iff_not]; omega)]; congr 2; omega) (by rw [show (i + 1 - 1).toNat = i.toNat by omega]; exact hF2) (hf1.tr f9))
          · refine m_iload_n hC 0 dX9_nightsUntilDone_83 rfl rfl ?_
            exact m_iret hC dX9_nightsUntilDone_84 hr (Nat.le_of_ble_eq_true rfl) (Nat.le_of_ble_eq_true rfl) ((by have eF : S_nud g y = i := (by rw [ha, h_find_t (by omega) (by simp only [decide_eq_true_eq]; omega)]); exact g_pq.mk (by unfold G_nud; rw [if_neg hyp, if_neg (by omega), eF, if_neg (by omega)]) ⟨hG.u_for R8 (hf1.tr f9) (by omega), gFr.of (hf1.tr f9) (by omega)⟩))
    refine m_lvs [0, 3, 2] rfl (LL 62 1 M3 (by omega) (by omega) (by omega) rfl R4 f5)
  · exact m_thr hC hX (ic := 120) (cls := "java/lang/IllegalStateException") (is := 237) (text := "a goblin that rests does nothing") (by decide) (by decide) (by decide +kernel) kX_116 kXi_116 ⟨by decide +kernel, by decide +kernel⟩ dX9_nightsUntilDone_32 dX9_nightsUntilDone_35 dX9_nightsUntilDone_36 dX9_nightsUntilDone_38 dX9_nightsUntilDone_41 hno (by decide) (Nat.le_of_ble_eq_true rfl) (Nat.le_of_ble_eq_true rfl) (Nat.le_of_ble_eq_true rfl) (Nat.le_of_ble_eq_true rfl) (Nat.le_of_ble_eq_true rfl) (fun M9 e1 e2 => (g_pxq.mk 2 0 ((if_neg hyp).trans (if_pos (by omega))) (by decide) rfl ⟨hG.grow e1 e2, gFr.gr e1 e2⟩))

set_option maxHeartbeats 4000000 in
set_option maxRecDepth 100000 in
theorem t_X9_errorPosition {D : va_G} {aC : Nat → ClassId} {s0 : State} {l : Launch} (hF : m_F D aC s0) (hl : l.stackTraces = false) {x : Nat} {q : Int → Int} {M : m_M} (hX : m_TH s0) (hO : gO x q M) (hq : -1 ≤ q 2 ∧ q 2 ≤ 1000) : m_Met D aC s0 l yX9_errorPosition cX9_errorPosition 1 (some .int) 12 (470) (940) [.ref x] M (g_po (G_if (q 2 ≠ -1) (q 2)) M) (g_px [eN] (G_if (q 2 ≠ -1) (q 2)) M) := by
  refine m_entry (lv := [(0, .ref x)]) (by decide +kernel) (Nat.le_of_ble_eq_true rfl) rfl hF hl ?_
  intro p e s m args below meth c hC hr hno hnm
  change m_C D aC s0 RX9 _ _ _ _ _ _ _ _ _ at hC
  refine m_aload_n hC 0 dX9_errorPosition_0 rfl rfl ?_
  refine m_getf hC dX9_errorPosition_1 kf_X9_51 hO rfl ?_
  refine m_iconst hC dX9_errorPosition_4 ?_
  refine m_icmp_ne (tgt := 19) hC dX9_errorPosition_5 (by decide) (by first | omega | (simp [hs_at] <;> omega)) (fun c1 => ?_) (fun c1 => ?_)
  · refine m_aload_n hC 0 dX9_errorPosition_19 rfl rfl ?_
    refine m_getf hC dX9_errorPosition_20 kf_X9_51 hO rfl ?_
    exact m_iret hC dX9_errorPosition_23 hr (Nat.le_of_ble_eq_true rfl) (Nat.le_of_ble_eq_true rfl) (g_po.mk (G_if.t (by omega)))
  · exact m_thnW hC hX (is := 357) (text := "every script had the required form") (by decide) kX_126 kXi_126 ⟨by decide +kernel, by decide +kernel⟩ dX9_errorPosition_8 dX9_errorPosition_11 dX9_errorPosition_12 dX9_errorPosition_15 dX9_errorPosition_18 hno (by decide) (Nat.le_of_ble_eq_true rfl) (Nat.le_of_ble_eq_true rfl) (Nat.le_of_ble_eq_true rfl) (Nat.le_of_ble_eq_true rfl) (Nat.le_of_ble_eq_true rfl) (fun M9 e1 e2 => (g_px.mk 1 0 (G_if.f (by omega)) (by decide) rfl e1 e2))

set_option maxHeartbeats 4000000 in
set_option maxRecDepth 100000 in
theorem t_X9_failedCommand {D : va_G} {aC : Nat → ClassId} {s0 : State} {l : Launch} (hF : m_F D aC s0) (hl : l.stackTraces = false) {x : Nat} {q : Int → Int} {M : m_M} (hX : m_TH s0) (hO : gO x q M) (hq : -1 ≤ q 3 ∧ q 3 ≤ 1000) : m_Met D aC s0 l yX9_failedCommand cX9_failedCommand 1 (some .int) 12 (470) (940) [.ref x] M (g_po (G_if (q 3 ≠ -1) (q 3)) M) (g_px [eN] (G_if (q 3 ≠ -1) (q 3)) M) := by
  refine m_entry (lv := [(0, .ref x)]) (by decide +kernel) (Nat.le_of_ble_eq_true rfl) rfl hF hl ?_
  intro p e s m args below meth c hC hr hno hnm
  change m_C D aC s0 RX9 _ _ _ _ _ _ _ _ _ at hC
  refine m_aload_n hC 0 dX9_failedCommand_0 rfl rfl ?_
  refine m_getf hC dX9_failedCommand_1 kf_X9_55 hO rfl ?_
  refine m_iconst hC dX9_failedCommand_4 ?_
  refine m_icmp_ne (tgt := 19) hC dX9_failedCommand_5 (by decide) (by first | omega | (simp [hs_at] <;> omega)) (fun c1 => ?_) (fun c1 => ?_)
  · refine m_aload_n hC 0 dX9_failedCommand_19 rfl rfl ?_
    refine m_getf hC dX9_failedCommand_20 kf_X9_55 hO rfl ?_
    exact m_iret hC dX9_failedCommand_23 hr (Nat.le_of_ble_eq_true rfl) (Nat.le_of_ble_eq_true rfl) (g_po.mk (G_if.t (by omega)))
  · exact m_thnW hC hX (is := 359) (text := "no command of a script failed") (by decide) kX_126 kXi_126 ⟨by decide +kernel, by decide +kernel⟩ dX9_failedCommand_8 dX9_failedCommand_11 dX9_failedCommand_12 dX9_failedCommand_15 dX9_failedCommand_18 hno (by decide) (Nat.le_of_ble_eq_true rfl) (Nat.le_of_ble_eq_true rfl) (Nat.le_of_ble_eq_true rfl) (Nat.le_of_ble_eq_true rfl) (Nat.le_of_ble_eq_true rfl) (fun M9 e1 e2 => (g_px.mk 1 0 (G_if.f (by omega)) (by decide) rfl e1 e2))

set_option maxHeartbeats 4000000 in
set_option maxRecDepth 100000 in
theorem t_X9_save {D : va_G} {aC : Nat → ClassId} {s0 : State} {l : Launch} (hF : m_F D aC s0) (hl : l.stackTraces = false) {x w : Nat} {g sg : h_T} {L : Nat → h_T} {q : Int → Int} {tx ot : List Int} {M : m_M} {K : Int} {fo : Nat → Nat} (hX : m_TH s0) (hG : ghP s0.heap.size fo x w g sg L q tx ot M) (hB : h_BK K g) (hK : K ≤ 80000000) (hc : 0 ≤ q 0 ∧ q 0 ≤ 8)   : m_Met D aC s0 l yX9_save cX9_save 1 (some .int) 12 (470) (940) [.ref x] M (g_pq (((0 : Int), g 0 11)) (fun M' => ghP s0.heap.size fo x w g g L (m_ug q 1 1) tx ot M' ∧ gFr x w M M')) (g_pxq [] (((0 : Int), g 0 11)) (fun M' => ghP s0.heap.size fo x w g sg L q tx ot M' ∧ gFr x w M M')) := by
  refine m_entry (lv := [(0, .ref x)]) (by decide +kernel) (Nat.le_of_ble_eq_true rfl) rfl hF hl ?_
  intro p e s m args below meth c hC hr hno hnm
  change m_C D aC s0 RX9 _ _ _ _ _ _ _ _ _ at hC
  have hG9 := hG
  obtain ⟨a1, hO, hR, ⟨f9, hFo⟩, a5, ⟨L9, hH, hL⟩, a7, a8⟩ := hG9
  have hx := a1.2.2
  have h8 := hB.n8.2
  have h9 := hB.n9.2
  have h11 := hB.n11.2
  have hB0 := hB.toB (by omega)
  obtain ⟨p9, hQ⟩ := id hH
  obtain ⟨s9, hS9, hs9⟩ := a5
  refine m_aload_n hC 0 dX9_save_0 rfl rfl ?_
  refine m_getf hC dX9_save_1 kf_X9_19 hO rfl ?_
  refine m_aload_n hC 0 dX9_save_4 rfl rfl ?_
  refine m_getf hC dX9_save_5 kf_X9_12 hO rfl ?_
  refine m_callV hC (t_X7_copyFrom hF hl hS9 (by omega) hR (by omega) h8 h9 h11) dX9_save_8 kc_X7_copyFrom kV_X9_239 hS9.ob rfl rfl rfl rfl (Nat.le_of_ble_eq_true rfl) (by decide) ⟨Nat.le_of_ble_eq_true rfl, Nat.le_of_ble_eq_true rfl⟩ m_nox (fun v9 M1 h9 => ?_)
  obtain ⟨rfl, R2, f3⟩ := h9
  have hG1 := hG.u_sn (sg2 := g) ⟨_, R2, fun _ => rfl⟩ f3 (by omega)
  have hfr1 := gFr.of (x := x) (w := w) f3 (by omega)
  refine m_aload_n hC 0 dX9_save_11 rfl rfl ?_
  refine m_iconst hC dX9_save_12 ?_
  refine m_gpf hC dX9_save_13 kf_X9_47 kw_11_7 hG1.2.1 hx (Nat.le_of_ble_eq_true rfl) rfl rfl (fun M4 R5 f6 => ?_)
  change M4.2 _ = some (m_ob 11 [_, _, _, _, _, _, _, _, _, _]) at R5
  have hG2 : ghP s0.heap.size fo x w g g L (m_ug q 1 1) tx ot M4 := by
    obtain ⟨b1, b2, b3, ⟨g9, b4⟩, ⟨t9, b5, c5⟩, ⟨K9, b6, c6⟩, b7, b8⟩ := hG1
    exact ⟨⟨b1.1, by rw [f6.1]; exact b1.2.1, b1.2.2⟩, R5, b3.fr f6 (by omega), ⟨g9, b4.fr f6 (by omega)⟩, ⟨g, R2.fr f6 (by omega), fun _ => rfl⟩, ⟨K9, b6.fr f6 (by omega), c6⟩, b7.fr f6 (by omega), b8.fr f6 (by omega) (by omega)⟩
  have hfr2 := hfr1.tr (gFr.of (x := x) (w := w) f6 (by omega))
  refine m_aload_n hC 0 dX9_save_16 rfl rfl ?_
  refine m_getf hC dX9_save_17 kf_X9_12 R5 rfl ?_
  refine m_getf hC dX9_save_20 kf_X9_201 hG2.2.2.1.ob rfl ?_
  refine m_getf hC dX9_save_23 kf_X9_217 hG2.2.2.1.co rfl ?_
  exact m_iret hC dX9_save_26 hr (Nat.le_of_ble_eq_true rfl) (Nat.le_of_ble_eq_true rfl) (g_pq.mk rfl ⟨hG2, hfr2⟩)

set_option maxHeartbeats 4000000 in
set_option maxRecDepth 100000 in
theorem t_X9_restore {D : va_G} {aC : Nat → ClassId} {s0 : State} {l : Launch} (hF : m_F D aC s0) (hl : l.stackTraces = false) {x w : Nat} {g sg : h_T} {L : Nat → h_T} {q : Int → Int} {tx ot : List Int} {M : m_M} {K : Int} {fo : Nat → Nat} (hX : m_TH s0) (hG : ghP s0.heap.size fo x w g sg L q tx ot M) (hB : h_BK K g) (hK : K ≤ 80000000) (hc : 0 ≤ q 0 ∧ q 0 ≤ 8)  (hq1 : q 1 = 0 ∨ q 1 = 1) (hsg : q 1 = 1 → h_BK K sg) : m_Met D aC s0 l yX9_restore cX9_restore 1 (some .int) 12 (470) (940) [.ref x] M (g_pq (G_if (q 1 = 1) (sg 0 11)) (fun M' => ghP s0.heap.size fo x w sg sg L (m_ug q 0 0) tx ot M' ∧ gFr x w M M')) (g_pxq [eS] (G_if (q 1 = 1) (sg 0 11)) (fun M' => ghP s0.heap.size fo x w g sg L q tx ot M' ∧ gFr x w M M')) := by
  refine m_entry (lv := [(0, .ref x)]) (by decide +kernel) (Nat.le_of_ble_eq_true rfl) rfl hF hl ?_
  intro p e s m args below meth c hC hr hno hnm
  change m_C D aC s0 RX9 _ _ _ _ _ _ _ _ _ at hC
  have hG9 := hG
  obtain ⟨a1, hO, hR, ⟨f9, hFo⟩, a5, ⟨L9, hH, hL⟩, a7, a8⟩ := hG9
  have hx := a1.2.2
  have h8 := hB.n8.2
  have h9 := hB.n9.2
  have h11 := hB.n11.2
  have hB0 := hB.toB (by omega)
  obtain ⟨p9, hQ⟩ := id hH
  obtain ⟨s9, hS9, hs9⟩ := a5
  refine m_aload_n hC 0 dX9_restore_0 rfl rfl ?_
  refine m_getf hC dX9_restore_1 kf_X9_47 hO rfl ?_
  refine m_if_ne (tgt := 18) hC dX9_restore_4 (by decide) (by first | omega | (simp [hs_at] <;> omega)) (fun c1 => ?_) (fun c1 => ?_)
  · have hq11 : q 1 = 1 := by omega
    have hBs := hsg hq11
    rw [hs9 hq11] at hS9
    refine m_aload_n hC 0 dX9_restore_18 rfl rfl ?_
    refine m_getf hC dX9_restore_19 kf_X9_12 hO rfl ?_
    refine m_aload_n hC 0 dX9_restore_22 rfl rfl ?_
    refine m_getf hC dX9_restore_23 kf_X9_19 hO rfl ?_
    refine m_callV hC (t_X7_copyFrom hF hl hR (by omega) hS9 (by omega) hBs.n8.2 hBs.n9.2 hBs.n11.2) dX9_restore_26 kc_X7_copyFrom kV_X9_239 hR.ob rfl rfl rfl rfl (Nat.le_of_ble_eq_true rfl) (by decide) ⟨Nat.le_of_ble_eq_true rfl, Nat.le_of_ble_eq_true rfl⟩ m_nox (fun v9 M2 h9 => ?_)
    obtain ⟨rfl, R3, f4⟩ := h9
    have hG1 := hG.u_now (g2 := sg) R3 f4 (by omega)
    have hfr1 := gFr.of (x := x) (w := w) f4 (by omega)
    have hQ1 := hQ.keep (M2 := M2) (fun q h1 h2 => f4.2 q (by omega))
    refine m_aload_n hC 0 dX9_restore_29 rfl rfl ?_
    refine m_getf hC dX9_restore_30 kf_X9_25 hG1.2.1 rfl ?_
    refine m_iconst hC dX9_restore_33 ?_
    refine m_gpf hC dX9_restore_34 kf_X9_361 kw_8_1 hQ1.1.1 (by omega) (Nat.le_of_ble_eq_true rfl) rfl rfl (fun M5 R6 f7 => ?_)
    change M5.2 _ = some (m_ob 8 [_, _]) at R6
    have hG2 : ghP s0.heap.size fo x w sg sg L (m_ug q 0 0) tx ot M5 := by
      obtain ⟨b1, b2, b3, ⟨g9, b4⟩, ⟨t9, b5, c5⟩, b6, b7, b8⟩ := hG1
      exact ⟨⟨b1.1, by rw [f7.1]; exact b1.2.1, b1.2.2⟩, (f7.2 _ (by omega)).trans b2, b3.fr f7 (by omega), ⟨g9, b4.fr f7 (by omega)⟩, ⟨t9, b5.fr f7 (by omega), c5⟩, ⟨L9, ⟨p9, ⟨⟨R6, (f7.2 _ (by omega)).trans hQ1.1.2⟩, hQ1.2.1, hQ1.2.2.1, fun i hi => (hQ1.2.2.2 i hi).fr f7 (by omega)⟩⟩, fun i hi => absurd (show (i : Int) < 0 from hi) (by omega)⟩, b7.fr f7 (by omega), b8.fr f7 (by omega) (by omega)⟩
    have hfr2 := hfr1.tr (gFr.of (x := x) (w := w) f7 (by omega))
    refine m_aload_n hC 0 dX9_restore_37 rfl rfl ?_
    refine m_getf hC dX9_restore_38 kf_X9_12 hG2.2.1 rfl ?_
    refine m_getf hC dX9_restore_41 kf_X9_201 hG2.2.2.1.ob rfl ?_
    refine m_getf hC dX9_restore_44 kf_X9_217 hG2.2.2.1.co rfl ?_
    exact m_iret hC dX9_restore_47 hr (Nat.le_of_ble_eq_true rfl) (Nat.le_of_ble_eq_true rfl) (g_pq.mk (G_if.t (by omega)) ⟨hG2, hfr2⟩)
  · exact m_thrW hC hX (ic := 120) (cls := "java/lang/IllegalStateException") (is := 367) (text := "there is no snapshot") (by decide) (by decide) (by decide +kernel) kX_116 kXi_116 ⟨by decide +kernel, by decide +kernel⟩ dX9_restore_7 dX9_restore_10 dX9_restore_11 dX9_restore_14 dX9_restore_17 hno (by decide) (Nat.le_of_ble_eq_true rfl) (Nat.le_of_ble_eq_true rfl) (Nat.le_of_ble_eq_true rfl) (Nat.le_of_ble_eq_true rfl) (Nat.le_of_ble_eq_true rfl) (fun M9 e1 e2 => (g_pxq.mk 1 0 (G_if.f (by omega)) (by decide) rfl ⟨hG.grow e1 e2, gFr.gr e1 e2⟩))

set_option maxHeartbeats 4000000 in
set_option maxRecDepth 100000 in
theorem t_X9_undo {D : va_G} {aC : Nat → ClassId} {s0 : State} {l : Launch} (hF : m_F D aC s0) (hl : l.stackTraces = false) {x w : Nat} {g sg : h_T} {L : Nat → h_T} {q : Int → Int} {tx ot : List Int} {M : m_M} {K : Int} {fo : Nat → Nat} (hX : m_TH s0) (hG : ghP s0.heap.size fo x w g sg L q tx ot M) (hB : h_BK K g) (hK : K ≤ 80000000) (hc : 0 ≤ q 0 ∧ q 0 ≤ 8)  (hLB : ∀ i : Nat, (i : Int) < q 0 → h_BK K (L i)) : m_Met D aC s0 l yX9_undo cX9_undo 1 (some .int) 12 (470) (940) [.ref x] M (g_pq (G_if (q 0 ≠ 0) (q 0 - 1)) (fun M' => ghP s0.heap.size fo x w (L (q 0 - 1).toNat) sg L (m_ug q 0 (q 0 - 1)) tx ot M' ∧ gFr x w M M')) (g_pxq [eN] (G_if (q 0 ≠ 0) (q 0 - 1)) (fun M' => ghP s0.heap.size fo x w g sg L q tx ot M' ∧ gFr x w M M')) := by
  refine m_entry (lv := [(0, .ref x)]) (by decide +kernel) (Nat.le_of_ble_eq_true rfl) rfl hF hl ?_
  intro p e s m args below meth c hC hr hno hnm
  change m_C D aC s0 RX9 _ _ _ _ _ _ _ _ _ at hC
  have hG9 := hG
  obtain ⟨a1, hO, hR, ⟨f9, hFo⟩, a5, ⟨L9, hH, hL⟩, a7, a8⟩ := hG9
  have hx := a1.2.2
  have h8 := hB.n8.2
  have h9 := hB.n9.2
  have h11 := hB.n11.2
  have hB0 := hB.toB (by omega)
  obtain ⟨p9, hQ⟩ := id hH
  refine m_aload_n hC 0 dX9_undo_0 rfl rfl ?_
  refine m_getf hC dX9_undo_1 kf_X9_25 hO rfl ?_
  refine m_getf hC dX9_undo_4 kf_X9_361 hQ.1.1 rfl ?_
  refine m_if_ne (tgt := 21) hC dX9_undo_7 (by decide) (by first | omega | (simp [hs_at] <;> omega)) (fun c1 => ?_) (fun c1 => ?_)
  · have hBl := hLB (q 0 - 1).toNat (by omega)
    refine m_aload_n hC 0 dX9_undo_21 rfl rfl ?_
    refine m_getf hC dX9_undo_22 kf_X9_25 hO rfl ?_
    refine m_aload_n hC 0 dX9_undo_25 rfl rfl ?_
    refine m_getf hC dX9_undo_26 kf_X9_12 hO rfl ?_
    refine m_callV hC (t_X6_stepBack hF hl hH hx (by omega) (by omega) hR (by omega) (by rw [hL _ (by omega)]; exact hBl.n8.2) (by rw [hL _ (by omega)]; exact hBl.n9.2) (by rw [hL _ (by omega)]; exact hBl.n11.2)) dX9_undo_29 kc_X6_stepBack kV_X9_364 hQ.1.1 rfl rfl rfl rfl (Nat.le_of_ble_eq_true rfl) (by decide) ⟨Nat.le_of_ble_eq_true rfl, Nat.le_of_ble_eq_true rfl⟩ m_nox (fun v9 M2 h9 => ?_)
    obtain ⟨rfl, hH1, hR1, M1, f1, f2⟩ := h9
    rw [hL _ (by omega)] at hR1
    have hG2 : ghP s0.heap.size fo x w (L (q 0 - 1).toNat) sg L (m_ug q 0 (q 0 - 1)) tx ot M2 := by
      obtain ⟨b1, b2, b3, ⟨g9, b4⟩, ⟨t9, b5, c5⟩, b6, b7, b8⟩ := hG
      exact ⟨⟨b1.1, by rw [f2.1, f1.1]; exact b1.2.1, b1.2.2⟩, (f2.2 _ (by omega)).trans ((f1.2 _ (by omega)).trans b2), hR1, ⟨g9, (b4.fr f1 (by omega)).fr f2 (by omega)⟩, ⟨t9, (b5.fr f1 (by omega)).fr f2 (by omega), c5⟩, ⟨L9, hH1, fun i hi => hL i (by have hi : (i : Int) < q 0 - 1 := hi; omega)⟩, (b7.fr f1 (by omega)).fr f2 (by omega), (b8.fr f1 (by omega) (by omega)).fr f2 (by omega) (by rw [f1.1]; omega)⟩
    have hfr2 := (gFr.of (x := x) (w := w) f1 (by omega)).tr (gFr.of f2 (by omega))
    obtain ⟨q9, hQ2⟩ := id hH1
    refine m_aload_n hC 0 dX9_undo_32 rfl rfl ?_
    refine m_getf hC dX9_undo_33 kf_X9_25 hG2.2.1 rfl ?_
    refine m_getf hC dX9_undo_36 kf_X9_361 hQ2.1.1 rfl ?_
    exact m_iret hC dX9_undo_39 hr (Nat.le_of_ble_eq_true rfl) (Nat.le_of_ble_eq_true rfl) (g_pq.mk (G_if.t (by omega)) ⟨hG2, hfr2⟩)
  · exact m_thnW hC hX (is := 362) (text := "there is nothing to undo") (by decide) kX_126 kXi_126 ⟨by decide +kernel, by decide +kernel⟩ dX9_undo_10 dX9_undo_13 dX9_undo_14 dX9_undo_17 dX9_undo_20 hno (by decide) (Nat.le_of_ble_eq_true rfl) (Nat.le_of_ble_eq_true rfl) (Nat.le_of_ble_eq_true rfl) (Nat.le_of_ble_eq_true rfl) (Nat.le_of_ble_eq_true rfl) (fun M9 e1 e2 => (g_pxq.mk 1 0 (G_if.f (by omega)) (by decide) rfl ⟨hG.grow e1 e2, gFr.gr e1 e2⟩))

