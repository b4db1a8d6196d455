def mdK (w w2 : h_T) (t : Int) : Prop := w2 0 14 = t ∧ (∀ k : Int, k = 5 ∨ k = 6 ∨ k = 7 ∨ k = 8 ∨ k = 11 ∨ k = 13 → w2 0 k = w 0 k) ∧ ∀ c : Nat, c = 4 ∨ c = 5 ∨ c = 7 ∨ c = 8 → w2 c = w c
theorem mdK.W {w w2 : h_T} {th t : Int} {sg : h_T} {L : Nat → h_T} {q : Int → Int} {tx ot : List Int} (h : mdK w w2 t) (hW : mdW w th sg L q tx ot) : mdW w2 t sg L q tx ot := hW.keep h.1 h.2.1 h.2.2
def m_qx (a : Nat) (w g : h_T) (r : Int × Int) (M : m_M) : Option Value → m_M → Prop := fun v M' => v = some (VI r.2) ∧ (∃ w2, mmV a w2 g M' ∧ mdK w w2 r.1) ∧ m_fr a 10 M M'
theorem m_qx.of {a : Nat} {w g : h_T} {r : Int × Int} {M M2 : m_M} {v : Option Value} (h : m_qu a w g r M v M2) : m_qx a w g r M v M2 := ⟨h.1, ⟨_, h.2.1, hs_s, fun k hk => hs_i (by omega), fun c hc => hs_c (by omega)⟩, h.2.2⟩
theorem m_qx.mk {a c : Nat} {w g : h_T} {r : Int × Int} {M M2 : m_M} {z t : Int} {B : Int → Int} (hr : r = (t, z)) (hc : c = 2 ∨ c = 3 ∨ c = 6 ∨ c = 9) (hV : mmV a (wc (hs w 0 14 t) c B) g M2) (hf : m_fr a 10 M M2) : m_qx a w g r M (some (VI z)) M2 := by
  subst hr
  refine ⟨rfl, ⟨_, hV, ?_, fun k hk => ?_, fun c' hc' => ?_⟩, hf⟩
  · rw [wc_n (by omega), hs_s]
  · rw [wc_n (by omega), hs_i (by omega)]
  · rw [wc_n (by omega), hs_c (by omega)]
set_option maxHeartbeats 4000000 in
set_option maxRecDepth 100000 in
theorem t_X10_after {D : va_G} {aC : Nat → ClassId} {s0 : State} {l : Launch} (hF : m_F D aC s0) (hl : l.stackTraces = false) {a : Nat} {w g : h_T} {M : m_M} (hV : mmV a w g M) (ha : s0.heap.size ≤ a) (hB : h_B g) {x : Int} {y : Int} {K : Int} (hK : h_BK K g) (hKb : K ≤ 79000000) (hx : 0 ≤ x ∧ x ≤ 60) (c0 : Nat) (i0 : Int) (hc : fl c0 i0 = y) (hy : 0 ≤ y ∧ y < 91) (hg : ∀ t : h_T, h_eq t (S_nights g x.toNat) → t c0 i0 = (S_nights g x.toNat) c0 i0) : m_Met D aC s0 l yX10_after cX10_after 5 (some .int) 7 (0) (0) [.ref a, VI x, VI y] M (fun v M' => v = some (VI ((S_nights g x.toNat) c0 i0)) ∧ (∃ B : Int → Int, mmV a (wc w 3 B) g M') ∧ m_fr a 10 M M') m_nx := by
  refine m_entry (lv := [(0, .ref a), (1, VI x), (2, VI y)]) (by decide +kernel) (Nat.le_of_ble_eq_true rfl) rfl hF hl ?_
  intro p e s m args below meth c hC hr hno hnm
  change m_C D aC s0 RX10 _ _ _ _ _ _ _ _ _ at hC
  have hnB := hB.c
  refine m_aload_n hC 0 dX10_after_0 rfl rfl ?_
  refine m_getf hC dX10_after_1 kf_X10_9 hV.ob rfl ?_
  refine m_iconst hC dX10_after_4 ?_
  refine m_aload_n hC 0 dX10_after_5 rfl rfl ?_
  refine m_getf hC dX10_after_6 kf_X10_16 hV.ob rfl ?_
  refine m_iconst hC dX10_after_9 ?_
  obtain ⟨A1, hA1, eA1⟩ := hV.c1
  refine m_callS hC (t_X10_copies hF hl (x := 0) (y := 0) hA1 hV.c3 (by omega) (by omega) (by omega) (by omega) (by omega)) dX10_after_10 kc_X10_copies kS_X10_51 rfl rfl (Nat.le_of_ble_eq_true rfl) (by decide) (by decide) m_nox (fun v9 M2 h9 => ?_)
  obtain ⟨rfl, R3, f5⟩ := h9
  have R4 := hV.cp3 R3 f5
  obtain ⟨B, hBd, eB⟩ : ∃ B : Int → Int, mmV a (wc w 3 B) g M2 ∧ h_eq (tA B) g := ⟨_, R4, eA1.B (fun j hj => X_c0 hj) hB.c⟩
  have hfr0 : m_fr a 10 M M2 := (f5.mono (by omega) (by omega))
  refine m_iconst hC dX10_after_13 ?_
  refine m_istore_n hC dX10_after_14 rfl (by decide) rfl ?_
  have L : ∀ (n : Nat) (i : Nat) (M1 : m_M), x - (i : Int) < (n : Int) → (i : Int) ≤ x → mmV a (wc w 3 B) (S_nights g i) M1 → m_fr a 10 M M1 → m_W D aC s0 5 p l e (m_R 7 (0) (0)) s m args below meth c (0) (0) (m_Q D aC s0 below (fun v M' => v = some (VI ((S_nights g x.toNat) c0 i0)) ∧ (∃ B : Int → Int, mmV a (wc w 3 B) g M') ∧ m_fr a 10 M M') m_nx args s (0) (0)) 15 [(3, VI (i : Int)), (2, VI y), (1, VI x), (0, .ref a)] [] M1 := by
    intro n
    induction n with
    | zero =>
      intro i M1 hn h1 hV1 hfr
      omega
    | succ n ih =>
      intro i M1 hn h1 hV1 hfr
      have hN := (hK.nights i).1
      refine m_iload_n hC 0 dX10_after_15 rfl rfl ?_
      refine m_iload_n hC 2 dX10_after_16 rfl rfl ?_
      refine m_icmp_ge (tgt := 32) hC dX10_after_17 (by decide) (by first | omega | (simp [hs_at] <;> omega)) (fun c6 => ?_) (fun c6 => ?_)
      · obtain rfl : x.toNat = i := by omega
        refine m_aload_n hC 3 dX10_after_32 rfl rfl ?_
        refine m_getf hC dX10_after_33 kf_X10_9 hV1.ob rfl ?_
        refine m_iload_n hC 1 dX10_after_36 rfl rfl ?_
        refine m_nl hC c0 (i0) hV1 dX10_after_37 hc hy (fun t ht => hg t ht) ?_
        refine m_istore_n hC dX10_after_38 rfl (by decide) rfl ?_
        refine m_aload_n hC 3 dX10_after_39 rfl rfl ?_
        refine m_getf hC dX10_after_40 kf_X10_16 hV1.ob rfl ?_
        refine m_iconst hC dX10_after_43 ?_
        refine m_aload_n hC 3 dX10_after_44 rfl rfl ?_
        refine m_getf hC dX10_after_45 kf_X10_9 hV1.ob rfl ?_
        refine m_iconst hC dX10_after_48 ?_
        obtain ⟨A7, hA7, eA7⟩ := hV1.c1
        refine m_callS hC (t_X10_copies hF hl (x := 0) (y := 0) hV1.c3 hA7 (by omega) (by omega) (by omega) (by omega) (by omega)) dX10_after_49 kc_X10_copies kS_X10_51 rfl rfl (Nat.le_of_ble_eq_true rfl) (by decide) (by decide) m_nox (fun v9 M8 h9 => ?_)
        obtain ⟨rfl, R9, f11⟩ := h9
        have R10 := hV1.cp1 R9 f11 (eB.B (fun j hj => X_c0 hj) hB.c)
        refine m_iload_n hC 0 dX10_after_52 rfl rfl ?_
        exact m_iret hC dX10_after_53 hr (by decide) (by decide) (⟨rfl, ⟨_, R10⟩, hfr.tr (f11.mono (by omega) (by omega))⟩)
      · refine m_aload_n hC 3 dX10_after_20 rfl rfl ?_
        refine m_callV hC (t_X10_passes hF hl hV1 ha (hN.toB (by omega)) hN (by omega)) dX10_after_21 kc_X10_passes kV_X10_169 hV1.ob rfl rfl rfl rfl (Nat.le_of_ble_eq_true rfl) (by decide) (by decide) m_nox (fun v9 M12 h9 => ?_)
        obtain ⟨rfl, R13, f14⟩ := h9
        refine m_istore hC dX10_after_24 (by decide) rfl ?_
        refine m_iinc hC 1 dX10_after_26 rfl (by decide) rfl ?_
        refine m_goto (tgt := 15) hC dX10_after_29 (by decide) ?_
        refine m_lvs [0, 2, 3, 4] rfl (ih (i + 1) _ (by omega) (by omega) R13 (hfr.tr f14))
  refine m_lvs [0, 3, 2, 1] rfl (L (x.toNat + 1) 0 M2 (by omega) (by omega) hBd hfr0)

set_option maxHeartbeats 4000000 in
set_option maxRecDepth 100000 in
theorem t_X10_chestAfter {D : va_G} {aC : Nat → ClassId} {s0 : State} {l : Launch} (hF : m_F D aC s0) (hl : l.stackTraces = false) {a : Nat} {w g : h_T} {M : m_M} (hV : mmV a w g M) (ha : s0.heap.size ≤ a) (hB : h_B g) {x : Int} (hx : -2147483648 ≤ x ∧ x < 2147483648) {K : Int} (hK : h_BK K g) (hKb : K ≤ 79000000) : m_Met D aC s0 l yX10_chestAfter cX10_chestAfter 2 (some .int) 8 (0) (0) [.ref a, VI x] M (m_qx a w g (G_ca g x) M) m_nx := by
  refine m_entry (lv := [(0, .ref a), (1, VI x)]) (by decide +kernel) (Nat.le_of_ble_eq_true rfl) rfl hF hl ?_
  intro p e s m args below meth c hC hr hno hnm
  change m_C D aC s0 RX10 _ _ _ _ _ _ _ _ _ at hC
  refine m_aload_n hC 0 dX10_chestAfter_0 rfl rfl ?_
  refine m_iload_n hC 1 dX10_chestAfter_1 rfl rfl ?_
  refine m_iconst hC dX10_chestAfter_2 ?_
  refine m_bipush hC dX10_chestAfter_3 (by decide) ?_
  refine m_callS hC (t_X10_isIn hF hl (z := x) (lo := 0) (hi := 60) (by omega)) dX10_chestAfter_5 kc_X10_isIn kS_X10_69 rfl rfl (Nat.le_of_ble_eq_true rfl) (by decide) (by decide) m_nox (fun v9 M1 h9 => ?_)
  obtain ⟨rfl, h9⟩ := h9
  replace h9 := h9.symm
  subst h9
  refine m_callV hC (t_X10_goes hF hl hV ha hB (z := b01 (0 ≤ x ∧ x ≤ 60)) (by first | exact b01_r | omega)) dX10_chestAfter_8 kc_X10_goes kV_X10_61 hV.ob rfl rfl rfl rfl (Nat.le_of_ble_eq_true rfl) (by decide) (by decide) m_nox (fun v9 M2 h9 => ?_)
  obtain ⟨rfl, R3, f4⟩ := h9
  refine m_if_eq (tgt := 23) hC dX10_chestAfter_11 (by decide) b01_r (fun ch => ?_) (fun ch => ?_)
  · refine m_iconst hC dX10_chestAfter_23 ?_
    exact m_iret hC dX10_chestAfter_24 hr (by decide) (by decide) ((m_qn ch (fun h => if_neg h) R3 f4 |> m_qx.of))
  · have hv := b01_ne.mp (b01_ne.mp ch)
    rw [if_neg (b01_ne.mp ch)] at R3
    refine m_aload_n hC 0 dX10_chestAfter_14 rfl rfl ?_
    refine m_iload_n hC 1 dX10_chestAfter_15 rfl rfl ?_
    refine m_iconst hC dX10_chestAfter_16 ?_
    refine m_callV hC (t_X10_after hF hl R3 ha hB (x := x) (y := 1) hK hKb hv 0 1 rfl (by decide) (fun t ht => ht.s 1 (by omega))) dX10_chestAfter_17 kc_X10_after kV_X10_187 R3.ob rfl rfl rfl rfl (Nat.le_of_ble_eq_true rfl) (by decide) (by decide) m_nox (fun v9 M5 h9 => ?_)
    obtain ⟨rfl, ⟨B, R6⟩, f7⟩ := h9
    refine m_goto (tgt := 24) hC dX10_chestAfter_20 (by decide) ?_
    exact m_iret hC dX10_chestAfter_24 hr (by decide) (by decide) (m_qx.mk (if_pos hv) (Or.inr (Or.inl rfl)) R6 (f4.tr f7))

theorem X_day {g : h_T} {x y : Int} (k1 : 0 ≤ x ∧ x < g 0 9) (k2 : 0 ≤ y ∧ y ≤ 60) : G_da g x y = (0, S_nights g y.toNat 6 x) := by
  unfold G_da
  rw [if_neg (by omega), if_neg (by omega)]
theorem X_dan {a : Nat} {w g : h_T} {x y : Int} {M M2 : m_M} (ch : b01 (m_th (b01 (0 ≤ x ∧ x < g 0 9)) (b01 (0 ≤ y ∧ y ≤ 60)) 1 1 = 0) = 0) (hV : mmV a (hs w 0 14 (m_th (b01 (0 ≤ x ∧ x < g 0 9)) (b01 (0 ≤ y ∧ y ≤ 60)) 1 1)) g M2) (hf : m_fr a 10 M M2) : m_qx a w g (G_da g x y) M (some (VI 0)) M2 := by
  have c := b01_eq.mp ch
  refine m_qx.of ⟨?_, ?_, hf⟩
  · unfold G_da
    (repeat' split) <;> first | rfl | (exfalso; apply c; simp only [m_th, b01_eq]; (repeat' split) <;> omega)
  · have e : (G_da g x y).1 = m_th (b01 (0 ≤ x ∧ x < g 0 9)) (b01 (0 ≤ y ∧ y ≤ 60)) 1 1 := by
      unfold G_da
      (repeat' split) <;> (simp only [m_th, b01_eq]; (repeat' split) <;> first | rfl | omega)
    rw [e]
    exact hV
set_option maxHeartbeats 4000000 in
set_option maxRecDepth 100000 in
theorem t_X10_debtAfter {D : va_G} {aC : Nat → ClassId} {s0 : State} {l : Launch} (hF : m_F D aC s0) (hl : l.stackTraces = false) {a : Nat} {w g : h_T} {M : m_M} (hV : mmV a w g M) (ha : s0.heap.size ≤ a) (hB : h_B g) {x : Int} {y : Int} (hx : -2147483648 ≤ x ∧ x < 2147483648) (hy : -2147483648 ≤ y ∧ y < 2147483648) {K : Int} (hK : h_BK K g) (hKb : K ≤ 79000000) : m_Met D aC s0 l yX10_debtAfter cX10_debtAfter 3 (some .int) 8 (0) (0) [.ref a, VI x, VI y] M (m_qx a w g (G_da g x y) M) m_nx := by
  refine m_entry (lv := [(0, .ref a), (1, VI x), (2, VI y)]) (by decide +kernel) (Nat.le_of_ble_eq_true rfl) rfl hF hl ?_
  intro p e s m args below meth c hC hr hno hnm
  change m_C D aC s0 RX10 _ _ _ _ _ _ _ _ _ at hC
  have hn9 := hB.n9
  refine m_aload_n hC 0 dX10_debtAfter_0 rfl rfl ?_
  refine m_aload_n hC 0 dX10_debtAfter_1 rfl rfl ?_
  refine m_iload_n hC 1 dX10_debtAfter_2 rfl rfl ?_
  refine m_callV hC (t_X10_isGoblin hF hl hV ha hB (x := x) hx) dX10_debtAfter_3 kc_X10_isGoblin kV_X10_77 hV.ob rfl rfl rfl rfl (Nat.le_of_ble_eq_true rfl) (by decide) (by decide) m_nox (fun v9 M1 h9 => ?_)
  obtain ⟨rfl, h9⟩ := h9
  replace h9 := h9.symm
  subst h9
  refine m_iload_n hC 2 dX10_debtAfter_6 rfl rfl ?_
  refine m_iconst hC dX10_debtAfter_7 ?_
  refine m_bipush hC dX10_debtAfter_8 (by decide) ?_
  refine m_callS hC (t_X10_isIn hF hl (z := y) (lo := 0) (hi := 60) (by omega)) dX10_debtAfter_10 kc_X10_isIn kS_X10_69 rfl rfl (Nat.le_of_ble_eq_true rfl) (by decide) (by decide) m_nox (fun v9 M2 h9 => ?_)
  obtain ⟨rfl, h9⟩ := h9
  replace h9 := h9.symm
  subst h9
  refine m_iconst hC dX10_debtAfter_13 ?_
  refine m_iconst hC dX10_debtAfter_14 ?_
  refine m_callV hC (t_X10_holds hF hl hV ha hB (b1 := b01 (0 ≤ x ∧ x < g 0 9)) (b2 := b01 (0 ≤ y ∧ y ≤ 60)) (b3 := 1) (b4 := 1) (by first | exact b01_r | decide | omega) (by first | exact b01_r | decide | omega) (by first | exact b01_r | decide | omega) (by first | exact b01_r | decide | omega)) dX10_debtAfter_15 kc_X10_holds kV_X10_47 hV.ob rfl rfl rfl rfl (Nat.le_of_ble_eq_true rfl) (by decide) (by decide) m_nox (fun v9 M3 h9 => ?_)
  obtain ⟨rfl, R4, f5⟩ := h9
  refine m_if_eq (tgt := 35) hC dX10_debtAfter_18 (by decide) b01_r (fun ch => ?_) (fun ch => ?_)
  · refine m_iconst hC dX10_debtAfter_35 ?_
    exact m_iret hC dX10_debtAfter_36 hr (by decide) (by decide) (X_dan ch R4 f5)
  · have c0 := b01_ne.mp ch
    rw [c0] at R4
    obtain ⟨k1, k2, k3, k4⟩ := m_th0.mp c0
    have k1 := b01_ne.mp k1
    have k2 := b01_ne.mp k2
    refine m_aload_n hC 0 dX10_debtAfter_21 rfl rfl ?_
    refine m_iload_n hC 2 dX10_debtAfter_22 rfl rfl ?_
    refine m_aload_n hC 0 dX10_debtAfter_23 rfl rfl ?_
    refine m_iload_n hC 1 dX10_debtAfter_24 rfl rfl ?_
    refine m_iconst hC dX10_debtAfter_25 ?_
    refine m_callV hC (t_X10_place hF hl R4 ha hB (x := x) (y := 2) hx) dX10_debtAfter_26 kc_X10_place kV_X10_80 R4.ob rfl rfl rfl rfl (Nat.le_of_ble_eq_true rfl) (by decide) (by decide) m_nox (fun v9 M6 h9 => ?_)
    obtain ⟨rfl, h9⟩ := h9
    replace h9 := h9.symm
    subst h9
    rw [if_pos k1]
    refine m_callV hC (t_X10_after hF hl R4 ha hB (x := y) (y := 26 + 5 * x + 2) hK hKb k2 6 x rfl (by omega) (fun t ht => ht.go (by decide) (by rw [(hK.nights y.toNat).2.1]; exact k1))) dX10_debtAfter_29 kc_X10_after kV_X10_187 R4.ob rfl rfl rfl rfl (Nat.le_of_ble_eq_true rfl) (by decide) (by decide) m_nox (fun v9 M7 h9 => ?_)
    obtain ⟨rfl, ⟨B, R8⟩, f9⟩ := h9
    refine m_goto (tgt := 36) hC dX10_debtAfter_32 (by decide) ?_
    exact m_iret hC dX10_debtAfter_36 hr (by decide) (by decide) (m_qx.mk (X_day k1 k2) (Or.inr (Or.inl rfl)) R8 (f5.tr f9))

theorem X_tyn {a : Nat} {w g : h_T} {x : Int} {M M2 : m_M} (ch : b01 (m_th (b01 (32 ≤ x ∧ x ≤ 126)) (b01 (w 0 11 < 60)) 1 1 = 0) = 0) (hV : mmV a (hs w 0 14 (m_th (b01 (32 ≤ x ∧ x ≤ 126)) (b01 (w 0 11 < 60)) 1 1)) g M2) (hf : m_fr a 10 M M2) : (32 ≤ x ∧ x ≤ 126 ∧ w 0 11 < 60 → some (VI 0) = some (VI (w 0 11 + 1)) ∧ mmV a (hs (hs (hs w 0 14 0) 7 (w 0 11) x) 0 11 (w 0 11 + 1)) g M2) ∧ (¬ (32 ≤ x ∧ x ≤ 126 ∧ w 0 11 < 60) → some (VI 0) = some (VI 0) ∧ mmV a (hs w 0 14 (if 32 ≤ x ∧ x ≤ 126 then 2 else 1)) g M2) ∧ m_fr a 10 M M2 := by
  have c := b01_eq.mp ch
  refine ⟨fun h => absurd ?_ c, fun h => ⟨rfl, ?_⟩, hf⟩
  · simp only [m_th, b01_eq]
    (repeat' split) <;> omega
  · have e : (if 32 ≤ x ∧ x ≤ 126 then (2 : Int) else 1) = m_th (b01 (32 ≤ x ∧ x ≤ 126)) (b01 (w 0 11 < 60)) 1 1 := by
      simp only [m_th, b01_eq]
      (repeat' split) <;> omega
    rw [e]
    exact hV
set_option maxHeartbeats 4000000 in
set_option maxRecDepth 100000 in
theorem t_X10_type {D : va_G} {aC : Nat → ClassId} {s0 : State} {l : Launch} (hF : m_F D aC s0) (hl : l.stackTraces = false) {a : Nat} {w g : h_T} {M : m_M} (hV : mmV a w g M) (ha : s0.heap.size ≤ a) (hB : h_B g) {x : Int} (hx : -2147483648 ≤ x ∧ x < 2147483648) (ht : 0 ≤ w 0 11 ∧ w 0 11 ≤ 60) : m_Met D aC s0 l yX10_type cX10_type 2 (some .int) 1 (0) (0) [.ref a, VI x] M (fun v M' => (32 ≤ x ∧ x ≤ 126 ∧ w 0 11 < 60 → v = some (VI (w 0 11 + 1)) ∧ mmV a (hs (hs (hs w 0 14 0) 7 (w 0 11) x) 0 11 (w 0 11 + 1)) g M') ∧ (¬ (32 ≤ x ∧ x ≤ 126 ∧ w 0 11 < 60) → v = some (VI 0) ∧ mmV a (hs w 0 14 (if 32 ≤ x ∧ x ≤ 126 then 2 else 1)) g M') ∧ m_fr a 10 M M') m_nx := by
  refine m_entry (lv := [(0, .ref a), (1, VI x)]) (by decide +kernel) (Nat.le_of_ble_eq_true rfl) rfl hF hl ?_
  intro p e s m args below meth c hC hr hno hnm
  change m_C D aC s0 RX10 _ _ _ _ _ _ _ _ _ at hC
  refine m_aload_n hC 0 dX10_type_0 rfl rfl ?_
  refine m_iload_n hC 1 dX10_type_1 rfl rfl ?_
  refine m_bipush hC dX10_type_2 (by decide) ?_
  refine m_bipush hC dX10_type_4 (by decide) ?_
  refine m_callS hC (t_X10_isIn hF hl (z := x) (lo := 32) (hi := 126) (by omega)) dX10_type_6 kc_X10_isIn kS_X10_69 rfl rfl (Nat.le_of_ble_eq_true rfl) (by decide) (by decide) m_nox (fun v9 M1 h9 => ?_)
  obtain ⟨rfl, h9⟩ := h9
  replace h9 := h9.symm
  subst h9
  refine m_aload_n hC 0 dX10_type_9 rfl rfl ?_
  refine m_getf hC dX10_type_10 kf_X10_207 hV.ob rfl ?_
  refine m_bipush hC dX10_type_13 (by decide) ?_
  refine m_dia_icmp_ge hC dX10_type_15 dX10_type_18 dX10_type_19 dX10_type_22 rfl rfl (by first | omega | (simp [hs_at] <;> omega)) ?_
  refine m_iconst hC dX10_type_23 ?_
  refine m_iconst hC dX10_type_24 ?_
  refine m_callV hC (t_X10_holds hF hl hV ha hB (b1 := b01 (32 ≤ x ∧ x ≤ 126)) (b2 := b01 (w 0 11 < 60)) (b3 := 1) (b4 := 1) (by first | exact b01_r | decide | omega) (by first | exact b01_r | decide | omega) (by first | exact b01_r | decide | omega) (by first | exact b01_r | decide | omega)) dX10_type_25 kc_X10_holds kV_X10_47 hV.ob rfl rfl rfl rfl (Nat.le_of_ble_eq_true rfl) (by decide) (by decide) m_nox (fun v9 M2 h9 => ?_)
  obtain ⟨rfl, R3, f4⟩ := h9
  refine m_if_ne (tgt := 33) hC dX10_type_28 (by decide) b01_r (fun ch => ?_) (fun ch => ?_)
  · have c0 := b01_ne.mp ch
    rw [c0] at R3
    obtain ⟨k1, k2, k3, k4⟩ := m_th0.mp c0
    have k1 := b01_ne.mp k1
    have k2 := b01_ne.mp k2
    have e11 : hs w 0 14 0 0 11 = w 0 11 := rfl
    refine m_aload_n hC 0 dX10_type_33 rfl rfl ?_
    refine m_getf hC dX10_type_34 kf_X10_35 R3.ob rfl ?_
    refine m_aload_n hC 0 dX10_type_37 rfl rfl ?_
    refine m_getf hC dX10_type_38 kf_X10_207 R3.ob rfl ?_
    refine m_iload_n hC 1 dX10_type_41 rfl rfl ?_
    refine m_w7 hC R3 ha dX10_type_42 (by omega) (fun M5 R6 f7 => ?_)
    refine m_aload_n hC 0 dX10_type_43 rfl rfl ?_
    refine m_dup hC dX10_type_44 rfl ?_
    refine m_getf hC dX10_type_45 kf_X10_207 R6.ob rfl ?_
    refine m_iconst hC dX10_type_48 ?_
    refine m_iadd hC dX10_type_49 ?_
    refine m_ws11 hC R6 ha dX10_type_50 kf_X10_207 (fun M8 R9 f10 => ?_)
    refine m_aload_n hC 0 dX10_type_53 rfl rfl ?_
    refine m_getf hC dX10_type_54 kf_X10_207 R9.ob rfl ?_
    exact m_iret hC dX10_type_57 hr (by decide) (by decide) (⟨fun _ => ⟨rfl, R9⟩, fun z => absurd ⟨k1.1, k1.2, k2⟩ z, (f4.tr (f7.tr f10))⟩)
  · refine m_iconst hC dX10_type_31 ?_
    exact m_iret hC dX10_type_32 hr (by decide) (by decide) (X_tyn ch R3 f4)

set_option maxHeartbeats 4000000 in
set_option maxRecDepth 100000 in
theorem t_X10_outputAt {D : va_G} {aC : Nat → ClassId} {s0 : State} {l : Launch} (hF : m_F D aC s0) (hl : l.stackTraces = false) {a : Nat} {w g : h_T} {M : m_M} (hV : mmV a w g M) (ha : s0.heap.size ≤ a) (hB : h_B g) {x : Int} (hx : -2147483648 ≤ x ∧ x < 2147483648) (ho : 0 ≤ w 0 13 ∧ w 0 13 ≤ 240) (hb : ∀ i : Int, 0 ≤ i → i < w 0 13 → 0 ≤ w 8 i ∧ w 8 i < 128) : m_Met D aC s0 l yX10_outputAt cX10_outputAt 2 (some .char) 2 (0) (0) [.ref a, VI x] M (m_qu a w g (G_if (0 ≤ x ∧ x < w 0 13) (w 8 x)) M) m_nx := by
  refine m_entry (lv := [(0, .ref a), (1, VI x)]) (by decide +kernel) (Nat.le_of_ble_eq_true rfl) rfl hF hl ?_
  intro p e s m args below meth c hC hr hno hnm
  change m_C D aC s0 RX10 _ _ _ _ _ _ _ _ _ at hC
  refine m_aload_n hC 0 dX10_outputAt_0 rfl rfl ?_
  refine m_iload_n hC 1 dX10_outputAt_1 rfl rfl ?_
  refine m_iconst hC dX10_outputAt_2 ?_
  refine m_aload_n hC 0 dX10_outputAt_3 rfl rfl ?_
  refine m_getf hC dX10_outputAt_4 kf_X10_201 hV.ob rfl ?_
  refine m_iconst hC dX10_outputAt_7 ?_
  refine m_isub hC dX10_outputAt_8 ?_
  refine m_callS hC (t_X10_isIn hF hl (z := x) (lo := 0) (hi := w 0 13 - 1) (by omega)) dX10_outputAt_9 kc_X10_isIn kS_X10_69 rfl rfl (Nat.le_of_ble_eq_true rfl) (by decide) (by decide) m_nox (fun v9 M1 h9 => ?_)
  obtain ⟨rfl, h9⟩ := h9
  replace h9 := h9.symm
  subst h9
  refine m_callV hC (t_X10_goes hF hl hV ha hB (z := b01 (0 ≤ x ∧ x ≤ w 0 13 - 1)) (by first | exact b01_r | omega)) dX10_outputAt_12 kc_X10_goes kV_X10_61 hV.ob rfl rfl rfl rfl (Nat.le_of_ble_eq_true rfl) (by decide) (by decide) m_nox (fun v9 M2 h9 => ?_)
  obtain ⟨rfl, R3, f4⟩ := h9
  refine m_if_eq (tgt := 28) hC dX10_outputAt_15 (by decide) b01_r (fun ch => ?_) (fun ch => ?_)
  · refine m_iconst hC dX10_outputAt_28 ?_
    exact m_zret hC dX10_outputAt_29 hr (by first | rfl | exact k_char (by show 0 ≤ w 8 x ∧ w 8 x < 256; omega)) (by decide) (by decide) (m_qn ch (fun h => if_neg (by omega)) R3 f4)
  · have hv := b01_ne.mp (b01_ne.mp ch)
    have hbx := hb x hv.1 (by omega)
    refine m_aload_n hC 0 dX10_outputAt_18 rfl rfl ?_
    refine m_getf hC dX10_outputAt_19 kf_X10_38 R3.ob rfl ?_
    refine m_iload_n hC 1 dX10_outputAt_22 rfl rfl ?_
    refine m_iald hC dX10_outputAt_23 R3.c8 (by decide) (by omega) ?_
    refine m_i2c hC dX10_outputAt_24 (by show 0 ≤ w 8 x ∧ w 8 x < 256; omega) ?_
    refine m_goto (tgt := 29) hC dX10_outputAt_25 (by decide) ?_
    exact m_zret hC dX10_outputAt_29 hr (by first | rfl | exact k_char (by show 0 ≤ w 8 x ∧ w 8 x < 256; omega)) (by decide) (by decide) (m_qy ch (fun h => if_pos (by omega)) R3 f4)

