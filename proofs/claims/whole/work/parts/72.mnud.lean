theorem X_night8 {g : h_T} {K : Int} (hg : h_BK K g) (hK : K ≤ 80000000) {z : Int} (hz : 0 ≤ z ∧ z < g 0 9) : S_night g 8 z = g 8 z := by
  have h := (X_night (T := S_tm (S_n1 g) (g 0 9).toNat) (m := S_tc (S_n1 g) (g 0 9).toNat) (n := (g 0 9).toNat) hg hK rfl rfl rfl).1
  have n11 := hg.n11
  have e11 : S_n1 g 0 11 = g 0 11 := S_n1_n (by decide)
  rw [← h.go (c := 8) (by decide) (by rw [hg.night.2.1]; exact hz), S_rw_c (by decide)]
  show S_gn _ _ 8 z = _
  rw [S_gn_oc (by decide), (X_tmR (g := S_n1 g) (by omega) _).2.2.1, S_n1_co (by decide)]
theorem X_nights8 {g : h_T} {K : Int} (hg : h_BK K g) (hK : K ≤ 79000000) {z : Int} (hz : 0 ≤ z ∧ z < g 0 9) : ∀ k : Nat, k ≤ 60 → S_nights g k 8 z = g 8 z := by
  intro k
  induction k with
  | zero => intro _; rfl
  | succ k ih =>
    intro hk
    have hn := hg.nights k
    rw [S_nights, X_night8 hn.1 (by omega) (by rw [hn.2.1]; exact hz), ih (by omega)]
theorem X_nsR {g : h_T} {K : Int} (hg : h_BK K g) (hK : K ≤ 79000000) {y z : Int} : ∀ k : Nat, k ≤ 60 → hasR (S_nights g k) y z → hasR g y z := by
  intro k
  induction k with
  | zero => intro _ h; exact h
  | succ k ih => intro hk h; exact ih (by omega) ((X_nightR (hg.nights k).1 (by omega)).1 y z h)
theorem X_asc1 {g : h_T} (hU : h_asc g) (h0 : 0 ≤ g 0 11) {y z : Int} (h : hasR g y z) : z = g 10 (S_pos g y) := by
  obtain ⟨i, hi, h9, h10⟩ := h
  rcases S_pos_rg (g := g) y h0 with h1 | ⟨h1, h2, h3⟩
  · exact absurd h1 (hasR.pos ⟨i, hi, h9, h10⟩)
  · by_cases q : i < S_pos g y
    · have := hU _ _ hi.1 q h2
      omega
    · by_cases q2 : S_pos g y < i
      · have := hU _ _ h1 q2 hi.2
        omega
      · rw [show S_pos g y = i by omega]
        exact h10.symm
/-- gone in this night, of a goblin that rests: broken -/
theorem X_nbr {g : h_T} {K : Int} (hg : h_BK K g) (hK : K ≤ 79000000) (hU : h_asc g) {y : Int} {i : Nat} (hi : i < 60) (hp : S_pos g y ≠ -1) (h1 : S_pos (S_nights g i) y ≠ -1) (h2 : S_pos (S_nights g (i + 1)) y = -1) (hr : g 8 (g 10 (S_pos g y)) ≠ 0) : S_nights g i 0 5 < S_nights g (i + 1) 0 5 := by
  have hn := hg.nights i
  have n11 := hn.1.n11
  have g11 := hg.n11
  have hh := hasR.of n11.1 h1
  have e := X_asc1 hU g11.1 (X_nsR hg hK i (by omega) hh)
  have hx := hg.co (i := S_pos g y) (by have := S_pos_rg (g := g) y g11.1; omega)
  have hN := X_nightR hn.1 (by omega)
  have h8 := X_nights8 hg hK (z := g 10 (S_pos g y)) (by omega) i (by omega)
  have hge := hN.2.2
  by_cases q : S_night (S_nights g i) 0 5 = S_nights g i 0 5
  · exact absurd h2 (hN.2.1 _ _ (by rw [e, h8]; exact hr) hh q).pos
  · rw [S_nights]
    omega
theorem X_nudE {g : h_T} {y : Int} {i : Nat} (hi : i ≤ 60) (hp : S_pos g y ≠ -1) (hno : ∀ j : Nat, j < i → S_pos (S_nights g j) y ≠ -1) (he : i = 60 ∨ S_pos (S_nights g i) y = -1) : S_nud g y = if 1 ≤ i ∧ S_pos (S_nights g i) y = -1 then (i : Int) else -1 := by
  unfold S_nud
  rcases h_find_rg (p := fun k => decide (S_pos (S_nights g k.toNat) y = -1)) 60 1 (by omega) with h | ⟨h1, h2, h3, h4⟩
  · rw [h]
    by_cases q : 1 ≤ i ∧ S_pos (S_nights g i) y = -1
    · have := h_find_no (p := fun k => decide (S_pos (S_nights g k.toNat) y = -1)) 60 1 h (by omega) (i : Int) (by omega) (by omega)
      simp [q.2] at this
    · rw [if_neg q]
  · obtain ⟨f, hf⟩ : ∃ f, f = h_find (fun k => decide (S_pos (S_nights g k.toNat) y = -1)) 60 1 := ⟨_, rfl⟩
    rw [← hf] at h1 h2 h3 h4 ⊢
    have h3 := of_decide_eq_true h3
    have hfi : (i : Int) ≤ f := by
      by_cases q : f < (i : Int)
      · exact absurd h3 (hno f.toNat (by omega))
      · omega
    by_cases q : 1 ≤ i ∧ S_pos (S_nights g i) y = -1
    · rw [if_pos q]
      by_cases z : (i : Int) < f
      · have := h4 (i : Int) (by omega) z
        simp [q.2] at this
      · omega
    · rcases he with rfl | he
      · rw [show f.toNat = 60 by omega] at h3
        exact absurd ⟨by omega, h3⟩ q
      · have : i = 0 := by
          by_cases z : i = 0
          · exact z
          · exact absurd ⟨by omega, he⟩ q
        subst this
        exact absurd he hp
theorem X_nudF {g : h_T} {y f : Int} {i : Nat} (hi : i ≤ 60) (hno : ∀ j : Nat, j < i → S_pos (S_nights g j) y ≠ -1) (he : i = 60 ∨ S_pos (S_nights g i) y = -1) (hf : f = if 1 ≤ i ∧ S_pos (S_nights g i) y = -1 ∧ g 8 (g 10 (S_pos g y)) = 0 then (i : Int) else -1) : G_nud g y = (m_th (b01 (S_pos g y ≠ -1)) (b01 (f ≠ -1)) 1 1, if m_th (b01 (S_pos g y ≠ -1)) (b01 (f ≠ -1)) 1 1 = 0 then f else 0) := by
  unfold G_nud
  by_cases hp : S_pos g y = -1
  · have e : m_th (b01 (S_pos g y ≠ -1)) (b01 (f ≠ -1)) 1 1 = 1 := by
      unfold m_th
      rw [if_pos (b01_f (fun z => z hp))]
    rw [if_pos hp, e]
    rfl
  · have e0 : m_th (b01 (S_pos g y ≠ -1)) (b01 (f ≠ -1)) 1 1 = if f = -1 then 2 else 0 := by
      unfold m_th
      rw [if_neg (b01_ne.mpr hp)]
      by_cases z : f = -1
      · rw [if_pos (b01_f (fun q => q z)), if_pos z]
      · rw [if_neg (b01_ne.mpr z), if_neg z]
        rfl
    rw [if_neg hp, e0]
    by_cases hr : g 8 (g 10 (S_pos g y)) ≠ 0
    · rw [if_pos hr]
      have : f = -1 := by rw [hf, if_neg (fun q => hr q.2.2)]
      rw [if_pos this]
      rfl
    · have hr0 : g 8 (g 10 (S_pos g y)) = 0 := by omega
      rw [if_neg hr, X_nudE hi hp hno he]
      by_cases z : 1 ≤ i ∧ S_pos (S_nights g i) y = -1
      · have hfi : f = (i : Int) := by rw [hf, if_pos ⟨z.1, z.2, hr0⟩]
        rw [if_pos z, if_neg (by omega), if_neg (by omega), hfi]
        rfl
      · have hfi : f = -1 := by rw [hf, if_neg (fun q => z ⟨q.1, q.2.1⟩)]
        rw [if_neg z, if_pos rfl, if_pos hfi]
        rfl
set_option maxHeartbeats 4000000 in
set_option maxRecDepth 100000 in
theorem t_X10_wasBroken {D : va_G} {aC : Nat → ClassId} {s0 : State} {l : Launch} (hF : m_F D aC s0) (hl : l.stackTraces = false) {a : Nat} {w g : h_T} {M : m_M} (hV : mmV a w g M) (ha : s0.heap.size ≤ a) (hB : h_B g) {y : Int} {br : Int} {g0 : h_T} (h3 : h_eq (tA (w 3)) g0) (hB0 : h_B g0) (hU0 : h_asc g0) (hp : S_pos g0 y ≠ -1) (h9 : g 0 9 = g0 0 9) (hy : -2147483648 ≤ y ∧ y < 2147483648) (hbr : -2147483648 ≤ br ∧ br < 2147483648) : m_Met D aC s0 l yX10_wasBroken cX10_wasBroken 6 (some .boolean) 4 (0) (0) [.ref a, VI y, VI br] M (fun v M' => v = some (VI (b01 (br < g 0 5 ∧ g 8 (g0 10 (S_pos g0 y)) = 1))) ∧ M' = M) m_nx := by
  refine m_entry (lv := [(0, .ref a), (1, VI y), (2, VI br)]) (by decide +kernel) (Nat.le_of_ble_eq_true rfl) rfl hF hl ?_
  intro p e s m args below meth c hC hr hno hnm
  change m_C D aC s0 RX10 _ _ _ _ _ _ _ _ _ at hC
  have hn11 := hB0.n11
  have hn9 := hB0.n9
  have e11 : w 3 11 = g0 0 11 := h3.s 11 (by omega)
  refine m_iconst hC dX10_wasBroken_0 ?_
  refine m_istore_n hC dX10_wasBroken_1 rfl (by decide) rfl ?_
  refine m_iconst hC dX10_wasBroken_2 ?_
  refine m_istore hC dX10_wasBroken_3 (by decide) rfl ?_
  have L : ∀ (n : Nat) (k q f : Int), g0 0 11 - k < (n : Int) → 0 ≤ k → k ≤ g0 0 11 → q = (if f = -1 then -1 else g0 10 f) → f = h_find (fun i => decide (g0 9 i = y)) k.toNat 0 → m_W D aC s0 6 p l e (m_R 4 (0) (0)) s m args below meth c (0) (0) (m_Q D aC s0 below (fun v M' => v = some (VI (b01 (br < g 0 5 ∧ g 8 (g0 10 (S_pos g0 y)) = 1))) ∧ M' = M) m_nx args s (0) (0)) 5 [(4, VI k), (3, VI q), (2, VI br), (1, VI y), (0, .ref a)] [] M := by
    intro n
    induction n with
    | zero =>
      intro k q f hn h0 h1 hq hf
      omega
    | succ n ih =>
      intro k q f hn h0 h1 hq hf
      refine m_iload hC 0 dX10_wasBroken_5 rfl ?_
      refine m_aload_n hC 4 dX10_wasBroken_7 rfl rfl ?_
      refine m_getf hC dX10_wasBroken_8 kf_X10_16 hV.ob rfl ?_
      refine m_bipush hC dX10_wasBroken_11 (by decide) ?_
      refine m_iald hC dX10_wasBroken_13 hV.c3 (by decide) (by decide) ?_
      rw [e11]
      refine m_icmp_ge (tgt := 59) hC dX10_wasBroken_14 (by decide) (by first | omega | (simp [hs_at] <;> omega)) (fun ck => ?_) (fun ck => ?_)
      · have hfp : f = S_pos g0 y := by rw [hf]; unfold S_pos; rw [show k.toNat = (g0 0 11).toNat by omega]
        have hqq : q = g0 10 (S_pos g0 y) := by rw [hq, hfp, if_neg hp]
        subst hqq
        have hps := S_pos_rg (g := g0) y (by omega)
        have hco := hB0.co (i := S_pos g0 y) (by omega)
        have hgo := hB.go (i := g0 10 (S_pos g0 y)) (by omega)
        have h5 := hB.s 5 (by omega)
        refine m_aload_n hC 4 dX10_wasBroken_59 rfl rfl ?_
        refine m_getf hC dX10_wasBroken_60 kf_X10_9 hV.ob rfl ?_
        refine m_iconst hC dX10_wasBroken_63 ?_
        refine m_n0 hC hV dX10_wasBroken_64 (by decide) ?_
        refine m_iload_n hC 2 dX10_wasBroken_65 rfl rfl ?_
        refine m_icmp_le (tgt := 83) hC dX10_wasBroken_66 (by decide) (by first | omega | (simp [hs_at] <;> omega)) (fun c66 => ?_) (fun c66 => ?_)
        · refine m_iconst hC dX10_wasBroken_83 ?_
          exact m_zret hC dX10_wasBroken_84 hr (by first | rfl | exact b01_nz) (by decide) (by decide) (⟨by first | exact b01_s0 (by omega) | exact b01_s (by omega), rfl⟩)
        · refine m_aload_n hC 4 dX10_wasBroken_69 rfl rfl ?_
          refine m_iload_n hC 1 dX10_wasBroken_70 rfl rfl ?_
          refine m_iconst hC dX10_wasBroken_71 ?_
          refine m_callV hC (t_X10_of hF hl hV ha hB (x := g0 10 (S_pos g0 y)) (y := 4) 8 rfl (by decide) (by omega)) dX10_wasBroken_72 kc_X10_of kV_X10_95 hV.ob rfl rfl rfl rfl (Nat.le_of_ble_eq_true rfl) (by decide) (by decide) m_nox (fun v9 M1 h9 => ?_)
          obtain ⟨rfl, h9⟩ := h9
          replace h9 := h9.symm
          subst h9
          refine m_iconst hC dX10_wasBroken_75 ?_
          refine m_dia_icmp_ne hC dX10_wasBroken_76 dX10_wasBroken_79 dX10_wasBroken_80 dX10_wasBroken_83 rfl rfl (by first | omega | (simp [hs_at] <;> omega)) ?_
          exact m_zret hC dX10_wasBroken_84 hr (by first | rfl | exact b01_nz) (by decide) (by decide) (⟨by first | exact b01_s0 (by omega) | exact b01_s (by omega), rfl⟩)
      · have hco := hB0.co (i := k) (by omega)
        have e9 : w 3 (51 + 5 * k + 0) = g0 9 k := h3.co (c := 9) (by decide) (by omega)
        have e10 : w 3 (51 + 5 * k + 1) = g0 10 k := h3.co (c := 10) (by decide) (by omega)
        refine m_bipush hC dX10_wasBroken_17 (by decide) ?_
        refine m_iconst hC dX10_wasBroken_19 ?_
        refine m_iload hC 0 dX10_wasBroken_20 rfl ?_
        refine m_imul hC dX10_wasBroken_22 ?_
        refine m_iadd hC dX10_wasBroken_23 ?_
        refine m_istore hC dX10_wasBroken_24 (by decide) rfl ?_
        refine m_aload_n hC 5 dX10_wasBroken_26 rfl rfl ?_
        refine m_getf hC dX10_wasBroken_27 kf_X10_16 hV.ob rfl ?_
        refine m_iload hC 0 dX10_wasBroken_30 rfl ?_
        refine m_iconst hC dX10_wasBroken_32 ?_
        refine m_iadd hC dX10_wasBroken_33 ?_
        refine m_iald hC dX10_wasBroken_34 hV.c3 (by decide) (by omega) ?_
        rw [e9]
        refine m_iload_n hC 4 dX10_wasBroken_35 rfl rfl ?_
        refine m_icmp_ne (tgt := 51) hC dX10_wasBroken_36 (by decide) (by first | omega | (simp [hs_at] <;> omega)) (fun cq => ?_) (fun cq => ?_)
        · refine m_iload_n hC 2 dX10_wasBroken_51 rfl rfl ?_
          refine m_istore_n hC dX10_wasBroken_52 rfl (by decide) rfl ?_
          refine m_iinc hC 2 dX10_wasBroken_53 rfl (by decide) rfl ?_
          refine m_goto (tgt := 5) hC dX10_wasBroken_56 (by decide) ?_
          refine m_lvs [0, 1, 3, 4, 5] rfl (ih (k + 1) q f (by omega) (by omega) (by omega) hq (X_fk h0 hf cq))
        · refine m_aload_n hC 5 dX10_wasBroken_39 rfl rfl ?_
          refine m_getf hC dX10_wasBroken_40 kf_X10_16 hV.ob rfl ?_
          refine m_iload hC 0 dX10_wasBroken_43 rfl ?_
          refine m_iconst hC dX10_wasBroken_45 ?_
          refine m_iadd hC dX10_wasBroken_46 ?_
          refine m_iald hC dX10_wasBroken_47 hV.c3 (by decide) (by omega) ?_
          rw [e10]
          refine m_goto (tgt := 52) hC dX10_wasBroken_48 (by decide) ?_
          refine m_istore_n hC dX10_wasBroken_52 rfl (by decide) rfl ?_
          refine m_iinc hC 2 dX10_wasBroken_53 rfl (by decide) rfl ?_
          refine m_goto (tgt := 5) hC dX10_wasBroken_56 (by decide) ?_
          refine m_lvs [0, 1, 3, 4, 5] rfl (ih (k + 1) (g0 10 k) k (by omega) (by omega) (by omega) (if_neg (by omega)).symm (X_fn hU0 h0 (by omega) cq))
  refine m_lvs [0, 1, 4, 3, 2] rfl (L 9 0 (-1) (-1) (by omega) (by omega) (by omega) rfl rfl)

theorem X_p0 {g : h_T} {y : Int} {i : Nat} (hno : ∀ j : Nat, j < i → S_pos (S_nights g j) y ≠ -1) (h : S_pos (S_nights g i) y ≠ -1) : S_pos g y ≠ -1 := by
  cases i with
  | zero => exact h
  | succ i => exact hno 0 (by omega)
theorem X_f0 {g : h_T} {y f : Int} {i : Nat} (hno : ∀ j : Nat, j < i → S_pos (S_nights g j) y ≠ -1) (h : S_pos (S_nights g i) y ≠ -1) (hf : f = if 1 ≤ i ∧ S_pos (S_nights g i) y = -1 ∧ g 8 (g 10 (S_pos g y)) = 0 then (i : Int) else -1) (c : ¬ S_pos (S_nights g (i + 1)) y = -1) : f = if 1 ≤ i + 1 ∧ S_pos (S_nights g (i + 1)) y = -1 ∧ g 8 (g 10 (S_pos g y)) = 0 then ((i + 1 : Nat) : Int) else -1 := by
  rw [hf, if_neg (fun z => h z.2.1), if_neg (fun z => c z.2.1)]
theorem X_f1 {g : h_T} {K : Int} (hg : h_BK K g) (hK : K ≤ 79000000) (hU : h_asc g) {y : Int} {i : Nat} (hi : i < 60) (hp : S_pos g y ≠ -1) (h : S_pos (S_nights g i) y ≠ -1) (c : S_pos (S_nights g (i + 1)) y = -1) (c2 : ¬ (S_nights g i 0 5 < S_nights g (i + 1) 0 5 ∧ S_nights g (i + 1) 8 (g 10 (S_pos g y)) = 1)) (h8 : S_nights g (i + 1) 8 (g 10 (S_pos g y)) = g 8 (g 10 (S_pos g y))) : (i : Int) + 1 = if 1 ≤ i + 1 ∧ S_pos (S_nights g (i + 1)) y = -1 ∧ g 8 (g 10 (S_pos g y)) = 0 then ((i + 1 : Nat) : Int) else -1 := by
  have hx := hg.co (i := S_pos g y) (by have := S_pos_rg (g := g) y hg.n11.1; omega)
  have hgo := (hg.go (i := g 10 (S_pos g y)) (by omega)).2.2.2.2.2.2.2.2
  have hr : g 8 (g 10 (S_pos g y)) = 0 := by
    rcases hgo with q | q
    · exact q
    · exact absurd ⟨X_nbr hg hK hU hi hp h c (by omega), by rw [h8]; exact q⟩ c2
  rw [if_pos ⟨by omega, c, hr⟩]
  rfl
theorem X_f2 {g : h_T} {y f : Int} {i : Nat} (h : S_pos (S_nights g i) y ≠ -1) (hf : f = if 1 ≤ i ∧ S_pos (S_nights g i) y = -1 ∧ g 8 (g 10 (S_pos g y)) = 0 then (i : Int) else -1) (c : S_nights g i 0 5 < S_nights g (i + 1) 0 5 ∧ S_nights g (i + 1) 8 (g 10 (S_pos g y)) = 1) (h8 : S_nights g (i + 1) 8 (g 10 (S_pos g y)) = g 8 (g 10 (S_pos g y))) : f = if 1 ≤ i + 1 ∧ S_pos (S_nights g (i + 1)) y = -1 ∧ g 8 (g 10 (S_pos g y)) = 0 then ((i + 1 : Nat) : Int) else -1 := by
  rw [hf, if_neg (fun z => h z.2.1), if_neg (fun z => by omega)]
theorem X_nuy {a : Nat} {w g : h_T} {y f : Int} {i : Nat} {B : Int → Int} {M M2 : m_M} (hi : i ≤ 60) (hno : ∀ j : Nat, j < i → S_pos (S_nights g j) y ≠ -1) (he : i = 60 ∨ S_pos (S_nights g i) y = -1) (hf : f = if 1 ≤ i ∧ S_pos (S_nights g i) y = -1 ∧ g 8 (g 10 (S_pos g y)) = 0 then (i : Int) else -1) (ch : b01 (m_th (b01 (S_pos g y ≠ -1)) (b01 (f ≠ -1)) 1 1 = 0) ≠ 0) (hV : mmV a (hs (wc w 3 B) 0 14 (m_th (b01 (S_pos g y ≠ -1)) (b01 (f ≠ -1)) 1 1)) g M2) (hfr : m_fr a 10 M M2) : m_qx a w g (G_nud g y) M (some (VI f)) M2 := by
  rw [X_nudF hi hno he hf, if_pos (b01_ne.mp ch)]
  exact ⟨rfl, ⟨_, hV, hs_s, fun k hk => hs_i (by omega), fun c hc => (hs_c (by omega)).trans (wc_n (by omega))⟩, hfr⟩
theorem X_nun {a : Nat} {w g : h_T} {y f : Int} {i : Nat} {B : Int → Int} {M M2 : m_M} (hi : i ≤ 60) (hno : ∀ j : Nat, j < i → S_pos (S_nights g j) y ≠ -1) (he : i = 60 ∨ S_pos (S_nights g i) y = -1) (hf : f = if 1 ≤ i ∧ S_pos (S_nights g i) y = -1 ∧ g 8 (g 10 (S_pos g y)) = 0 then (i : Int) else -1) (ch : b01 (m_th (b01 (S_pos g y ≠ -1)) (b01 (f ≠ -1)) 1 1 = 0) = 0) (hV : mmV a (hs (wc w 3 B) 0 14 (m_th (b01 (S_pos g y ≠ -1)) (b01 (f ≠ -1)) 1 1)) g M2) (hfr : m_fr a 10 M M2) : m_qx a w g (G_nud g y) M (some (VI 0)) M2 := by
  rw [X_nudF hi hno he hf, if_neg (b01_eq.mp ch)]
  exact ⟨rfl, ⟨_, hV, hs_s, fun k hk => hs_i (by omega), fun c hc => (hs_c (by omega)).trans (wc_n (by omega))⟩, hfr⟩
set_option maxHeartbeats 4000000 in
set_option maxRecDepth 100000 in
theorem t_X10_nightsUntilDone {D : va_G} {aC : Nat → ClassId} {s0 : State} {l : Launch} (hF : m_F D aC s0) (hl : l.stackTraces = false) {a : Nat} {w g : h_T} {M : m_M} (hV : mmV a w g M) (ha : s0.heap.size ≤ a) (hB : h_B g) {y : Int} (hy : -2147483648 ≤ y ∧ y < 2147483648) {K : Int} (hI : h_I K g) (hKb : K ≤ 78000000) : m_Met D aC s0 l yX10_nightsUntilDone cX10_nightsUntilDone 8 (some .int) 7 (0) (0) [.ref a, VI y] M (m_qx a w g (G_nud g y) M) m_nx := by
  refine m_entry (lv := [(0, .ref a), (1, VI y)]) (by decide +kernel) (Nat.le_of_ble_eq_true rfl) rfl hF hl ?_
  intro p e s m args below meth c hC hr hno hnm
  change m_C D aC s0 RX10 _ _ _ _ _ _ _ _ _ at hC
  have hB := hI.1.toB (by omega)
  have hU : h_asc g := hI.2.2.2.1
  have hn11 := hB.n11
  have hn9 := hB.n9
  have hps := S_pos_rg (g := g) y hn11.1
  refine m_aload_n hC 0 dX10_nightsUntilDone_0 rfl rfl ?_
  refine m_iload_n hC 1 dX10_nightsUntilDone_1 rfl rfl ?_
  refine m_callV hC (t_X10_find hF hl hV ha hB (x := y) hy hU) dX10_nightsUntilDone_2 kc_X10_find kV_X10_132 hV.ob rfl rfl rfl rfl (Nat.le_of_ble_eq_true rfl) (by decide) (by decide) m_nox (fun v9 M1 h9 => ?_)
  obtain ⟨rfl, h9⟩ := h9
  replace h9 := h9.symm
  subst h9
  refine m_iconst hC dX10_nightsUntilDone_5 ?_
  refine m_dia_icmp_eq hC dX10_nightsUntilDone_6 dX10_nightsUntilDone_9 dX10_nightsUntilDone_10 dX10_nightsUntilDone_13 rfl rfl (by omega) ?_
  refine m_istore_n hC dX10_nightsUntilDone_14 rfl (by decide) rfl ?_
  refine m_iconst hC dX10_nightsUntilDone_15 ?_
  refine m_istore_n hC dX10_nightsUntilDone_16 rfl (by decide) rfl ?_
  refine m_aload_n hC 2 dX10_nightsUntilDone_17 rfl rfl ?_
  refine m_getf hC dX10_nightsUntilDone_18 kf_X10_9 hV.ob rfl ?_
  refine m_iconst hC dX10_nightsUntilDone_21 ?_
  refine m_aload_n hC 2 dX10_nightsUntilDone_22 rfl rfl ?_
  refine m_getf hC dX10_nightsUntilDone_23 kf_X10_16 hV.ob rfl ?_
  refine m_iconst hC dX10_nightsUntilDone_26 ?_
  obtain ⟨A2, hA2, eA2⟩ := hV.c1
  refine m_callS hC (t_X10_copies hF hl (x := 0) (y := 0) hA2 hV.c3 (by omega) (by omega) (by omega) (by omega) (by omega)) dX10_nightsUntilDone_27 kc_X10_copies kS_X10_51 rfl rfl (Nat.le_of_ble_eq_true rfl) (by decide) (by decide) m_nox (fun v9 M3 h9 => ?_)
  obtain ⟨rfl, R4, f6⟩ := h9
  have R5 := hV.cp3 R4 f6
  obtain ⟨B, hBd, eB⟩ : ∃ B : Int → Int, mmV a (wc w 3 B) g M3 ∧ h_eq (tA B) g := ⟨_, R5, eA2.B (fun j hj => X_c0 hj) hB.c⟩
  have hfr0 : m_fr a 10 M M3 := (f6.mono (by omega) (by omega))
  refine m_iconst hC dX10_nightsUntilDone_30 ?_
  refine m_istore hC dX10_nightsUntilDone_31 (by decide) rfl ?_
  have L : ∀ (n : Nat) (i : Nat) (f : Int) (M1 : m_M), 61 - (i : Int) < (n : Int) → i ≤ 60 → mmV a (wc w 3 B) (S_nights g i) M1 → m_fr a 10 M M1 → (∀ j : Nat, j < i → S_pos (S_nights g j) y ≠ -1) → f = (if 1 ≤ i ∧ S_pos (S_nights g i) y = -1 ∧ g 8 (g 10 (S_pos g y)) = 0 then (i : Int) else -1) → m_W D aC s0 8 p l e (m_R 7 (0) (0)) s m args below meth c (0) (0) (m_Q D aC s0 below (m_qx a w g (G_nud g y) M) m_nx args s (0) (0)) 33 [(4, VI ((i : Int) + 1)), (3, VI f), (2, VI (b01 (S_pos g y ≠ -1))), (1, VI y), (0, .ref a)] [] M1 := by
    intro n
    induction n with
    | zero =>
      intro i f M1 hn h1 hV1 hfr hno hf
      omega
    | succ n ih =>
      intro i f M1 hn h1 hV1 hfr hno hf
      have hN := hI.1.nights i
      have hn11i := hN.1.n11
      have hpi := S_pos_rg (g := S_nights g i) y hn11i.1
      have h5i := hN.1.s 5 (by omega)
      have hfr9 : -1 ≤ f ∧ f ≤ 60 := by rw [hf]; split <;> omega
      refine m_iload hC 0 dX10_nightsUntilDone_33 rfl ?_
      refine m_bipush hC dX10_nightsUntilDone_35 (by decide) ?_
      refine m_icmp_gt (tgt := 107) hC dX10_nightsUntilDone_37 (by decide) (by first | omega | (simp [hs_at] <;> omega)) (fun c37 => ?_) (fun c37 => ?_)
      · have hex : i = 60 ∨ S_pos (S_nights g i) y = -1 := by omega
        refine m_aload_n hC 4 dX10_nightsUntilDone_107 rfl rfl ?_
        refine m_getf hC dX10_nightsUntilDone_108 kf_X10_16 hV1.ob rfl ?_
        refine m_iconst hC dX10_nightsUntilDone_111 ?_
        refine m_aload_n hC 4 dX10_nightsUntilDone_112 rfl rfl ?_
        refine m_getf hC dX10_nightsUntilDone_113 kf_X10_9 hV1.ob rfl ?_
        refine m_iconst hC dX10_nightsUntilDone_116 ?_
        obtain ⟨A7, hA7, eA7⟩ := hV1.c1
        refine m_callS hC (t_X10_copies hF hl (x := 0) (y := 0) hV1.c3 hA7 (by omega) (by omega) (by omega) (by omega) (by omega)) dX10_nightsUntilDone_117 kc_X10_copies kS_X10_51 rfl rfl (Nat.le_of_ble_eq_true rfl) (by decide) (by decide) m_nox (fun v9 M8 h9 => ?_)
        obtain ⟨rfl, R9, f11⟩ := h9
        have R10 := hV1.cp1 R9 f11 (eB.B (fun j hj => X_c0 hj) hB.c)
        refine m_aload_n hC 4 dX10_nightsUntilDone_120 rfl rfl ?_
        refine m_iload_n hC 2 dX10_nightsUntilDone_121 rfl rfl ?_
        refine m_iload_n hC 1 dX10_nightsUntilDone_122 rfl rfl ?_
        refine m_iconst hC dX10_nightsUntilDone_123 ?_
        refine m_dia_icmp_eq hC dX10_nightsUntilDone_124 dX10_nightsUntilDone_127 dX10_nightsUntilDone_128 dX10_nightsUntilDone_131 rfl rfl (by first | omega | (simp [hs_at] <;> omega)) ?_
        refine m_iconst hC dX10_nightsUntilDone_132 ?_
        refine m_iconst hC dX10_nightsUntilDone_133 ?_
        refine m_callV hC (t_X10_holds hF hl R10 ha hB (b1 := b01 (S_pos g y ≠ -1)) (b2 := b01 (f ≠ -1)) (b3 := 1) (b4 := 1) (by first | exact b01_r | decide | omega) (by first | exact b01_r | decide | omega) (by first | exact b01_r | decide | omega) (by first | exact b01_r | decide | omega)) dX10_nightsUntilDone_134 kc_X10_holds kV_X10_47 R10.ob rfl rfl rfl rfl (Nat.le_of_ble_eq_true rfl) (by decide) (by decide) m_nox (fun v9 M12 h9 => ?_)
        obtain ⟨rfl, R13, f14⟩ := h9
        refine m_if_eq (tgt := 144) hC dX10_nightsUntilDone_137 (by decide) b01_r (fun ch => ?_) (fun ch => ?_)
        · refine m_iconst hC dX10_nightsUntilDone_144 ?_
          exact m_iret hC dX10_nightsUntilDone_145 hr (by decide) (by decide) (X_nun h1 hno hex hf ch R13 (hfr.tr ((f11.mono (by omega) (by omega)).tr f14)))
        · refine m_iload_n hC 1 dX10_nightsUntilDone_140 rfl rfl ?_
          refine m_goto (tgt := 145) hC dX10_nightsUntilDone_141 (by decide) ?_
          exact m_iret hC dX10_nightsUntilDone_145 hr (by decide) (by decide) (X_nuy h1 hno hex hf ch R13 (hfr.tr ((f11.mono (by omega) (by omega)).tr f14)))
      · refine m_aload_n hC 4 dX10_nightsUntilDone_40 rfl rfl ?_
        refine m_iload_n hC 3 dX10_nightsUntilDone_41 rfl rfl ?_
        refine m_callV hC (t_X10_find hF hl hV1 ha ((hI.1.nights i).1.toB (by omega)) (x := y) hy (h_W.nights hI.1 hI.2 i).2.2.1) dX10_nightsUntilDone_42 kc_X10_find kV_X10_132 hV1.ob rfl rfl rfl rfl (Nat.le_of_ble_eq_true rfl) (by decide) (by decide) m_nox (fun v9 M15 h9 => ?_)
        obtain ⟨rfl, h9⟩ := h9
        replace h9 := h9.symm
        subst h9
        refine m_iconst hC dX10_nightsUntilDone_45 ?_
        refine m_icmp_eq (tgt := 107) hC dX10_nightsUntilDone_46 (by decide) (by first | omega | (simp [hs_at] <;> omega)) (fun c46 => ?_) (fun c46 => ?_)
        · have hex : i = 60 ∨ S_pos (S_nights g i) y = -1 := by omega
          refine m_aload_n hC 4 dX10_nightsUntilDone_107 rfl rfl ?_
          refine m_getf hC dX10_nightsUntilDone_108 kf_X10_16 hV1.ob rfl ?_
          refine m_iconst hC dX10_nightsUntilDone_111 ?_
          refine m_aload_n hC 4 dX10_nightsUntilDone_112 rfl rfl ?_
          refine m_getf hC dX10_nightsUntilDone_113 kf_X10_9 hV1.ob rfl ?_
          refine m_iconst hC dX10_nightsUntilDone_116 ?_
          obtain ⟨A16, hA16, eA16⟩ := hV1.c1
          refine m_callS hC (t_X10_copies hF hl (x := 0) (y := 0) hV1.c3 hA16 (by omega) (by omega) (by omega) (by omega) (by omega)) dX10_nightsUntilDone_117 kc_X10_copies kS_X10_51 rfl rfl (Nat.le_of_ble_eq_true rfl) (by decide) (by decide) m_nox (fun v9 M17 h9 => ?_)
          obtain ⟨rfl, R18, f20⟩ := h9
          have R19 := hV1.cp1 R18 f20 (eB.B (fun j hj => X_c0 hj) hB.c)
          refine m_aload_n hC 4 dX10_nightsUntilDone_120 rfl rfl ?_
          refine m_iload_n hC 2 dX10_nightsUntilDone_121 rfl rfl ?_
          refine m_iload_n hC 1 dX10_nightsUntilDone_122 rfl rfl ?_
          refine m_iconst hC dX10_nightsUntilDone_123 ?_
          refine m_dia_icmp_eq hC dX10_nightsUntilDone_124 dX10_nightsUntilDone_127 dX10_nightsUntilDone_128 dX10_nightsUntilDone_131 rfl rfl (by first | omega | (simp [hs_at] <;> omega)) ?_
          refine m_iconst hC dX10_nightsUntilDone_132 ?_
          refine m_iconst hC dX10_nightsUntilDone_133 ?_
          refine m_callV hC (t_X10_holds hF hl R19 ha hB (b1 := b01 (S_pos g y ≠ -1)) (b2 := b01 (f ≠ -1)) (b3 := 1) (b4 := 1) (by first | exact b01_r | decide | omega) (by first | exact b01_r | decide | omega) (by first | exact b01_r | decide | omega) (by first | exact b01_r | decide | omega)) dX10_nightsUntilDone_134 kc_X10_holds kV_X10_47 R19.ob rfl rfl rfl rfl (Nat.le_of_ble_eq_true rfl) (by decide) (by decide) m_nox (fun v9 M21 h9 => ?_)
          obtain ⟨rfl, R22, f23⟩ := h9
          refine m_if_eq (tgt := 144) hC dX10_nightsUntilDone_137 (by decide) b01_r (fun ch => ?_) (fun ch => ?_)
          · refine m_iconst hC dX10_nightsUntilDone_144 ?_
            exact m_iret hC dX10_nightsUntilDone_145 hr (by decide) (by decide) (X_nun h1 hno hex hf ch R22 (hfr.tr ((f20.mono (by omega) (by omega)).tr f23)))
          · refine m_iload_n hC 1 dX10_nightsUntilDone_140 rfl rfl ?_
            refine m_goto (tgt := 145) hC dX10_nightsUntilDone_141 (by decide) ?_
            exact m_iret hC dX10_nightsUntilDone_145 hr (by decide) (by decide) (X_nuy h1 hno hex hf ch R22 (hfr.tr ((f20.mono (by omega) (by omega)).tr f23)))
        · have hN2 := hI.1.nights (i + 1)
          have hn11j := hN2.1.n11
          have hpj := S_pos_rg (g := S_nights g (i + 1)) y hn11j.1
          have hp0 : S_pos g y ≠ -1 := X_p0 hno c46
          have hcx := hB.co (i := S_pos g y) (by omega)
          have hx8 := X_nights8 hI.1 (by omega) (z := g 10 (S_pos g y)) (by omega) (i + 1) (by omega)
          refine m_aload_n hC 4 dX10_nightsUntilDone_49 rfl rfl ?_
          refine m_getf hC dX10_nightsUntilDone_50 kf_X10_9 hV1.ob rfl ?_
          refine m_iconst hC dX10_nightsUntilDone_53 ?_
          refine m_n0 hC hV1 dX10_nightsUntilDone_54 (by decide) ?_
          refine m_istore hC dX10_nightsUntilDone_55 (by decide) rfl ?_
          refine m_aload_n hC 5 dX10_nightsUntilDone_57 rfl rfl ?_
          refine m_callV hC (t_X10_passes hF hl hV1 ha (hN.1.toB (by omega)) hN.1 (by omega)) dX10_nightsUntilDone_58 kc_X10_passes kV_X10_169 hV1.ob rfl rfl rfl rfl (Nat.le_of_ble_eq_true rfl) (by decide) (by decide) m_nox (fun v9 M24 h9 => ?_)
          obtain ⟨rfl, R25, f26⟩ := h9
          have R27 : mmV a (wc w 3 B) (S_nights g (i + 1)) M24 := R25
          refine m_istore hC dX10_nightsUntilDone_61 (by decide) rfl ?_
          refine m_aload_n hC 6 dX10_nightsUntilDone_63 rfl rfl ?_
          refine m_iload_n hC 5 dX10_nightsUntilDone_64 rfl rfl ?_
          refine m_callV hC (t_X10_find hF hl R27 ha ((hI.1.nights (i + 1)).1.toB (by omega)) (x := y) hy (h_W.nights hI.1 hI.2 (i + 1)).2.2.1) dX10_nightsUntilDone_65 kc_X10_find kV_X10_132 R27.ob rfl rfl rfl rfl (Nat.le_of_ble_eq_true rfl) (by decide) (by decide) m_nox (fun v9 M28 h9 => ?_)
          obtain ⟨rfl, h9⟩ := h9
          replace h9 := h9.symm
          subst h9
          refine m_iconst hC dX10_nightsUntilDone_68 ?_
          refine m_dia_icmp_ne hC dX10_nightsUntilDone_69 dX10_nightsUntilDone_72 dX10_nightsUntilDone_73 dX10_nightsUntilDone_76 rfl rfl (by first | omega | (simp [hs_at] <;> omega)) ?_
          refine m_istore hC dX10_nightsUntilDone_77 (by decide) rfl ?_
          refine m_iload hC 0 dX10_nightsUntilDone_79 rfl ?_
          refine m_if_eq (tgt := 99) hC dX10_nightsUntilDone_81 (by decide) b01_r (fun c81 => ?_) (fun c81 => ?_)
          · refine m_iload_n hC 4 dX10_nightsUntilDone_99 rfl rfl ?_
            refine m_istore_n hC dX10_nightsUntilDone_100 rfl (by decide) rfl ?_
            refine m_iinc hC 4 dX10_nightsUntilDone_101 rfl (by decide) rfl ?_
            refine m_goto (tgt := 33) hC dX10_nightsUntilDone_104 (by decide) ?_
            refine m_lvs [0, 1, 5, 6, 7] rfl (ih (i + 1) f _ (by omega) (by omega) R27 (hfr.tr f26) (fun j hj => by by_cases z : j = i; exact z ▸ c46; exact hno j (by omega)) (X_f0 hno c46 hf (b01_eq.mp c81)))
          · refine m_aload_n hC 7 dX10_nightsUntilDone_84 rfl rfl ?_
            refine m_iload_n hC 6 dX10_nightsUntilDone_85 rfl rfl ?_
            refine m_iload hC 2 dX10_nightsUntilDone_86 rfl ?_
            refine m_callV hC (t_X10_wasBroken hF hl R27 ha (hN2.1.toB (by omega)) (y := y) (br := S_nights g i 0 5) eB hB hU hp0 hN2.2.1 hy (by omega)) dX10_nightsUntilDone_88 kc_X10_wasBroken kV_X10_184 R27.ob rfl rfl rfl rfl (Nat.le_of_ble_eq_true rfl) (by decide) (by decide) m_nox (fun v9 M29 h9 => ?_)
            obtain ⟨rfl, h9⟩ := h9
            replace h9 := h9.symm
            subst h9
            refine m_if_ne (tgt := 99) hC dX10_nightsUntilDone_91 (by decide) b01_r (fun c91 => ?_) (fun c91 => ?_)
            · refine m_iload_n hC 4 dX10_nightsUntilDone_99 rfl rfl ?_
              refine m_istore_n hC dX10_nightsUntilDone_100 rfl (by decide) rfl ?_
              refine m_iinc hC 4 dX10_nightsUntilDone_101 rfl (by decide) rfl ?_
              refine m_goto (tgt := 33) hC dX10_nightsUntilDone_104 (by decide) ?_
              refine m_lvs [0, 1, 5, 6, 7] rfl (ih (i + 1) f _ (by omega) (by omega) R27 (hfr.tr f26) (fun j hj => by by_cases z : j = i; exact z ▸ c46; exact hno j (by omega)) (X_f2 c46 hf (b01_ne.mp c91) hx8))
            · refine m_iload hC 3 dX10_nightsUntilDone_94 rfl ?_
              refine m_goto (tgt := 100) hC dX10_nightsUntilDone_96 (by decide) ?_
              refine m_istore_n hC dX10_nightsUntilDone_100 rfl (by decide) rfl ?_
              refine m_iinc hC 4 dX10_nightsUntilDone_101 rfl (by decide) rfl ?_
              refine m_goto (tgt := 33) hC dX10_nightsUntilDone_104 (by decide) ?_
              refine m_lvs [0, 1, 5, 6, 7] rfl (ih (i + 1) ((i : Int) + 1) _ (by omega) (by omega) R27 (hfr.tr f26) (fun j hj => by by_cases z : j = i; exact z ▸ c46; exact hno j (by omega)) (X_f1 hI.1 (by omega) hU (by omega) hp0 c46 (b01_ne.mp c81) (b01_eq.mp c91) hx8))
  refine m_lvs [0, 1, 2, 4, 3] rfl (L 62 0 (-1) M3 (by omega) (by omega) hBd hfr0 (fun j hj => absurd hj (Nat.not_lt_zero _)) (by rw [if_neg (by omega)]))

