/-! the means: dust and reliability, of the class and of the reference -/
theorem kd_X9_283 : Cond.constantDouble RX9 283 4618441417868443648 ∈ lwg := lwg_of (List.mem_append_right _ (List.mem_of_getElem? (i := 382) (by decide +kernel))) rfl
theorem kd_X10_193 : Cond.constantDouble RX10 193 4618441417868443648 ∈ lwg := lwg_of (List.mem_append_right _ (List.mem_of_getElem? (i := 1889) (by decide +kernel))) rfl
def S_du (g : h_T) : Int := h_sum (fun j => g 1 j) 6
def S_mean (g : h_T) : Value := .double (FP.ddiv (FP.i2d (Int32.ofInt (S_du g))) 4618441417868443648)
def S_rel (g : h_T) : UInt32 := FP.fdiv (FP.i2f (Int32.ofInt (g 0 4))) (FP.i2f (Int32.ofInt (g 0 4 + g 0 5)))
theorem S_du_bd {g : h_T} (h : h_B g) : 0 ≤ S_du g ∧ S_du g ≤ 594 := by
  have := h_sum_bd (f := fun j => g 1 j) (B := 99) (n := 6) (by decide) (fun j hj => h.du hj)
  unfold S_du
  exact ⟨this.1, Int.le_trans this.2 (by decide)⟩
theorem S_du_k {g : h_T} (h : h_B g) {k : Int} (hk : 0 ≤ k ∧ k ≤ 6) : 0 ≤ h_sum (fun j => g 1 j) k.toNat ∧ h_sum (fun j => g 1 j) k.toNat ≤ 594 := by
  have := h_sum_bd (f := fun j => g 1 j) (B := 99) (n := k) (by decide) (fun j hj => h.du (by omega))
  refine ⟨this.1, Int.le_trans this.2 ?_⟩
  have : ((k.toNat : Nat) : Int) ≤ 6 := by omega
  omega
set_option maxHeartbeats 4000000 in
set_option maxRecDepth 100000 in
theorem t_X9_meanDust {D : va_G} {aC : Nat → ClassId} {s0 : State} {l : Launch} (hF : m_F D aC s0) (hl : l.stackTraces = false) {x : Nat} {q : Int → Int} {g : h_T} {M : m_M} (hX : m_TH s0) (hO : gO x q M) (hR : hhR (x + 1) g M) (hB : h_B g) : m_Met D aC s0 l yX9_meanDust cX9_meanDust 3 (some .double) 0 (470) (940) [.ref x] M (fun v M' => v = some (S_mean g) ∧ M' = M) m_nx := by
  refine m_entry (lv := [(0, .ref x)]) (by decide +kernel) (Nat.le_of_ble_eq_true rfl) rfl hF hl ?_
  intro p e s m args below meth c hC hr hno hnm
  change m_C D aC s0 RX9 _ _ _ _ _ _ _ _ _ at hC
  refine m_iconst hC dX9_meanDust_0 ?_
  refine m_istore_n hC dX9_meanDust_1 rfl (by decide) rfl ?_
  refine m_iconst hC dX9_meanDust_2 ?_
  refine m_istore_n hC dX9_meanDust_3 rfl (by decide) rfl ?_
  have LL : ∀ (n : Nat) (k : Int), 6 - k < (n : Int) → 0 ≤ k → k ≤ 6 → m_W D aC s0 3 p l e (m_R 0 (470) (940)) s m args below meth c (0) (0) (m_Q D aC s0 below (fun v M' => v = some (S_mean g) ∧ M' = M) m_nx args s (470) (940)) 4 [(2, VI k), (1, VI (h_sum (fun j => g 1 j) k.toNat)), (0, .ref x)] [] M := by
    intro n
    induction n with
    | zero =>
      intro k hn k0 k1
      omega
    | succ n ih =>
      intro k hn k0 k1
      have hbk := S_du_k hB (k := k) (by omega)
      refine m_iload_n hC 0 dX9_meanDust_4 rfl rfl ?_
      refine m_bipush hC dX9_meanDust_5 (by decide) ?_
      refine m_icmp_ge (tgt := 28) hC dX9_meanDust_7 (by decide) (by first | omega | (simp [hs_at] <;> omega)) (fun c1 => ?_) (fun c1 => ?_)
      · obtain rfl : k = 6 := by omega
        have he : h_sum (fun j => g 1 j) (6 : Int).toNat = S_du g := rfl
        rw [he]
        refine m_iload_n hC 1 dX9_meanDust_28 rfl rfl ?_
        refine m_i2d hC dX9_meanDust_29 ?_
        refine m_ldcd hC dX9_meanDust_30 kd_X9_283 ?_
        refine m_ddiv hC dX9_meanDust_33 (f_mean_ok (S_du_bd hB)) ?_
        exact m_dret hC dX9_meanDust_34 hr (Nat.le_of_ble_eq_true rfl) (Nat.le_of_ble_eq_true rfl) (⟨rfl, rfl⟩)
      · refine m_iload_n hC 1 dX9_meanDust_10 rfl rfl ?_
        refine m_aload_n hC 2 dX9_meanDust_11 rfl rfl ?_
        refine m_getf hC dX9_meanDust_12 kf_X9_12 hO rfl ?_
        refine m_getf hC dX9_meanDust_15 kf_X9_136 hR.ob rfl ?_
        refine m_iload_n hC 0 dX9_meanDust_18 rfl rfl ?_
        refine m_ld1 hC hR dX9_meanDust_19 (by first | omega | (simp [hs_at] <;> omega)) (by first | omega | (simp [hs_at] <;> omega)) ?_
        refine m_iadd hC dX9_meanDust_20 ?_
        refine m_istore_n hC dX9_meanDust_21 rfl (by decide) rfl ?_
        rw [← h_sum_succ (fun j => g 1 j) k0]
        refine m_iinc hC 1 dX9_meanDust_22 rfl (by decide) rfl ?_
        refine m_goto (tgt := 4) hC dX9_meanDust_25 (by decide) ?_
        refine m_lvs [0, 1, 2] rfl (ih (k + 1) (by omega) (by omega) (by omega))
  refine m_lvs [0, 1, 2] rfl (LL 7 0 (by decide) (by decide) (by decide))

set_option maxHeartbeats 4000000 in
set_option maxRecDepth 100000 in
theorem t_X9_reliability {D : va_G} {aC : Nat → ClassId} {s0 : State} {l : Launch} (hF : m_F D aC s0) (hl : l.stackTraces = false) {x : Nat} {q : Int → Int} {g : h_T} {M : m_M} (hX : m_TH s0) (hO : gO x q M) (hR : hhR (x + 1) g M) (hB : h_B g) : m_Met D aC s0 l yX9_reliability cX9_reliability 2 (some .float) 6 (470) (940) [.ref x] M (fun v M' => g 0 4 + g 0 5 ≠ 0 ∧ v = some (.float (S_rel g)) ∧ M' = M) (fun E M' => (g 0 4 + g 0 5 = 0 ∧ E = eM) ∧ M.1 ≤ M'.1 ∧ M'.2 = M.2) := by
  refine m_entry (lv := [(0, .ref x)]) (by decide +kernel) (Nat.le_of_ble_eq_true rfl) rfl hF hl ?_
  intro p e s m args below meth c hC hr hno hnm
  change m_C D aC s0 RX9 _ _ _ _ _ _ _ _ _ at hC
  have h4 := hB.s 4 (by decide)
  have h5 := hB.s 5 (by decide)
  refine m_aload_n hC 0 dX9_reliability_0 rfl rfl ?_
  refine m_getf hC dX9_reliability_1 kf_X9_12 hO rfl ?_
  refine m_getf hC dX9_reliability_4 kf_X9_271 hR.ob rfl ?_
  refine m_aload_n hC 0 dX9_reliability_7 rfl rfl ?_
  refine m_getf hC dX9_reliability_8 kf_X9_12 hO rfl ?_
  refine m_getf hC dX9_reliability_11 kf_X9_274 hR.ob rfl ?_
  refine m_iadd hC dX9_reliability_14 ?_
  refine m_istore_n hC dX9_reliability_15 rfl (by decide) rfl ?_
  refine m_iload_n hC 0 dX9_reliability_16 rfl rfl ?_
  refine m_if_ne (tgt := 31) hC dX9_reliability_17 (by decide) (by first | omega | (simp [hs_at] <;> omega)) (fun c1 => ?_) (fun c1 => ?_)
  · refine m_aload_n hC 1 dX9_reliability_31 rfl rfl ?_
    refine m_getf hC dX9_reliability_32 kf_X9_12 hO rfl ?_
    refine m_getf hC dX9_reliability_35 kf_X9_271 hR.ob rfl ?_
    refine m_i2f hC dX9_reliability_38 ?_
    refine m_iload_n hC 0 dX9_reliability_39 rfl rfl ?_
    refine m_i2f hC dX9_reliability_40 ?_
    refine m_fdiv hC dX9_reliability_41 (fdiv_ok (by omega)) ?_
    exact m_fret hC dX9_reliability_42 hr (Nat.le_of_ble_eq_true rfl) (Nat.le_of_ble_eq_true rfl) (⟨by omega, rfl, rfl⟩)
  · exact m_thrW hC hX (ic := 289) (cls := "java/lang/ArithmeticException") (is := 287) (text := "no contract is done or broken") (by decide) (by decide) (by decide +kernel) kX_285 kXi_285 ⟨by decide +kernel, by decide +kernel⟩ dX9_reliability_20 dX9_reliability_23 dX9_reliability_24 dX9_reliability_27 dX9_reliability_30 hno (by decide) (Nat.le_of_ble_eq_true rfl) (Nat.le_of_ble_eq_true rfl) (Nat.le_of_ble_eq_true rfl) (Nat.le_of_ble_eq_true rfl) (Nat.le_of_ble_eq_true rfl) (fun M9 e1 e2 => ⟨⟨by omega, rfl⟩, e1, e2⟩)

set_option maxHeartbeats 4000000 in
set_option maxRecDepth 100000 in
theorem t_X10_meanDust {D : va_G} {aC : Nat → ClassId} {s0 : State} {l : Launch} (hF : m_F D aC s0) (hl : l.stackTraces = false) {a : Nat} {w g : h_T} {M : m_M} (hV : mmV a w g M) (ha : s0.heap.size ≤ a) (hB : h_B g) : m_Met D aC s0 l yX10_meanDust cX10_meanDust 3 (some .double) 0 (0) (0) [.ref a] M (fun v M' => v = some (S_mean g) ∧ mmV a (hs w 0 14 0) g M' ∧ m_fr a 10 M M') m_nx := by
  refine m_entry (lv := [(0, .ref a)]) (by decide +kernel) (Nat.le_of_ble_eq_true rfl) rfl hF hl ?_
  intro p e s m args below meth c hC hr hno hnm
  change m_C D aC s0 RX10 _ _ _ _ _ _ _ _ _ at hC
  refine m_aload_n hC 0 dX10_meanDust_0 rfl rfl ?_
  refine m_iconst hC dX10_meanDust_1 ?_
  refine m_ws14 hC hV ha dX10_meanDust_2 kf_X10_44 (fun M1 R2 f3 => ?_)
  refine m_iconst hC dX10_meanDust_5 ?_
  refine m_istore_n hC dX10_meanDust_6 rfl (by decide) rfl ?_
  refine m_iconst hC dX10_meanDust_7 ?_
  refine m_istore_n hC dX10_meanDust_8 rfl (by decide) rfl ?_
  have hfr0 : m_fr a 10 M M1 := f3
  have LL : ∀ (n : Nat) (k : Int), 6 - k < (n : Int) → 0 ≤ k → k ≤ 6 → m_W D aC s0 3 p l e (m_R 0 (0) (0)) s m args below meth c (0) (0) (m_Q D aC s0 below (fun v M' => v = some (S_mean g) ∧ mmV a (hs w 0 14 0) g M' ∧ m_fr a 10 M M') m_nx args s (0) (0)) 9 [(2, VI k), (1, VI (h_sum (fun j => g 1 j) k.toNat)), (0, .ref a)] [] M1 := by
    intro n
    induction n with
    | zero =>
      intro k hn k0 k1
      omega
    | succ n ih =>
      intro k hn k0 k1
      have hbk := S_du_k hB (k := k) (by omega)
      refine m_iload_n hC 0 dX10_meanDust_9 rfl rfl ?_
      refine m_bipush hC dX10_meanDust_10 (by decide) ?_
      refine m_icmp_ge (tgt := 33) hC dX10_meanDust_12 (by decide) (by first | omega | (simp [hs_at] <;> omega)) (fun c4 => ?_) (fun c4 => ?_)
      · obtain rfl : k = 6 := by omega
        have he : h_sum (fun j => g 1 j) (6 : Int).toNat = S_du g := rfl
        rw [he]
        refine m_iload_n hC 1 dX10_meanDust_33 rfl rfl ?_
        refine m_i2d hC dX10_meanDust_34 ?_
        refine m_ldcd hC dX10_meanDust_35 kd_X10_193 ?_
        refine m_ddiv hC dX10_meanDust_38 (f_mean_ok (S_du_bd hB)) ?_
        exact m_dret hC dX10_meanDust_39 hr (by decide) (by decide) (⟨rfl, R2, hfr0⟩)
      · refine m_iload_n hC 1 dX10_meanDust_15 rfl rfl ?_
        refine m_aload_n hC 2 dX10_meanDust_16 rfl rfl ?_
        refine m_getf hC dX10_meanDust_17 kf_X10_9 R2.ob rfl ?_
        refine m_bipush hC dX10_meanDust_20 (by decide) ?_
        refine m_iload_n hC 0 dX10_meanDust_22 rfl rfl ?_
        refine m_iadd hC dX10_meanDust_23 ?_
        refine m_n1 hC (k) R2 dX10_meanDust_24 (by omega) (by omega) (by decide) ?_
        refine m_iadd hC dX10_meanDust_25 ?_
        refine m_istore_n hC dX10_meanDust_26 rfl (by decide) rfl ?_
        rw [← h_sum_succ (fun j => g 1 j) k0]
        refine m_iinc hC 1 dX10_meanDust_27 rfl (by decide) rfl ?_
        refine m_goto (tgt := 9) hC dX10_meanDust_30 (by decide) ?_
        refine m_lvs [0, 1, 2] rfl (ih (k + 1) (by omega) (by omega) (by omega))
  refine m_lvs [0, 1, 2] rfl (LL 7 0 (by decide) (by decide) (by decide))

set_option maxHeartbeats 4000000 in
set_option maxRecDepth 100000 in
theorem t_X10_reliability {D : va_G} {aC : Nat → ClassId} {s0 : State} {l : Launch} (hF : m_F D aC s0) (hl : l.stackTraces = false) {a : Nat} {w g : h_T} {M : m_M} (hV : mmV a w g M) (ha : s0.heap.size ≤ a) (hB : h_B g) : m_Met D aC s0 l yX10_reliability cX10_reliability 2 (some .float) 2 (0) (0) [.ref a] M (fun v M' => (0 < g 0 4 + g 0 5 ∧ v = some (.float (S_rel g)) ∧ mmV a (hs w 0 14 0) g M' ∨ g 0 4 + g 0 5 = 0 ∧ v = some (.float FP.fconst0) ∧ mmV a (hs w 0 14 1) g M') ∧ m_fr a 10 M M') m_nx := by
  refine m_entry (lv := [(0, .ref a)]) (by decide +kernel) (Nat.le_of_ble_eq_true rfl) rfl hF hl ?_
  intro p e s m args below meth c hC hr hno hnm
  change m_C D aC s0 RX10 _ _ _ _ _ _ _ _ _ at hC
  have h4 := hB.s 4 (by decide)
  have h5 := hB.s 5 (by decide)
  refine m_aload_n hC 0 dX10_reliability_0 rfl rfl ?_
  refine m_getf hC dX10_reliability_1 kf_X10_9 hV.ob rfl ?_
  refine m_iconst hC dX10_reliability_4 ?_
  refine m_n0 hC hV dX10_reliability_5 (show 0 ≤ (4 : Int) ∧ (4 : Int) < 12 by omega) ?_
  refine m_aload_n hC 0 dX10_reliability_6 rfl rfl ?_
  refine m_getf hC dX10_reliability_7 kf_X10_9 hV.ob rfl ?_
  refine m_iconst hC dX10_reliability_10 ?_
  refine m_n0 hC hV dX10_reliability_11 (show 0 ≤ (5 : Int) ∧ (5 : Int) < 12 by omega) ?_
  refine m_iadd hC dX10_reliability_12 ?_
  refine m_istore_n hC dX10_reliability_13 rfl (by decide) rfl ?_
  refine m_aload_n hC 1 dX10_reliability_14 rfl rfl ?_
  refine m_iload_n hC 0 dX10_reliability_15 rfl rfl ?_
  refine m_dia_if_le hC dX10_reliability_16 dX10_reliability_19 dX10_reliability_20 dX10_reliability_23 rfl rfl (by first | omega | (simp [hs_at] <;> omega)) ?_
  refine m_callV hC (t_X10_goes hF hl hV ha hB (z := b01 (0 < g 0 4 + g 0 5)) (by first | exact b01_r | omega)) dX10_reliability_24 kc_X10_goes kV_X10_61 hV.ob rfl rfl rfl rfl (Nat.le_of_ble_eq_true rfl) (by decide) (by decide) m_nox (fun v9 M1 h9 => ?_)
  obtain ⟨rfl, R2, f3⟩ := h9
  refine m_if_eq (tgt := 43) hC dX10_reliability_27 (by decide) b01_r (fun c27 => ?_) (fun c27 => ?_)
  · have hP : ¬ (0 < g 0 4 + g 0 5) := fun q => absurd (b01_eq.mp c27) (by rw [b01_t q]; decide)
    rw [if_pos (b01_f hP)] at R2
    refine m_fc0 hC dX10_reliability_43 ?_
    exact m_fret hC dX10_reliability_44 hr (by decide) (by decide) (⟨Or.inr ⟨by omega, rfl, R2⟩, f3⟩)
  · have hP : (0 < g 0 4 + g 0 5) := b01_ne.mp (b01_ne.mp c27)
    rw [if_neg (b01_ne.mp c27)] at R2
    refine m_aload_n hC 1 dX10_reliability_30 rfl rfl ?_
    refine m_getf hC dX10_reliability_31 kf_X10_9 R2.ob rfl ?_
    refine m_iconst hC dX10_reliability_34 ?_
    refine m_n0 hC R2 dX10_reliability_35 (show 0 ≤ (4 : Int) ∧ (4 : Int) < 12 by omega) ?_
    refine m_i2f hC dX10_reliability_36 ?_
    refine m_iload_n hC 0 dX10_reliability_37 rfl rfl ?_
    refine m_i2f hC dX10_reliability_38 ?_
    refine m_fdiv hC dX10_reliability_39 (fdiv_ok (by omega)) ?_
    refine m_goto (tgt := 44) hC dX10_reliability_40 (by decide) ?_
    exact m_fret hC dX10_reliability_44 hr (by decide) (by decide) (⟨Or.inl ⟨hP, rfl, R2⟩, f3⟩)

