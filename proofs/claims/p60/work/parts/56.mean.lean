/-! the means: dust and reliability, of the class and of the reference -/
theorem kd_X9_283 : Cond.constantDouble RX9 283 4618441417868443648 ∈ lwg := lwg_of (List.mem_append_right _ (List.mem_of_getElem? (i := 1194) (by decide +kernel))) rfl
def S_du (g : h_T) : Int := h_sum (fun j => g 1 j) 6
def S_mean (g : h_T) : Value := .double (FP.ddiv (FP.i2d (Int32.ofInt (S_du g))) 4618441417868443648)
def S_rel (g : h_T) : UInt32 := FP.fdiv (FP.i2f (Int32.ofInt (g 0 4))) (FP.i2f (Int32.ofInt (g 0 4 + g 0 5)))
theorem S_du_bd {g : h_T} (h : h_B g) : 0 ≤ S_du g ∧ S_du g ≤ 594 := by
  have := h_sum_bd (f := fun j => g 1 j) (B := 99) (n := 6) (by decide) (fun j hj => h.du hj)
  unfold S_du
  exact ⟨this.1, Int.le_trans this.2 (by decide)⟩
theorem S_du_k {g : h_T} (h : h_B g) {k : Int} (hk : 0 ≤ k ∧ k ≤ 6) : 0 ≤ h_sum (fun j => g 1 j) k.toNat ∧ h_sum (fun j => g 1 j) k.toNat ≤ 594 := by
  have := h_sum_bd (f := fun j => g 1 j) (B := 99) (n := k) (by decide) (fun j hj => h.du (by omega))
  refine ⟨this.1, Int.le_trans this.2 ?_⟩
  have : ((k.toNat : Nat) : Int) ≤ 6 := by omega
  omega
set_option maxHeartbeats 4000000 in
set_option maxRecDepth 100000 in
theorem t_X9_meanDust {D : va_G} {aC : Nat → ClassId} {s0 : State} {l : Launch} (hF : m_F D aC s0) (hl : l.stackTraces = false) {x : Nat} {q : Int → Int} {g : h_T} {M : m_M} (hX : m_TH s0) (hO : gO x q M) (hR : hhR (x + 1) g M) (hB : h_B g) : m_Met D aC s0 l yX9_meanDust cX9_meanDust 3 (some .double) 0 (470) (940) [.ref x] M (fun v M' => v = some (S_mean g) ∧ M' = M) m_nx := by
  refine m_entry (lv := [(0, .ref x)]) (by decide +kernel) (Nat.le_of_ble_eq_true rfl) rfl hF hl ?_
  intro p e s m args below meth c hC hr hno hnm
  change m_C D aC s0 RX9 _ _ _ _ _ _ _ _ _ at hC
  refine m_iconst hC dX9_meanDust_0 ?_
  refine m_istore_n hC dX9_meanDust_1 rfl (by decide) rfl ?_
  refine m_iconst hC dX9_meanDust_2 ?_
  refine m_istore_n hC dX9_meanDust_3 rfl (by decide) rfl ?_
  have LL : ∀ (n : Nat) (k : Int), 6 - k < (n : Int) → 0 ≤ k → k ≤ 6 → m_W D aC s0 3 p l e (m_R 0 (470) (940)) s m args below meth c (0) (0) (m_Q D aC s0 below (fun v M' => v = some (S_mean g) ∧ M' = M) m_nx args s (470) (940)) 4 [(2, VI k), (1, VI (h_sum (fun j => g 1 j) k.toNat)), (0, .ref x)] [] M := by
    intro n
    induction n with
    | zero =>
      intro k hn k0 k1
      omega
    | succ n ih =>
      intro k hn k0 k1
      have hbk := S_du_k hB (k := k) (by omega)
      refine m_iload_n hC 0 dX9_meanDust_4 rfl rfl ?_
      refine m_bipush hC dX9_meanDust_5 (by decide) ?_
      refine m_icmp_ge (tgt := 28) hC dX9_meanDust_7 (by decide) (by first | omega | (simp [hs_at] <;> omega)) (fun c1 => ?_) (fun c1 => ?_)
      · obtain rfl : k = 6 := by omega
        have he : h_sum (fun j => g 1 j) (6 : Int).toNat = S_du g := rfl
        rw [he]
        refine m_iload_n hC 1 dX9_meanDust_28 rfl rfl ?_
        refine m_i2d hC dX9_meanDust_29 ?_
        refine m_ldcd hC dX9_meanDust_30 kd_X9_283 ?_
        refine m_ddiv hC dX9_meanDust_33 (f_mean_ok (S_du_bd hB)) ?_
        exact m_dret hC dX9_meanDust_34 hr (Nat.le_of_ble_eq_true rfl) (Nat.le_of_ble_eq_true rfl) (⟨rfl, rfl⟩)
      · refine m_iload_n hC 1 dX9_meanDust_10 rfl rfl ?_
        refine m_aload_n hC 2 dX9_meanDust_11 rfl rfl ?_
        refine m_getf hC dX9_meanDust_12 kf_X9_12 hO rfl ?_
        refine m_getf hC dX9_meanDust_15 kf_X9_136 hR.ob rfl ?_
        refine m_iload_n hC 0 dX9_meanDust_18 rfl rfl ?_
        refine m_ld1 hC hR dX9_meanDust_19 (by first | omega | (simp [hs_at] <;> omega)) (by first | omega | (simp [hs_at] <;> omega)) ?_
        refine m_iadd hC dX9_meanDust_20 ?_
        refine m_istore_n hC dX9_meanDust_21 rfl (by decide) rfl ?_
        rw [← h_sum_succ (fun j => g 1 j) k0]
        refine m_iinc hC 1 dX9_meanDust_22 rfl (by decide) rfl ?_
        refine m_goto (tgt := 4) hC dX9_meanDust_25 (by decide) ?_
        refine m_lvs [0, 1, 2] rfl (ih (k + 1) (by omega) (by omega) (by omega))
  refine m_lvs [0, 1, 2] rfl (LL 7 0 (by decide) (by decide) (by decide))

set_option maxHeartbeats 4000000 in
set_option maxRecDepth 100000 in
theorem t_X9_reliability {D : va_G} {aC : Nat → ClassId} {s0 : State} {l : Launch} (hF : m_F D aC s0) (hl : l.stackTraces = false) {x : Nat} {q : Int → Int} {g : h_T} {M : m_M} (hX : m_TH s0) (hO : gO x q M) (hR : hhR (x + 1) g M) (hB : h_B g) : m_Met D aC s0 l yX9_reliability cX9_reliability 2 (some .float) 6 (470) (940) [.ref x] M (fun v M' => g 0 4 + g 0 5 ≠ 0 ∧ v = some (.float (S_rel g)) ∧ M' = M) (fun E M' => (g 0 4 + g 0 5 = 0 ∧ E = eM) ∧ M.1 ≤ M'.1 ∧ M'.2 = M.2) := by
  refine m_entry (lv := [(0, .ref x)]) (by decide +kernel) (Nat.le_of_ble_eq_true rfl) rfl hF hl ?_
  intro p e s m args below meth c hC hr hno hnm
  change m_C D aC s0 RX9 _ _ _ _ _ _ _ _ _ at hC
  have h4 := hB.s 4 (by decide)
  have h5 := hB.s 5 (by decide)
  refine m_aload_n hC 0 dX9_reliability_0 rfl rfl ?_
  refine m_getf hC dX9_reliability_1 kf_X9_12 hO rfl ?_
  refine m_getf hC dX9_reliability_4 kf_X9_271 hR.ob rfl ?_
  refine m_aload_n hC 0 dX9_reliability_7 rfl rfl ?_
  refine m_getf hC dX9_reliability_8 kf_X9_12 hO rfl ?_
  refine m_getf hC dX9_reliability_11 kf_X9_274 hR.ob rfl ?_
  refine m_iadd hC dX9_reliability_14 ?_
  refine m_istore_n hC dX9_reliability_15 rfl (by decide) rfl ?_
  refine m_iload_n hC 0 dX9_reliability_16 rfl rfl ?_
  refine m_if_ne (tgt := 31) hC dX9_reliability_17 (by decide) (by first | omega | (simp [hs_at] <;> omega)) (fun c1 => ?_) (fun c1 => ?_)
  · refine m_aload_n hC 1 dX9_reliability_31 rfl rfl ?_
    refine m_getf hC dX9_reliability_32 kf_X9_12 hO rfl ?_
    refine m_getf hC dX9_reliability_35 kf_X9_271 hR.ob rfl ?_
    refine m_i2f hC dX9_reliability_38 ?_
    refine m_iload_n hC 0 dX9_reliability_39 rfl rfl ?_
    refine m_i2f hC dX9_reliability_40 ?_
    refine m_fdiv hC dX9_reliability_41 (fdiv_ok (by omega)) ?_
    exact m_fret hC dX9_reliability_42 hr (Nat.le_of_ble_eq_true rfl) (Nat.le_of_ble_eq_true rfl) (⟨by omega, rfl, rfl⟩)
  · exact m_thrW hC hX (ic := 289) (cls := "java/lang/ArithmeticException") (is := 287) (text := "no contract is done or broken") (by decide) (by decide) (by decide +kernel) kX_285 kXi_285 ⟨by decide +kernel, by decide +kernel⟩ dX9_reliability_20 dX9_reliability_23 dX9_reliability_24 dX9_reliability_27 dX9_reliability_30 hno (by decide) (Nat.le_of_ble_eq_true rfl) (Nat.le_of_ble_eq_true rfl) (Nat.le_of_ble_eq_true rfl) (Nat.le_of_ble_eq_true rfl) (Nat.le_of_ble_eq_true rfl) (fun M9 e1 e2 => ⟨⟨by omega, rfl⟩, e1, e2⟩)
