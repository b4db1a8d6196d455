theorem k_kw_rg {tx : List Int} {q : Int} : ∀ (n : Nat) (x far : Int), 0 ≤ x → x + n ≤ 12 → 0 ≤ far ∧ far ≤ (tx.length : Int) → 0 ≤ q ∧ q ≤ (tx.length : Int) → ((k_kw tx q n x far).1 = -1 ∨ (0 ≤ (k_kw tx q n x far).1 ∧ (k_kw tx q n x far).1 ≤ 11 ∧ q + (s_of ((k_kw tx q n x far).1 + 1) - s_of (k_kw tx q n x far).1) ≤ (tx.length : Int))) ∧ 0 ≤ (k_kw tx q n x far).2 ∧ (k_kw tx q n x far).2 ≤ (tx.length : Int) := by
  intro n
  induction n with
  | zero => intro x far h0 h1 hf hq; exact ⟨Or.inl rfl, hf⟩
  | succ n ih =>
    intro x far h0 h1 hf hq
    have hm := k_mt_rg (tx := tx) (q := q) (b := s_of x) (s_of (x + 1) - s_of x).toNat 0 (by omega)
    have hm2 : 0 ≤ k_m tx q x ∧ q + k_m tx q x ≤ (tx.length : Int) := ⟨hm.1, hm.2.2⟩
    rw [k_kw]
    split
    · rename_i z
      exact ⟨Or.inr ⟨h0, by omega, by show q + (s_of (x + 1) - s_of x) ≤ _; omega⟩, by show 0 ≤ max far (q + k_m tx q x) ∧ max far (q + k_m tx q x) ≤ _; omega⟩
    · exact ih (x + 1) _ (by omega) (by omega) (by omega) hq
def c_1 (w : h_T) (n k : Int) : h_T := hs (hs (hs w 9 (5 * n) k) 9 (5 * n + 1) 1) 0 18 (n + 1)
/-- what the reading of a command leaves: base and state, by the word read -/
def c_p (tx : List Int) (w : h_T) (n q : Int) (w2 : h_T) (s2 : Int × Int) : Prop :=
  ∃ (k : Int) (s1 : Int × Int), k = (k_kw tx q 12 0 q).1 ∧ s1 = (if k = -1 then (q, (k_kw tx q 12 0 q).2) else (q + (s_of (k + 1) - s_of k), -1)) ∧
  ((k = -1 ∧ w2 = c_1 w n k ∧ s2 = s1) ∨ (k = 11 ∧ ltr tx s1.1 ≠ 32 ∧ w2 = c_1 w n k ∧ s2 = s1) ∨
   (k = 4 ∧ w2 = hs (hs (hs (hs (c_1 w n k) 9 (5 * n + 1) (t_h tx s1).1.1) 9 (5 * n + 2) (t_h tx s1).1.2.1) 9 (5 * n + 3) (t_h tx s1).1.2.2.1) 9 (5 * n + 4) (t_h tx s1).1.2.2.2 ∧ s2 = (t_h tx s1).2) ∨
   (k = 11 ∧ ltr tx s1.1 = 32 ∧ w2 = hs (c_1 w n k) 9 (5 * n + 1) (t_n tx (t_s tx 32 s1)).1 ∧ s2 = (t_n tx (t_s tx 32 s1)).2) ∨
   (k = 8 ∧ w2 = hs (hs (c_1 w n k) 9 (5 * n + 1) (t_d tx s1).1) 9 (5 * n + 2) (t_n tx (t_s tx 32 (t_d tx s1).2)).1 ∧ s2 = (t_n tx (t_s tx 32 (t_d tx s1).2)).2) ∨
   ((k = 1 ∨ k = 5 ∨ k = 9 ∨ k = 10) ∧ w2 = hs (c_1 w n k) 9 (5 * n + 1) (t_n tx s1).1 ∧ s2 = (t_n tx s1).2) ∨
   ((k = 0 ∨ k = 2 ∨ k = 3 ∨ k = 6 ∨ k = 7) ∧ w2 = hs (c_1 w n k) 9 (5 * n + 1) (t_d tx s1).1 ∧ s2 = (t_d tx s1).2))
theorem t_h_ok {tx : List Int} {s : Int × Int} (h : t_ok tx s) : t_ok tx (t_h tx s).2 := t_n_ok (t_s_ok (t_n_ok (t_s_ok (t_d_ok (t_s_ok (t_d_ok h) (by decide))) (by decide))) (by decide))
theorem X_r43 {w : h_T} {tx : List Int} {n k : Int} {s1 : Int × Int} (h : t_ok tx s1) (hX : rX w tx) : -2147483648 ≤ rW (c_1 w n k) s1.1 s1.2 0 17 ∧ rW (c_1 w n k) s1.1 s1.2 0 17 < 2147483648 ∧ (-2147483648 : Int) ≤ -1 ∧ (-1 : Int) < 2147483648 := by
  have e : rW (c_1 w n k) s1.1 s1.2 0 17 = s1.2 := rfl
  have h1 := h.2
  have h2 := hX.2.1
  rw [e]
  omega
theorem X_ok1 {tx : List Int} {q k fr9 : Int} {s1 : Int × Int} (hs1 : s1 = (if k = -1 then (q, (k_kw tx q 12 0 q).2) else (q + (s_of (k + 1) - s_of k), -1))) (hf : fr9 = (k_kw tx q 12 0 q).2) (hkr : (k = -1 ∨ (0 ≤ k ∧ k ≤ 11 ∧ q + (s_of (k + 1) - s_of k) ≤ (tx.length : Int))) ∧ 0 ≤ fr9 ∧ fr9 ≤ (tx.length : Int)) (hq : 0 ≤ q ∧ q ≤ (tx.length : Int)) : t_ok tx s1 := by
  rw [hs1]
  by_cases h : k = -1
  · rw [if_pos h]
    exact ⟨hq, by show -1 ≤ (k_kw tx q 12 0 q).2 ∧ (k_kw tx q 12 0 q).2 ≤ _; omega⟩
  · rw [if_neg h]
    have h1 : 0 ≤ k ∧ k ≤ 11 ∧ q + (s_of (k + 1) - s_of k) ≤ (tx.length : Int) := by omega
    have h2 := s_of_rg (x := k) ⟨h1.1, h1.2.1⟩
    exact ⟨by show 0 ≤ q + (s_of (k + 1) - s_of k) ∧ _; omega, by show (-1 : Int) ≤ -1 ∧ (-1 : Int) ≤ _; omega⟩
theorem X_s1 {a : Nat} {w g : h_T} {tx : List Int} {q k : Int} {s1 : Int × Int} {M : m_M} (hk : k = (k_kw tx q 12 0 q).1) (hs1 : s1 = (if k = -1 then (q, (k_kw tx q 12 0 q).2) else (q + (s_of (k + 1) - s_of k), -1))) (hV : mmV a (rW w (if (k_kw tx q 12 0 q).1 = -1 then q else q + (s_of ((k_kw tx q 12 0 q).1 + 1) - s_of (k_kw tx q 12 0 q).1)) (if (k_kw tx q 12 0 q).1 = -1 then (k_kw tx q 12 0 q).2 else -1)) g M) : mmV a (rW w s1.1 s1.2) g M := by
  rw [← hk] at hV
  by_cases h : k = -1
  · rw [if_pos h, if_pos h] at hV
    rw [hs1, if_pos h]
    exact hV
  · rw [if_neg h, if_neg h] at hV
    rw [hs1, if_neg h]
    exact hV
set_option maxHeartbeats 4000000 in
set_option maxRecDepth 100000 in
theorem t_X10_readsCommand {D : va_G} {aC : Nat → ClassId} {s0 : State} {l : Launch} (hF : m_F D aC s0) (hl : l.stackTraces = false) {a : Nat} {w g : h_T} {tx : List Int} {q wr : Int} {M : m_M} (hV : mmV a (rW w q wr) g M) (ha : s0.heap.size ≤ a) (hX : rX w tx) (hq : 0 ≤ q ∧ q ≤ (tx.length : Int)) (hwr : -1 ≤ wr ∧ wr ≤ (tx.length : Int))  {n : Int} (hn : w 0 18 = n) (hn2 : 0 ≤ n ∧ n ≤ 29) (hw0 : wr = -1) {fo ks vs : Nat → Nat} {fA sA dO dT : Nat} (hJ : m_J s0 fo ks vs fA sA dO dT) {sa va : Nat} (hN : m_NM s0 sa va) : m_Met D aC s0 l yX10_readsCommand cX10_readsCommand 4 none 5 (0) (0) [.ref a] M (fun v M' => v = none ∧ (∃ (w2 : h_T) (s2 : Int × Int), c_p tx w n q w2 s2 ∧ t_ok tx s2 ∧ mmV a (rW w2 s2.1 s2.2) g M') ∧ m_fr a 10 M M') m_nx := by
  refine m_entry (lv := [(0, .ref a)]) (by decide +kernel) (Nat.le_of_ble_eq_true rfl) rfl hF hl ?_
  intro p e s m args below meth c hC hr hno hnm
  change m_C D aC s0 RX10 _ _ _ _ _ _ _ _ _ at hC
  refine m_iconst hC dX10_readsCommand_0 ?_
  refine m_aload_n hC 0 dX10_readsCommand_1 rfl rfl ?_
  refine m_getf hC dX10_readsCommand_2 kf_X10_245 hV.ob rfl ?_
  rw [show rW w q wr 0 18 = n from hn]
  refine m_imul hC dX10_readsCommand_5 ?_
  refine m_istore_n hC dX10_readsCommand_6 rfl (by decide) rfl ?_
  refine m_aload_n hC 1 dX10_readsCommand_7 rfl rfl ?_
  refine m_callV hC (t_X10_kindHere hF hl hV ha hX hq hwr hJ hN) dX10_readsCommand_8 kc_X10_kindHere kV_X10_248 hV.ob rfl rfl rfl rfl (Nat.le_of_ble_eq_true rfl) (by decide) (by decide) m_nox (fun v9 M1 h9 => ?_)
  obtain ⟨rfl, R2, f3⟩ := h9
  subst hw0
  have hkr := k_kw_rg (tx := tx) (q := q) 12 0 q (by decide) (by decide) hq hq
  obtain ⟨k, hk⟩ : ∃ z, z = (k_kw tx q 12 0 q).1 := ⟨_, rfl⟩
  obtain ⟨fr9, hfr9⟩ : ∃ z, z = (k_kw tx q 12 0 q).2 := ⟨_, rfl⟩
  rw [← hk, ← hfr9] at hkr
  obtain ⟨s1, hs1⟩ : ∃ z, z = (if k = -1 then (q, (k_kw tx q 12 0 q).2) else (q + (s_of (k + 1) - s_of k), -1)) := ⟨_, rfl⟩
  have ok1 : t_ok tx s1 := X_ok1 hs1 hfr9 hkr hq
  have R4 : mmV a (rW w s1.1 s1.2) g M1 := X_s1 hk hs1 R2
  refine m_veq hk.symm ?_
  refine m_istore_n hC dX10_readsCommand_11 rfl (by decide) rfl ?_
  refine m_aload_n hC 2 dX10_readsCommand_12 rfl rfl ?_
  refine m_getf hC dX10_readsCommand_13 kf_X10_41 R4.ob rfl ?_
  refine m_iload_n hC 1 dX10_readsCommand_16 rfl rfl ?_
  refine m_iload_n hC 0 dX10_readsCommand_17 rfl rfl ?_
  refine m_w9 hC R4 ha dX10_readsCommand_18 (by omega) (fun M5 R6 f7 => ?_)
  have R8 : mmV a (rW (hs w 9 (5 * n) k) s1.1 s1.2) g M5 := by rw [← rW_9]; exact R6
  refine m_aload_n hC 2 dX10_readsCommand_19 rfl rfl ?_
  refine m_getf hC dX10_readsCommand_20 kf_X10_41 R8.ob rfl ?_
  refine m_iload_n hC 1 dX10_readsCommand_23 rfl rfl ?_
  refine m_iconst hC dX10_readsCommand_24 ?_
  refine m_iadd hC dX10_readsCommand_25 ?_
  refine m_iconst hC dX10_readsCommand_26 ?_
  refine m_w9 hC R8 ha dX10_readsCommand_27 (by omega) (fun M9 R10 f11 => ?_)
  have R12 : mmV a (rW (hs (hs w 9 (5 * n) k) 9 (5 * n + 1) 1) s1.1 s1.2) g M9 := by rw [← rW_9]; exact R10
  refine m_aload_n hC 2 dX10_readsCommand_28 rfl rfl ?_
  refine m_dup hC dX10_readsCommand_29 rfl ?_
  refine m_getf hC dX10_readsCommand_30 kf_X10_245 R12.ob rfl ?_
  refine m_iconst hC dX10_readsCommand_33 ?_
  refine m_iadd hC dX10_readsCommand_34 ?_
  refine m_ws18 hC R12 ha dX10_readsCommand_35 kf_X10_245 (fun M13 R14 f15 => ?_)
  have R16 : mmV a (rW (c_1 w n k) s1.1 s1.2) g M13 := by unfold c_1; rw [← rW_18]; have e := R14; rw [show rW (hs (hs w 9 (5 * n) k) 9 (5 * n + 1) 1) s1.1 s1.2 0 18 = n from hn] at e; exact e
  have hX1 : rX (c_1 w n k) tx := ((hX.st9).st9).st18
  obtain ⟨ok1a, ok1b⟩ := id ok1
  have h17 : rW (c_1 w n k) s1.1 s1.2 0 17 = s1.2 := rfl
  by_cases hkm : k = -1
  · have hs12 : s1.2 ≠ -1 := by rw [hs1, if_pos hkm]; show (k_kw tx q 12 0 q).2 ≠ -1; omega
    refine m_aload_n hC 2 dX10_readsCommand_38 rfl rfl ?_
    refine m_getf hC dX10_readsCommand_39 kf_X10_216 R16.ob rfl ?_
    refine m_iconst hC dX10_readsCommand_42 ?_
    refine m_icmp_ne (tgt := 61) hC dX10_readsCommand_43 (by decide) (X_r43 ok1 hX) (fun c17 => ?_) (fun c17 => by omega)
    exact m_vret hC dX10_readsCommand_61 hr (by decide) (by decide) (⟨rfl, ⟨_, _, ⟨k, s1, hk, hs1, Or.inl ⟨hkm, rfl, rfl⟩⟩, ok1, R16⟩, (f3.tr (f7.tr (f11.tr f15)))⟩)
  · have hs12 : s1.2 = -1 := by rw [hs1, if_neg hkm]
    have hk9 : k = 0 ∨ k = 1 ∨ k = 2 ∨ k = 3 ∨ k = 4 ∨ k = 5 ∨ k = 6 ∨ k = 7 ∨ k = 8 ∨ k = 9 ∨ k = 10 ∨ k = 11 := by omega
    rcases hk9 with e | e | e | e | e | e | e | e | e | e | e | e
    · have hkj := e
      refine m_aload_n hC 2 dX10_readsCommand_38 rfl rfl ?_
      refine m_getf hC dX10_readsCommand_39 kf_X10_216 R16.ob rfl ?_
      refine m_iconst hC dX10_readsCommand_42 ?_
      refine m_icmp_ne (tgt := 61) hC dX10_readsCommand_43 (by decide) (X_r43 ok1 hX) (fun c18 => by omega) (fun c18 => ?_)
      refine m_iload_n hC 0 dX10_readsCommand_46 rfl rfl ?_
      refine m_bipush hC dX10_readsCommand_47 (by decide) ?_
      refine m_icmp_ne (tgt := 62) hC dX10_readsCommand_49 (by decide) (by first | omega | (simp [hs_at] <;> omega)) (fun c19 => ?_) (fun c19 => by omega)
      refine m_iload_n hC 0 dX10_readsCommand_62 rfl rfl ?_
      refine m_iconst hC dX10_readsCommand_63 ?_
      refine m_icmp_ne (tgt := 73) hC dX10_readsCommand_64 (by decide) (by first | omega | (simp [hs_at] <;> omega)) (fun c20 => ?_) (fun c20 => by omega)
      refine m_iload_n hC 0 dX10_readsCommand_73 rfl rfl ?_
      refine m_bipush hC dX10_readsCommand_74 (by decide) ?_
      refine m_icmp_ne (tgt := 85) hC dX10_readsCommand_76 (by decide) (by first | omega | (simp [hs_at] <;> omega)) (fun c21 => ?_) (fun c21 => by omega)
      refine m_iload_n hC 0 dX10_readsCommand_85 rfl rfl ?_
      refine m_iconst hC dX10_readsCommand_86 ?_
      refine m_icmp_eq (tgt := 101) hC dX10_readsCommand_87 (by decide) (by first | omega | (simp [hs_at] <;> omega)) (fun c22 => by omega) (fun c22 => ?_)
      refine m_iload_n hC 0 dX10_readsCommand_90 rfl rfl ?_
      refine m_iconst hC dX10_readsCommand_91 ?_
      refine m_icmp_eq (tgt := 101) hC dX10_readsCommand_92 (by decide) (by first | omega | (simp [hs_at] <;> omega)) (fun c23 => by omega) (fun c23 => ?_)
      refine m_iload_n hC 0 dX10_readsCommand_95 rfl rfl ?_
      refine m_bipush hC dX10_readsCommand_96 (by decide) ?_
      refine m_dia_icmp_le hC dX10_readsCommand_98 dX10_readsCommand_101 dX10_readsCommand_102 dX10_readsCommand_105 rfl rfl (by first | omega | (simp [hs_at] <;> omega)) ?_
      refine m_veq (z2 := 0) (b01_f (by omega)) ?_
      refine m_istore_n hC dX10_readsCommand_106 rfl (by decide) rfl ?_
      refine m_aload_n hC 3 dX10_readsCommand_107 rfl rfl ?_
      refine m_getf hC dX10_readsCommand_108 kf_X10_41 R16.ob rfl ?_
      refine m_iload_n hC 2 dX10_readsCommand_111 rfl rfl ?_
      refine m_iconst hC dX10_readsCommand_112 ?_
      refine m_iadd hC dX10_readsCommand_113 ?_
      refine m_iload_n hC 0 dX10_readsCommand_114 rfl rfl ?_
      refine m_if_eq (tgt := 125) hC dX10_readsCommand_115 (by decide) (by first | omega | (simp [hs_at] <;> omega)) (fun c24 => ?_) (fun c24 => by omega)
      refine m_aload_n hC 3 dX10_readsCommand_125 rfl rfl ?_
      refine m_callV hC (t_X10_digit hF hl R16 ha hX1 ok1.1 ok1.2) dX10_readsCommand_126 kc_X10_digit kV_X10_225 R16.ob rfl rfl rfl rfl (Nat.le_of_ble_eq_true rfl) (by decide) (by decide) m_nox (fun v9 M25 h9 => ?_)
      obtain ⟨rfl, R26, f27⟩ := h9
      have R28 : mmV a (rW (c_1 w n k) (t_d tx s1).2.1 (t_d tx s1).2.2) g M25 := R26
      refine m_w9 hC R28 ha dX10_readsCommand_129 (by omega) (fun M29 R30 f31 => ?_)
      have R32 : mmV a (rW (hs (c_1 w n k) 9 (5 * n + 1) (t_d tx s1).1) (t_d tx s1).2.1 (t_d tx s1).2.2) g M29 := by rw [← rW_9]; exact R30
      refine m_iload_n hC 1 dX10_readsCommand_130 rfl rfl ?_
      refine m_bipush hC dX10_readsCommand_131 (by decide) ?_
      refine m_icmp_ne (tgt := 154) hC dX10_readsCommand_133 (by decide) (by first | omega | (simp [hs_at] <;> omega)) (fun c33 => ?_) (fun c33 => by omega)
      exact m_vret hC dX10_readsCommand_154 hr (by decide) (by decide) (⟨rfl, ⟨_, _, ⟨k, s1, hk, hs1, Or.inr (Or.inr (Or.inr (Or.inr (Or.inr (Or.inr (⟨by omega, rfl, rfl⟩))))))⟩, (t_d_ok ok1), R32⟩, (f3.tr (f7.tr (f11.tr (f15.tr (f27.tr f31)))))⟩)
    · have hkj := e
      refine m_aload_n hC 2 dX10_readsCommand_38 rfl rfl ?_
      refine m_getf hC dX10_readsCommand_39 kf_X10_216 R16.ob rfl ?_
      refine m_iconst hC dX10_readsCommand_42 ?_
      refine m_icmp_ne (tgt := 61) hC dX10_readsCommand_43 (by decide) (X_r43 ok1 hX) (fun c34 => by omega) (fun c34 => ?_)
      refine m_iload_n hC 0 dX10_readsCommand_46 rfl rfl ?_
      refine m_bipush hC dX10_readsCommand_47 (by decide) ?_
      refine m_icmp_ne (tgt := 62) hC dX10_readsCommand_49 (by decide) (by first | omega | (simp [hs_at] <;> omega)) (fun c35 => ?_) (fun c35 => by omega)
      refine m_iload_n hC 0 dX10_readsCommand_62 rfl rfl ?_
      refine m_iconst hC dX10_readsCommand_63 ?_
      refine m_icmp_ne (tgt := 73) hC dX10_readsCommand_64 (by decide) (by first | omega | (simp [hs_at] <;> omega)) (fun c36 => ?_) (fun c36 => by omega)
      refine m_iload_n hC 0 dX10_readsCommand_73 rfl rfl ?_
      refine m_bipush hC dX10_readsCommand_74 (by decide) ?_
      refine m_icmp_ne (tgt := 85) hC dX10_readsCommand_76 (by decide) (by first | omega | (simp [hs_at] <;> omega)) (fun c37 => ?_) (fun c37 => by omega)
      refine m_iload_n hC 0 dX10_readsCommand_85 rfl rfl ?_
      refine m_iconst hC dX10_readsCommand_86 ?_
      refine m_icmp_eq (tgt := 101) hC dX10_readsCommand_87 (by decide) (by first | omega | (simp [hs_at] <;> omega)) (fun c38 => ?_) (fun c38 => by omega)
      refine m_iconst hC dX10_readsCommand_101 ?_
      refine m_goto (tgt := 106) hC dX10_readsCommand_102 (by decide) ?_
      refine m_istore_n hC dX10_readsCommand_106 rfl (by decide) rfl ?_
      refine m_aload_n hC 3 dX10_readsCommand_107 rfl rfl ?_
      refine m_getf hC dX10_readsCommand_108 kf_X10_41 R16.ob rfl ?_
      refine m_iload_n hC 2 dX10_readsCommand_111 rfl rfl ?_
      refine m_iconst hC dX10_readsCommand_112 ?_
      refine m_iadd hC dX10_readsCommand_113 ?_
      refine m_iload_n hC 0 dX10_readsCommand_114 rfl rfl ?_
      refine m_if_eq (tgt := 125) hC dX10_readsCommand_115 (by decide) (by first | omega | (simp [hs_at] <;> omega)) (fun c39 => by omega) (fun c39 => ?_)
      refine m_aload_n hC 3 dX10_readsCommand_118 rfl rfl ?_
      refine m_callV hC (t_X10_number hF hl R16 ha hX1 ok1.1 ok1.2) dX10_readsCommand_119 kc_X10_number kV_X10_242 R16.ob rfl rfl rfl rfl (Nat.le_of_ble_eq_true rfl) (by decide) (by decide) m_nox (fun v9 M40 h9 => ?_)
      obtain ⟨rfl, R41, f42⟩ := h9
      have R43 : mmV a (rW (c_1 w n k) (t_n tx s1).2.1 (t_n tx s1).2.2) g M40 := R41
      refine m_goto (tgt := 129) hC dX10_readsCommand_122 (by decide) ?_
      refine m_w9 hC R43 ha dX10_readsCommand_129 (by omega) (fun M44 R45 f46 => ?_)
      have R47 : mmV a (rW (hs (c_1 w n k) 9 (5 * n + 1) (t_n tx s1).1) (t_n tx s1).2.1 (t_n tx s1).2.2) g M44 := by rw [← rW_9]; exact R45
      refine m_iload_n hC 1 dX10_readsCommand_130 rfl rfl ?_
      refine m_bipush hC dX10_readsCommand_131 (by decide) ?_
      refine m_icmp_ne (tgt := 154) hC dX10_readsCommand_133 (by decide) (by first | omega | (simp [hs_at] <;> omega)) (fun c48 => ?_) (fun c48 => by omega)
      exact m_vret hC dX10_readsCommand_154 hr (by decide) (by decide) (⟨rfl, ⟨_, _, ⟨k, s1, hk, hs1, Or.inr (Or.inr (Or.inr (Or.inr (Or.inr (Or.inl ⟨by omega, rfl, rfl⟩)))))⟩, (t_n_ok ok1), R47⟩, (f3.tr (f7.tr (f11.tr (f15.tr (f42.tr f46)))))⟩)
    · have hkj := e
      refine m_aload_n hC 2 dX10_readsCommand_38 rfl rfl ?_
      refine m_getf hC dX10_readsCommand_39 kf_X10_216 R16.ob rfl ?_
      refine m_iconst hC dX10_readsCommand_42 ?_
      refine m_icmp_ne (tgt := 61) hC dX10_readsCommand_43 (by decide) (X_r43 ok1 hX) (fun c49 => by omega) (fun c49 => ?_)
      refine m_iload_n hC 0 dX10_readsCommand_46 rfl rfl ?_
      refine m_bipush hC dX10_readsCommand_47 (by decide) ?_
      refine m_icmp_ne (tgt := 62) hC dX10_readsCommand_49 (by decide) (by first | omega | (simp [hs_at] <;> omega)) (fun c50 => ?_) (fun c50 => by omega)
      refine m_iload_n hC 0 dX10_readsCommand_62 rfl rfl ?_
      refine m_iconst hC dX10_readsCommand_63 ?_
      refine m_icmp_ne (tgt := 73) hC dX10_readsCommand_64 (by decide) (by first | omega | (simp [hs_at] <;> omega)) (fun c51 => ?_) (fun c51 => by omega)
      refine m_iload_n hC 0 dX10_readsCommand_73 rfl rfl ?_
      refine m_bipush hC dX10_readsCommand_74 (by decide) ?_
      refine m_icmp_ne (tgt := 85) hC dX10_readsCommand_76 (by decide) (by first | omega | (simp [hs_at] <;> omega)) (fun c52 => ?_) (fun c52 => by omega)
      refine m_iload_n hC 0 dX10_readsCommand_85 rfl rfl ?_
      refine m_iconst hC dX10_readsCommand_86 ?_
      refine m_icmp_eq (tgt := 101) hC dX10_readsCommand_87 (by decide) (by first | omega | (simp [hs_at] <;> omega)) (fun c53 => by omega) (fun c53 => ?_)
      refine m_iload_n hC 0 dX10_readsCommand_90 rfl rfl ?_
      refine m_iconst hC dX10_readsCommand_91 ?_
      refine m_icmp_eq (tgt := 101) hC dX10_readsCommand_92 (by decide) (by first | omega | (simp [hs_at] <;> omega)) (fun c54 => by omega) (fun c54 => ?_)
      refine m_iload_n hC 0 dX10_readsCommand_95 rfl rfl ?_
      refine m_bipush hC dX10_readsCommand_96 (by decide) ?_
      refine m_dia_icmp_le hC dX10_readsCommand_98 dX10_readsCommand_101 dX10_readsCommand_102 dX10_readsCommand_105 rfl rfl (by first | omega | (simp [hs_at] <;> omega)) ?_
      refine m_veq (z2 := 0) (b01_f (by omega)) ?_
      refine m_istore_n hC dX10_readsCommand_106 rfl (by decide) rfl ?_
      refine m_aload_n hC 3 dX10_readsCommand_107 rfl rfl ?_
      refine m_getf hC dX10_readsCommand_108 kf_X10_41 R16.ob rfl ?_
      refine m_iload_n hC 2 dX10_readsCommand_111 rfl rfl ?_
      refine m_iconst hC dX10_readsCommand_112 ?_
      refine m_iadd hC dX10_readsCommand_113 ?_
      refine m_iload_n hC 0 dX10_readsCommand_114 rfl rfl ?_
      refine m_if_eq (tgt := 125) hC dX10_readsCommand_115 (by decide) (by first | omega | (simp [hs_at] <;> omega)) (fun c55 => ?_) (fun c55 => by omega)
      refine m_aload_n hC 3 dX10_readsCommand_125 rfl rfl ?_
      refine m_callV hC (t_X10_digit hF hl R16 ha hX1 ok1.1 ok1.2) dX10_readsCommand_126 kc_X10_digit kV_X10_225 R16.ob rfl rfl rfl rfl (Nat.le_of_ble_eq_true rfl) (by decide) (by decide) m_nox (fun v9 M56 h9 => ?_)
      obtain ⟨rfl, R57, f58⟩ := h9
      have R59 : mmV a (rW (c_1 w n k) (t_d tx s1).2.1 (t_d tx s1).2.2) g M56 := R57
      refine m_w9 hC R59 ha dX10_readsCommand_129 (by omega) (fun M60 R61 f62 => ?_)
      have R63 : mmV a (rW (hs (c_1 w n k) 9 (5 * n + 1) (t_d tx s1).1) (t_d tx s1).2.1 (t_d tx s1).2.2) g M60 := by rw [← rW_9]; exact R61
      refine m_iload_n hC 1 dX10_readsCommand_130 rfl rfl ?_
      refine m_bipush hC dX10_readsCommand_131 (by decide) ?_
      refine m_icmp_ne (tgt := 154) hC dX10_readsCommand_133 (by decide) (by first | omega | (simp [hs_at] <;> omega)) (fun c64 => ?_) (fun c64 => by omega)
      exact m_vret hC dX10_readsCommand_154 hr (by decide) (by decide) (⟨rfl, ⟨_, _, ⟨k, s1, hk, hs1, Or.inr (Or.inr (Or.inr (Or.inr (Or.inr (Or.inr (⟨by omega, rfl, rfl⟩))))))⟩, (t_d_ok ok1), R63⟩, (f3.tr (f7.tr (f11.tr (f15.tr (f58.tr f62)))))⟩)
    · have hkj := e
      refine m_aload_n hC 2 dX10_readsCommand_38 rfl rfl ?_
      refine m_getf hC dX10_readsCommand_39 kf_X10_216 R16.ob rfl ?_
      refine m_iconst hC dX10_readsCommand_42 ?_
      refine m_icmp_ne (tgt := 61) hC dX10_readsCommand_43 (by decide) (X_r43 ok1 hX) (fun c65 => by omega) (fun c65 => ?_)
      refine m_iload_n hC 0 dX10_readsCommand_46 rfl rfl ?_
      refine m_bipush hC dX10_readsCommand_47 (by decide) ?_
      refine m_icmp_ne (tgt := 62) hC dX10_readsCommand_49 (by decide) (by first | omega | (simp [hs_at] <;> omega)) (fun c66 => ?_) (fun c66 => by omega)
      refine m_iload_n hC 0 dX10_readsCommand_62 rfl rfl ?_
      refine m_iconst hC dX10_readsCommand_63 ?_
      refine m_icmp_ne (tgt := 73) hC dX10_readsCommand_64 (by decide) (by first | omega | (simp [hs_at] <;> omega)) (fun c67 => ?_) (fun c67 => by omega)
      refine m_iload_n hC 0 dX10_readsCommand_73 rfl rfl ?_
      refine m_bipush hC dX10_readsCommand_74 (by decide) ?_
      refine m_icmp_ne (tgt := 85) hC dX10_readsCommand_76 (by decide) (by first | omega | (simp [hs_at] <;> omega)) (fun c68 => ?_) (fun c68 => by omega)
      refine m_iload_n hC 0 dX10_readsCommand_85 rfl rfl ?_
      refine m_iconst hC dX10_readsCommand_86 ?_
      refine m_icmp_eq (tgt := 101) hC dX10_readsCommand_87 (by decide) (by first | omega | (simp [hs_at] <;> omega)) (fun c69 => by omega) (fun c69 => ?_)
      refine m_iload_n hC 0 dX10_readsCommand_90 rfl rfl ?_
      refine m_iconst hC dX10_readsCommand_91 ?_
      refine m_icmp_eq (tgt := 101) hC dX10_readsCommand_92 (by decide) (by first | omega | (simp [hs_at] <;> omega)) (fun c70 => by omega) (fun c70 => ?_)
      refine m_iload_n hC 0 dX10_readsCommand_95 rfl rfl ?_
      refine m_bipush hC dX10_readsCommand_96 (by decide) ?_
      refine m_dia_icmp_le hC dX10_readsCommand_98 dX10_readsCommand_101 dX10_readsCommand_102 dX10_readsCommand_105 rfl rfl (by first | omega | (simp [hs_at] <;> omega)) ?_
      refine m_veq (z2 := 0) (b01_f (by omega)) ?_
      refine m_istore_n hC dX10_readsCommand_106 rfl (by decide) rfl ?_
      refine m_aload_n hC 3 dX10_readsCommand_107 rfl rfl ?_
      refine m_getf hC dX10_readsCommand_108 kf_X10_41 R16.ob rfl ?_
      refine m_iload_n hC 2 dX10_readsCommand_111 rfl rfl ?_
      refine m_iconst hC dX10_readsCommand_112 ?_
      refine m_iadd hC dX10_readsCommand_113 ?_
      refine m_iload_n hC 0 dX10_readsCommand_114 rfl rfl ?_
      refine m_if_eq (tgt := 125) hC dX10_readsCommand_115 (by decide) (by first | omega | (simp [hs_at] <;> omega)) (fun c71 => ?_) (fun c71 => by omega)
      refine m_aload_n hC 3 dX10_readsCommand_125 rfl rfl ?_
      refine m_callV hC (t_X10_digit hF hl R16 ha hX1 ok1.1 ok1.2) dX10_readsCommand_126 kc_X10_digit kV_X10_225 R16.ob rfl rfl rfl rfl (Nat.le_of_ble_eq_true rfl) (by decide) (by decide) m_nox (fun v9 M72 h9 => ?_)
      obtain ⟨rfl, R73, f74⟩ := h9
      have R75 : mmV a (rW (c_1 w n k) (t_d tx s1).2.1 (t_d tx s1).2.2) g M72 := R73
      refine m_w9 hC R75 ha dX10_readsCommand_129 (by omega) (fun M76 R77 f78 => ?_)
      have R79 : mmV a (rW (hs (c_1 w n k) 9 (5 * n + 1) (t_d tx s1).1) (t_d tx s1).2.1 (t_d tx s1).2.2) g M76 := by rw [← rW_9]; exact R77
      refine m_iload_n hC 1 dX10_readsCommand_130 rfl rfl ?_
      refine m_bipush hC dX10_readsCommand_131 (by decide) ?_
      refine m_icmp_ne (tgt := 154) hC dX10_readsCommand_133 (by decide) (by first | omega | (simp [hs_at] <;> omega)) (fun c80 => ?_) (fun c80 => by omega)
      exact m_vret hC dX10_readsCommand_154 hr (by decide) (by decide) (⟨rfl, ⟨_, _, ⟨k, s1, hk, hs1, Or.inr (Or.inr (Or.inr (Or.inr (Or.inr (Or.inr (⟨by omega, rfl, rfl⟩))))))⟩, (t_d_ok ok1), R79⟩, (f3.tr (f7.tr (f11.tr (f15.tr (f74.tr f78)))))⟩)
    · have hkj := e
      refine m_aload_n hC 2 dX10_readsCommand_38 rfl rfl ?_
      refine m_getf hC dX10_readsCommand_39 kf_X10_216 R16.ob rfl ?_
      refine m_iconst hC dX10_readsCommand_42 ?_
      refine m_icmp_ne (tgt := 61) hC dX10_readsCommand_43 (by decide) (X_r43 ok1 hX) (fun c81 => by omega) (fun c81 => ?_)
      refine m_iload_n hC 0 dX10_readsCommand_46 rfl rfl ?_
      refine m_bipush hC dX10_readsCommand_47 (by decide) ?_
      refine m_icmp_ne (tgt := 62) hC dX10_readsCommand_49 (by decide) (by first | omega | (simp [hs_at] <;> omega)) (fun c82 => ?_) (fun c82 => by omega)
      refine m_iload_n hC 0 dX10_readsCommand_62 rfl rfl ?_
      refine m_iconst hC dX10_readsCommand_63 ?_
      refine m_icmp_ne (tgt := 73) hC dX10_readsCommand_64 (by decide) (by first | omega | (simp [hs_at] <;> omega)) (fun c83 => by omega) (fun c83 => ?_)
      refine m_aload_n hC 2 dX10_readsCommand_67 rfl rfl ?_
      refine m_iload_n hC 1 dX10_readsCommand_68 rfl rfl ?_
      refine m_callV hC (t_X10_readsHire hF hl R16 ha hX1 ok1a ok1b (x := 5 * n) (by omega)) dX10_readsCommand_69 kc_X10_readsHire kV_X10_251 R16.ob rfl rfl rfl rfl (Nat.le_of_ble_eq_true rfl) (by decide) (by decide) m_nox (fun v9 M84 h9 => ?_)
      obtain ⟨rfl, R85, f86⟩ := h9
      exact m_vret hC dX10_readsCommand_72 hr (by decide) (by decide) (⟨rfl, ⟨_, _, ⟨k, s1, hk, hs1, Or.inr (Or.inr (Or.inl ⟨hkj, rfl, rfl⟩))⟩, (t_h_ok ok1), R85⟩, (f3.tr (f7.tr (f11.tr (f15.tr f86))))⟩)
    · have hkj := e
      refine m_aload_n hC 2 dX10_readsCommand_38 rfl rfl ?_
      refine m_getf hC dX10_readsCommand_39 kf_X10_216 R16.ob rfl ?_
      refine m_iconst hC dX10_readsCommand_42 ?_
      refine m_icmp_ne (tgt := 61) hC dX10_readsCommand_43 (by decide) (X_r43 ok1 hX) (fun c87 => by omega) (fun c87 => ?_)
      refine m_iload_n hC 0 dX10_readsCommand_46 rfl rfl ?_
      refine m_bipush hC dX10_readsCommand_47 (by decide) ?_
      refine m_icmp_ne (tgt := 62) hC dX10_readsCommand_49 (by decide) (by first | omega | (simp [hs_at] <;> omega)) (fun c88 => ?_) (fun c88 => by omega)
      refine m_iload_n hC 0 dX10_readsCommand_62 rfl rfl ?_
      refine m_iconst hC dX10_readsCommand_63 ?_
      refine m_icmp_ne (tgt := 73) hC dX10_readsCommand_64 (by decide) (by first | omega | (simp [hs_at] <;> omega)) (fun c89 => ?_) (fun c89 => by omega)
      refine m_iload_n hC 0 dX10_readsCommand_73 rfl rfl ?_
      refine m_bipush hC dX10_readsCommand_74 (by decide) ?_
      refine m_icmp_ne (tgt := 85) hC dX10_readsCommand_76 (by decide) (by first | omega | (simp [hs_at] <;> omega)) (fun c90 => ?_) (fun c90 => by omega)
      refine m_iload_n hC 0 dX10_readsCommand_85 rfl rfl ?_
      refine m_iconst hC dX10_readsCommand_86 ?_
      refine m_icmp_eq (tgt := 101) hC dX10_readsCommand_87 (by decide) (by first | omega | (simp [hs_at] <;> omega)) (fun c91 => by omega) (fun c91 => ?_)
      refine m_iload_n hC 0 dX10_readsCommand_90 rfl rfl ?_
      refine m_iconst hC dX10_readsCommand_91 ?_
      refine m_icmp_eq (tgt := 101) hC dX10_readsCommand_92 (by decide) (by first | omega | (simp [hs_at] <;> omega)) (fun c92 => ?_) (fun c92 => by omega)
      refine m_iconst hC dX10_readsCommand_101 ?_
      refine m_goto (tgt := 106) hC dX10_readsCommand_102 (by decide) ?_
      refine m_istore_n hC dX10_readsCommand_106 rfl (by decide) rfl ?_
      refine m_aload_n hC 3 dX10_readsCommand_107 rfl rfl ?_
      refine m_getf hC dX10_readsCommand_108 kf_X10_41 R16.ob rfl ?_
      refine m_iload_n hC 2 dX10_readsCommand_111 rfl rfl ?_
      refine m_iconst hC dX10_readsCommand_112 ?_
      refine m_iadd hC dX10_readsCommand_113 ?_
      refine m_iload_n hC 0 dX10_readsCommand_114 rfl rfl ?_
      refine m_if_eq (tgt := 125) hC dX10_readsCommand_115 (by decide) (by first | omega | (simp [hs_at] <;> omega)) (fun c93 => by omega) (fun c93 => ?_)
      refine m_aload_n hC 3 dX10_readsCommand_118 rfl rfl ?_
      refine m_callV hC (t_X10_number hF hl R16 ha hX1 ok1.1 ok1.2) dX10_readsCommand_119 kc_X10_number kV_X10_242 R16.ob rfl rfl rfl rfl (Nat.le_of_ble_eq_true rfl) (by decide) (by decide) m_nox (fun v9 M94 h9 => ?_)
      obtain ⟨rfl, R95, f96⟩ := h9
      have R97 : mmV a (rW (c_1 w n k) (t_n tx s1).2.1 (t_n tx s1).2.2) g M94 := R95
      refine m_goto (tgt := 129) hC dX10_readsCommand_122 (by decide) ?_
      refine m_w9 hC R97 ha dX10_readsCommand_129 (by omega) (fun M98 R99 f100 => ?_)
      have R101 : mmV a (rW (hs (c_1 w n k) 9 (5 * n + 1) (t_n tx s1).1) (t_n tx s1).2.1 (t_n tx s1).2.2) g M98 := by rw [← rW_9]; exact R99
      refine m_iload_n hC 1 dX10_readsCommand_130 rfl rfl ?_
      refine m_bipush hC dX10_readsCommand_131 (by decide) ?_
      refine m_icmp_ne (tgt := 154) hC dX10_readsCommand_133 (by decide) (by first | omega | (simp [hs_at] <;> omega)) (fun c102 => ?_) (fun c102 => by omega)
      exact m_vret hC dX10_readsCommand_154 hr (by decide) (by decide) (⟨rfl, ⟨_, _, ⟨k, s1, hk, hs1, Or.inr (Or.inr (Or.inr (Or.inr (Or.inr (Or.inl ⟨by omega, rfl, rfl⟩)))))⟩, (t_n_ok ok1), R101⟩, (f3.tr (f7.tr (f11.tr (f15.tr (f96.tr f100)))))⟩)
    · have hkj := e
      refine m_aload_n hC 2 dX10_readsCommand_38 rfl rfl ?_
      refine m_getf hC dX10_readsCommand_39 kf_X10_216 R16.ob rfl ?_
      refine m_iconst hC dX10_readsCommand_42 ?_
      refine m_icmp_ne (tgt := 61) hC dX10_readsCommand_43 (by decide) (X_r43 ok1 hX) (fun c103 => by omega) (fun c103 => ?_)
      refine m_iload_n hC 0 dX10_readsCommand_46 rfl rfl ?_
      refine m_bipush hC dX10_readsCommand_47 (by decide) ?_
      refine m_icmp_ne (tgt := 62) hC dX10_readsCommand_49 (by decide) (by first | omega | (simp [hs_at] <;> omega)) (fun c104 => ?_) (fun c104 => by omega)
      refine m_iload_n hC 0 dX10_readsCommand_62 rfl rfl ?_
      refine m_iconst hC dX10_readsCommand_63 ?_
      refine m_icmp_ne (tgt := 73) hC dX10_readsCommand_64 (by decide) (by first | omega | (simp [hs_at] <;> omega)) (fun c105 => ?_) (fun c105 => by omega)
      refine m_iload_n hC 0 dX10_readsCommand_73 rfl rfl ?_
      refine m_bipush hC dX10_readsCommand_74 (by decide) ?_
      refine m_icmp_ne (tgt := 85) hC dX10_readsCommand_76 (by decide) (by first | omega | (simp [hs_at] <;> omega)) (fun c106 => ?_) (fun c106 => by omega)
      refine m_iload_n hC 0 dX10_readsCommand_85 rfl rfl ?_
      refine m_iconst hC dX10_readsCommand_86 ?_
      refine m_icmp_eq (tgt := 101) hC dX10_readsCommand_87 (by decide) (by first | omega | (simp [hs_at] <;> omega)) (fun c107 => by omega) (fun c107 => ?_)
      refine m_iload_n hC 0 dX10_readsCommand_90 rfl rfl ?_
      refine m_iconst hC dX10_readsCommand_91 ?_
      refine m_icmp_eq (tgt := 101) hC dX10_readsCommand_92 (by decide) (by first | omega | (simp [hs_at] <;> omega)) (fun c108 => by omega) (fun c108 => ?_)
      refine m_iload_n hC 0 dX10_readsCommand_95 rfl rfl ?_
      refine m_bipush hC dX10_readsCommand_96 (by decide) ?_
      refine m_dia_icmp_le hC dX10_readsCommand_98 dX10_readsCommand_101 dX10_readsCommand_102 dX10_readsCommand_105 rfl rfl (by first | omega | (simp [hs_at] <;> omega)) ?_
      refine m_veq (z2 := 0) (b01_f (by omega)) ?_
      refine m_istore_n hC dX10_readsCommand_106 rfl (by decide) rfl ?_
      refine m_aload_n hC 3 dX10_readsCommand_107 rfl rfl ?_
      refine m_getf hC dX10_readsCommand_108 kf_X10_41 R16.ob rfl ?_
      refine m_iload_n hC 2 dX10_readsCommand_111 rfl rfl ?_
      refine m_iconst hC dX10_readsCommand_112 ?_
      refine m_iadd hC dX10_readsCommand_113 ?_
      refine m_iload_n hC 0 dX10_readsCommand_114 rfl rfl ?_
      refine m_if_eq (tgt := 125) hC dX10_readsCommand_115 (by decide) (by first | omega | (simp [hs_at] <;> omega)) (fun c109 => ?_) (fun c109 => by omega)
      refine m_aload_n hC 3 dX10_readsCommand_125 rfl rfl ?_
      refine m_callV hC (t_X10_digit hF hl R16 ha hX1 ok1.1 ok1.2) dX10_readsCommand_126 kc_X10_digit kV_X10_225 R16.ob rfl rfl rfl rfl (Nat.le_of_ble_eq_true rfl) (by decide) (by decide) m_nox (fun v9 M110 h9 => ?_)
      obtain ⟨rfl, R111, f112⟩ := h9
      have R113 : mmV a (rW (c_1 w n k) (t_d tx s1).2.1 (t_d tx s1).2.2) g M110 := R111
      refine m_w9 hC R113 ha dX10_readsCommand_129 (by omega) (fun M114 R115 f116 => ?_)
      have R117 : mmV a (rW (hs (c_1 w n k) 9 (5 * n + 1) (t_d tx s1).1) (t_d tx s1).2.1 (t_d tx s1).2.2) g M114 := by rw [← rW_9]; exact R115
      refine m_iload_n hC 1 dX10_readsCommand_130 rfl rfl ?_
      refine m_bipush hC dX10_readsCommand_131 (by decide) ?_
      refine m_icmp_ne (tgt := 154) hC dX10_readsCommand_133 (by decide) (by first | omega | (simp [hs_at] <;> omega)) (fun c118 => ?_) (fun c118 => by omega)
      exact m_vret hC dX10_readsCommand_154 hr (by decide) (by decide) (⟨rfl, ⟨_, _, ⟨k, s1, hk, hs1, Or.inr (Or.inr (Or.inr (Or.inr (Or.inr (Or.inr (⟨by omega, rfl, rfl⟩))))))⟩, (t_d_ok ok1), R117⟩, (f3.tr (f7.tr (f11.tr (f15.tr (f112.tr f116)))))⟩)
    · have hkj := e
      refine m_aload_n hC 2 dX10_readsCommand_38 rfl rfl ?_
      refine m_getf hC dX10_readsCommand_39 kf_X10_216 R16.ob rfl ?_
      refine m_iconst hC dX10_readsCommand_42 ?_
      refine m_icmp_ne (tgt := 61) hC dX10_readsCommand_43 (by decide) (X_r43 ok1 hX) (fun c119 => by omega) (fun c119 => ?_)
      refine m_iload_n hC 0 dX10_readsCommand_46 rfl rfl ?_
      refine m_bipush hC dX10_readsCommand_47 (by decide) ?_
      refine m_icmp_ne (tgt := 62) hC dX10_readsCommand_49 (by decide) (by first | omega | (simp [hs_at] <;> omega)) (fun c120 => ?_) (fun c120 => by omega)
      refine m_iload_n hC 0 dX10_readsCommand_62 rfl rfl ?_
      refine m_iconst hC dX10_readsCommand_63 ?_
      refine m_icmp_ne (tgt := 73) hC dX10_readsCommand_64 (by decide) (by first | omega | (simp [hs_at] <;> omega)) (fun c121 => ?_) (fun c121 => by omega)
      refine m_iload_n hC 0 dX10_readsCommand_73 rfl rfl ?_
      refine m_bipush hC dX10_readsCommand_74 (by decide) ?_
      refine m_icmp_ne (tgt := 85) hC dX10_readsCommand_76 (by decide) (by first | omega | (simp [hs_at] <;> omega)) (fun c122 => ?_) (fun c122 => by omega)
      refine m_iload_n hC 0 dX10_readsCommand_85 rfl rfl ?_
      refine m_iconst hC dX10_readsCommand_86 ?_
      refine m_icmp_eq (tgt := 101) hC dX10_readsCommand_87 (by decide) (by first | omega | (simp [hs_at] <;> omega)) (fun c123 => by omega) (fun c123 => ?_)
      refine m_iload_n hC 0 dX10_readsCommand_90 rfl rfl ?_
      refine m_iconst hC dX10_readsCommand_91 ?_
      refine m_icmp_eq (tgt := 101) hC dX10_readsCommand_92 (by decide) (by first | omega | (simp [hs_at] <;> omega)) (fun c124 => by omega) (fun c124 => ?_)
      refine m_iload_n hC 0 dX10_readsCommand_95 rfl rfl ?_
      refine m_bipush hC dX10_readsCommand_96 (by decide) ?_
      refine m_dia_icmp_le hC dX10_readsCommand_98 dX10_readsCommand_101 dX10_readsCommand_102 dX10_readsCommand_105 rfl rfl (by first | omega | (simp [hs_at] <;> omega)) ?_
      refine m_veq (z2 := 0) (b01_f (by omega)) ?_
      refine m_istore_n hC dX10_readsCommand_106 rfl (by decide) rfl ?_
      refine m_aload_n hC 3 dX10_readsCommand_107 rfl rfl ?_
      refine m_getf hC dX10_readsCommand_108 kf_X10_41 R16.ob rfl ?_
      refine m_iload_n hC 2 dX10_readsCommand_111 rfl rfl ?_
      refine m_iconst hC dX10_readsCommand_112 ?_
      refine m_iadd hC dX10_readsCommand_113 ?_
      refine m_iload_n hC 0 dX10_readsCommand_114 rfl rfl ?_
      refine m_if_eq (tgt := 125) hC dX10_readsCommand_115 (by decide) (by first | omega | (simp [hs_at] <;> omega)) (fun c125 => ?_) (fun c125 => by omega)
      refine m_aload_n hC 3 dX10_readsCommand_125 rfl rfl ?_
      refine m_callV hC (t_X10_digit hF hl R16 ha hX1 ok1.1 ok1.2) dX10_readsCommand_126 kc_X10_digit kV_X10_225 R16.ob rfl rfl rfl rfl (Nat.le_of_ble_eq_true rfl) (by decide) (by decide) m_nox (fun v9 M126 h9 => ?_)
      obtain ⟨rfl, R127, f128⟩ := h9
      have R129 : mmV a (rW (c_1 w n k) (t_d tx s1).2.1 (t_d tx s1).2.2) g M126 := R127
      refine m_w9 hC R129 ha dX10_readsCommand_129 (by omega) (fun M130 R131 f132 => ?_)
      have R133 : mmV a (rW (hs (c_1 w n k) 9 (5 * n + 1) (t_d tx s1).1) (t_d tx s1).2.1 (t_d tx s1).2.2) g M130 := by rw [← rW_9]; exact R131
      refine m_iload_n hC 1 dX10_readsCommand_130 rfl rfl ?_
      refine m_bipush hC dX10_readsCommand_131 (by decide) ?_
      refine m_icmp_ne (tgt := 154) hC dX10_readsCommand_133 (by decide) (by first | omega | (simp [hs_at] <;> omega)) (fun c134 => ?_) (fun c134 => by omega)
      exact m_vret hC dX10_readsCommand_154 hr (by decide) (by decide) (⟨rfl, ⟨_, _, ⟨k, s1, hk, hs1, Or.inr (Or.inr (Or.inr (Or.inr (Or.inr (Or.inr (⟨by omega, rfl, rfl⟩))))))⟩, (t_d_ok ok1), R133⟩, (f3.tr (f7.tr (f11.tr (f15.tr (f128.tr f132)))))⟩)
    · have hkj := e
      refine m_aload_n hC 2 dX10_readsCommand_38 rfl rfl ?_
      refine m_getf hC dX10_readsCommand_39 kf_X10_216 R16.ob rfl ?_
      refine m_iconst hC dX10_readsCommand_42 ?_
      refine m_icmp_ne (tgt := 61) hC dX10_readsCommand_43 (by decide) (X_r43 ok1 hX) (fun c135 => by omega) (fun c135 => ?_)
      refine m_iload_n hC 0 dX10_readsCommand_46 rfl rfl ?_
      refine m_bipush hC dX10_readsCommand_47 (by decide) ?_
      refine m_icmp_ne (tgt := 62) hC dX10_readsCommand_49 (by decide) (by first | omega | (simp [hs_at] <;> omega)) (fun c136 => ?_) (fun c136 => by omega)
      refine m_iload_n hC 0 dX10_readsCommand_62 rfl rfl ?_
      refine m_iconst hC dX10_readsCommand_63 ?_
      refine m_icmp_ne (tgt := 73) hC dX10_readsCommand_64 (by decide) (by first | omega | (simp [hs_at] <;> omega)) (fun c137 => ?_) (fun c137 => by omega)
      refine m_iload_n hC 0 dX10_readsCommand_73 rfl rfl ?_
      refine m_bipush hC dX10_readsCommand_74 (by decide) ?_
      refine m_icmp_ne (tgt := 85) hC dX10_readsCommand_76 (by decide) (by first | omega | (simp [hs_at] <;> omega)) (fun c138 => ?_) (fun c138 => by omega)
      refine m_iload_n hC 0 dX10_readsCommand_85 rfl rfl ?_
      refine m_iconst hC dX10_readsCommand_86 ?_
      refine m_icmp_eq (tgt := 101) hC dX10_readsCommand_87 (by decide) (by first | omega | (simp [hs_at] <;> omega)) (fun c139 => by omega) (fun c139 => ?_)
      refine m_iload_n hC 0 dX10_readsCommand_90 rfl rfl ?_
      refine m_iconst hC dX10_readsCommand_91 ?_
      refine m_icmp_eq (tgt := 101) hC dX10_readsCommand_92 (by decide) (by first | omega | (simp [hs_at] <;> omega)) (fun c140 => by omega) (fun c140 => ?_)
      refine m_iload_n hC 0 dX10_readsCommand_95 rfl rfl ?_
      refine m_bipush hC dX10_readsCommand_96 (by decide) ?_
      refine m_dia_icmp_le hC dX10_readsCommand_98 dX10_readsCommand_101 dX10_readsCommand_102 dX10_readsCommand_105 rfl rfl (by first | omega | (simp [hs_at] <;> omega)) ?_
      refine m_veq (z2 := 0) (b01_f (by omega)) ?_
      refine m_istore_n hC dX10_readsCommand_106 rfl (by decide) rfl ?_
      refine m_aload_n hC 3 dX10_readsCommand_107 rfl rfl ?_
      refine m_getf hC dX10_readsCommand_108 kf_X10_41 R16.ob rfl ?_
      refine m_iload_n hC 2 dX10_readsCommand_111 rfl rfl ?_
      refine m_iconst hC dX10_readsCommand_112 ?_
      refine m_iadd hC dX10_readsCommand_113 ?_
      refine m_iload_n hC 0 dX10_readsCommand_114 rfl rfl ?_
      refine m_if_eq (tgt := 125) hC dX10_readsCommand_115 (by decide) (by first | omega | (simp [hs_at] <;> omega)) (fun c141 => ?_) (fun c141 => by omega)
      refine m_aload_n hC 3 dX10_readsCommand_125 rfl rfl ?_
      refine m_callV hC (t_X10_digit hF hl R16 ha hX1 ok1.1 ok1.2) dX10_readsCommand_126 kc_X10_digit kV_X10_225 R16.ob rfl rfl rfl rfl (Nat.le_of_ble_eq_true rfl) (by decide) (by decide) m_nox (fun v9 M142 h9 => ?_)
      obtain ⟨rfl, R143, f144⟩ := h9
      have R145 : mmV a (rW (c_1 w n k) (t_d tx s1).2.1 (t_d tx s1).2.2) g M142 := R143
      refine m_w9 hC R145 ha dX10_readsCommand_129 (by omega) (fun M146 R147 f148 => ?_)
      have R149 : mmV a (rW (hs (c_1 w n k) 9 (5 * n + 1) (t_d tx s1).1) (t_d tx s1).2.1 (t_d tx s1).2.2) g M146 := by rw [← rW_9]; exact R147
      refine m_iload_n hC 1 dX10_readsCommand_130 rfl rfl ?_
      refine m_bipush hC dX10_readsCommand_131 (by decide) ?_
      refine m_icmp_ne (tgt := 154) hC dX10_readsCommand_133 (by decide) (by first | omega | (simp [hs_at] <;> omega)) (fun c150 => by omega) (fun c150 => ?_)
      refine m_aload_n hC 3 dX10_readsCommand_136 rfl rfl ?_
      refine m_bipush hC dX10_readsCommand_137 (by decide) ?_
      refine m_callV hC (t_X10_sign hF hl R149 ha (rX.st9 hX1) (t_d_ok ok1).1 (t_d_ok ok1).2 (x := 32) (by decide)) dX10_readsCommand_139 kc_X10_sign kV_X10_239 R149.ob rfl rfl rfl rfl (Nat.le_of_ble_eq_true rfl) (by decide) (by decide) m_nox (fun v9 M151 h9 => ?_)
      obtain ⟨rfl, R152, f153⟩ := h9
      have R154 : mmV a (rW (hs (c_1 w n k) 9 (5 * n + 1) (t_d tx s1).1) (t_s tx 32 (t_d tx s1).2).1 (t_s tx 32 (t_d tx s1).2).2) g M151 := R152
      refine m_aload_n hC 3 dX10_readsCommand_142 rfl rfl ?_
      refine m_getf hC dX10_readsCommand_143 kf_X10_41 R154.ob rfl ?_
      refine m_iload_n hC 2 dX10_readsCommand_146 rfl rfl ?_
      refine m_iconst hC dX10_readsCommand_147 ?_
      refine m_iadd hC dX10_readsCommand_148 ?_
      refine m_aload_n hC 3 dX10_readsCommand_149 rfl rfl ?_
      refine m_callV hC (t_X10_number hF hl R154 ha (rX.st9 hX1) (t_s_ok (t_d_ok ok1) (by decide)).1 (t_s_ok (t_d_ok ok1) (by decide)).2) dX10_readsCommand_150 kc_X10_number kV_X10_242 R154.ob rfl rfl rfl rfl (Nat.le_of_ble_eq_true rfl) (by decide) (by decide) m_nox (fun v9 M155 h9 => ?_)
      obtain ⟨rfl, R156, f157⟩ := h9
      have R158 : mmV a (rW (hs (c_1 w n k) 9 (5 * n + 1) (t_d tx s1).1) (t_n tx (t_s tx 32 (t_d tx s1).2)).2.1 (t_n tx (t_s tx 32 (t_d tx s1).2)).2.2) g M155 := R156
      refine m_w9 hC R158 ha dX10_readsCommand_153 (by omega) (fun M159 R160 f161 => ?_)
      have R162 : mmV a (rW (hs (hs (c_1 w n k) 9 (5 * n + 1) (t_d tx s1).1) 9 (5 * n + 2) (t_n tx (t_s tx 32 (t_d tx s1).2)).1) (t_n tx (t_s tx 32 (t_d tx s1).2)).2.1 (t_n tx (t_s tx 32 (t_d tx s1).2)).2.2) g M159 := by rw [← rW_9]; exact R160
      exact m_vret hC dX10_readsCommand_154 hr (by decide) (by decide) (⟨rfl, ⟨_, _, ⟨k, s1, hk, hs1, Or.inr (Or.inr (Or.inr (Or.inr (Or.inl ⟨hkj, rfl, rfl⟩))))⟩, (t_n_ok (t_s_ok (t_d_ok ok1) (by decide))), R162⟩, (f3.tr (f7.tr (f11.tr (f15.tr (f144.tr (f148.tr (f153.tr (f157.tr f161))))))))⟩)
    · have hkj := e
      refine m_aload_n hC 2 dX10_readsCommand_38 rfl rfl ?_
      refine m_getf hC dX10_readsCommand_39 kf_X10_216 R16.ob rfl ?_
      refine m_iconst hC dX10_readsCommand_42 ?_
      refine m_icmp_ne (tgt := 61) hC dX10_readsCommand_43 (by decide) (X_r43 ok1 hX) (fun c163 => by omega) (fun c163 => ?_)
      refine m_iload_n hC 0 dX10_readsCommand_46 rfl rfl ?_
      refine m_bipush hC dX10_readsCommand_47 (by decide) ?_
      refine m_icmp_ne (tgt := 62) hC dX10_readsCommand_49 (by decide) (by first | omega | (simp [hs_at] <;> omega)) (fun c164 => ?_) (fun c164 => by omega)
      refine m_iload_n hC 0 dX10_readsCommand_62 rfl rfl ?_
      refine m_iconst hC dX10_readsCommand_63 ?_
      refine m_icmp_ne (tgt := 73) hC dX10_readsCommand_64 (by decide) (by first | omega | (simp [hs_at] <;> omega)) (fun c165 => ?_) (fun c165 => by omega)
      refine m_iload_n hC 0 dX10_readsCommand_73 rfl rfl ?_
      refine m_bipush hC dX10_readsCommand_74 (by decide) ?_
      refine m_icmp_ne (tgt := 85) hC dX10_readsCommand_76 (by decide) (by first | omega | (simp [hs_at] <;> omega)) (fun c166 => ?_) (fun c166 => by omega)
      refine m_iload_n hC 0 dX10_readsCommand_85 rfl rfl ?_
      refine m_iconst hC dX10_readsCommand_86 ?_
      refine m_icmp_eq (tgt := 101) hC dX10_readsCommand_87 (by decide) (by first | omega | (simp [hs_at] <;> omega)) (fun c167 => by omega) (fun c167 => ?_)
      refine m_iload_n hC 0 dX10_readsCommand_90 rfl rfl ?_
      refine m_iconst hC dX10_readsCommand_91 ?_
      refine m_icmp_eq (tgt := 101) hC dX10_readsCommand_92 (by decide) (by first | omega | (simp [hs_at] <;> omega)) (fun c168 => by omega) (fun c168 => ?_)
      refine m_iload_n hC 0 dX10_readsCommand_95 rfl rfl ?_
      refine m_bipush hC dX10_readsCommand_96 (by decide) ?_
      refine m_dia_icmp_le hC dX10_readsCommand_98 dX10_readsCommand_101 dX10_readsCommand_102 dX10_readsCommand_105 rfl rfl (by first | omega | (simp [hs_at] <;> omega)) ?_
      refine m_veq (z2 := 1) (b01_t (by omega)) ?_
      refine m_istore_n hC dX10_readsCommand_106 rfl (by decide) rfl ?_
      refine m_aload_n hC 3 dX10_readsCommand_107 rfl rfl ?_
      refine m_getf hC dX10_readsCommand_108 kf_X10_41 R16.ob rfl ?_
      refine m_iload_n hC 2 dX10_readsCommand_111 rfl rfl ?_
      refine m_iconst hC dX10_readsCommand_112 ?_
      refine m_iadd hC dX10_readsCommand_113 ?_
      refine m_iload_n hC 0 dX10_readsCommand_114 rfl rfl ?_
      refine m_if_eq (tgt := 125) hC dX10_readsCommand_115 (by decide) (by first | omega | (simp [hs_at] <;> omega)) (fun c169 => by omega) (fun c169 => ?_)
      refine m_aload_n hC 3 dX10_readsCommand_118 rfl rfl ?_
      refine m_callV hC (t_X10_number hF hl R16 ha hX1 ok1.1 ok1.2) dX10_readsCommand_119 kc_X10_number kV_X10_242 R16.ob rfl rfl rfl rfl (Nat.le_of_ble_eq_true rfl) (by decide) (by decide) m_nox (fun v9 M170 h9 => ?_)
      obtain ⟨rfl, R171, f172⟩ := h9
      have R173 : mmV a (rW (c_1 w n k) (t_n tx s1).2.1 (t_n tx s1).2.2) g M170 := R171
      refine m_goto (tgt := 129) hC dX10_readsCommand_122 (by decide) ?_
      refine m_w9 hC R173 ha dX10_readsCommand_129 (by omega) (fun M174 R175 f176 => ?_)
      have R177 : mmV a (rW (hs (c_1 w n k) 9 (5 * n + 1) (t_n tx s1).1) (t_n tx s1).2.1 (t_n tx s1).2.2) g M174 := by rw [← rW_9]; exact R175
      refine m_iload_n hC 1 dX10_readsCommand_130 rfl rfl ?_
      refine m_bipush hC dX10_readsCommand_131 (by decide) ?_
      refine m_icmp_ne (tgt := 154) hC dX10_readsCommand_133 (by decide) (by first | omega | (simp [hs_at] <;> omega)) (fun c178 => ?_) (fun c178 => by omega)
      exact m_vret hC dX10_readsCommand_154 hr (by decide) (by decide) (⟨rfl, ⟨_, _, ⟨k, s1, hk, hs1, Or.inr (Or.inr (Or.inr (Or.inr (Or.inr (Or.inl ⟨by omega, rfl, rfl⟩)))))⟩, (t_n_ok ok1), R177⟩, (f3.tr (f7.tr (f11.tr (f15.tr (f172.tr f176)))))⟩)
    · have hkj := e
      refine m_aload_n hC 2 dX10_readsCommand_38 rfl rfl ?_
      refine m_getf hC dX10_readsCommand_39 kf_X10_216 R16.ob rfl ?_
      refine m_iconst hC dX10_readsCommand_42 ?_
      refine m_icmp_ne (tgt := 61) hC dX10_readsCommand_43 (by decide) (X_r43 ok1 hX) (fun c179 => by omega) (fun c179 => ?_)
      refine m_iload_n hC 0 dX10_readsCommand_46 rfl rfl ?_
      refine m_bipush hC dX10_readsCommand_47 (by decide) ?_
      refine m_icmp_ne (tgt := 62) hC dX10_readsCommand_49 (by decide) (by first | omega | (simp [hs_at] <;> omega)) (fun c180 => ?_) (fun c180 => by omega)
      refine m_iload_n hC 0 dX10_readsCommand_62 rfl rfl ?_
      refine m_iconst hC dX10_readsCommand_63 ?_
      refine m_icmp_ne (tgt := 73) hC dX10_readsCommand_64 (by decide) (by first | omega | (simp [hs_at] <;> omega)) (fun c181 => ?_) (fun c181 => by omega)
      refine m_iload_n hC 0 dX10_readsCommand_73 rfl rfl ?_
      refine m_bipush hC dX10_readsCommand_74 (by decide) ?_
      refine m_icmp_ne (tgt := 85) hC dX10_readsCommand_76 (by decide) (by first | omega | (simp [hs_at] <;> omega)) (fun c182 => ?_) (fun c182 => by omega)
      refine m_iload_n hC 0 dX10_readsCommand_85 rfl rfl ?_
      refine m_iconst hC dX10_readsCommand_86 ?_
      refine m_icmp_eq (tgt := 101) hC dX10_readsCommand_87 (by decide) (by first | omega | (simp [hs_at] <;> omega)) (fun c183 => by omega) (fun c183 => ?_)
      refine m_iload_n hC 0 dX10_readsCommand_90 rfl rfl ?_
      refine m_iconst hC dX10_readsCommand_91 ?_
      refine m_icmp_eq (tgt := 101) hC dX10_readsCommand_92 (by decide) (by first | omega | (simp [hs_at] <;> omega)) (fun c184 => by omega) (fun c184 => ?_)
      refine m_iload_n hC 0 dX10_readsCommand_95 rfl rfl ?_
      refine m_bipush hC dX10_readsCommand_96 (by decide) ?_
      refine m_dia_icmp_le hC dX10_readsCommand_98 dX10_readsCommand_101 dX10_readsCommand_102 dX10_readsCommand_105 rfl rfl (by first | omega | (simp [hs_at] <;> omega)) ?_
      refine m_veq (z2 := 1) (b01_t (by omega)) ?_
      refine m_istore_n hC dX10_readsCommand_106 rfl (by decide) rfl ?_
      refine m_aload_n hC 3 dX10_readsCommand_107 rfl rfl ?_
      refine m_getf hC dX10_readsCommand_108 kf_X10_41 R16.ob rfl ?_
      refine m_iload_n hC 2 dX10_readsCommand_111 rfl rfl ?_
      refine m_iconst hC dX10_readsCommand_112 ?_
      refine m_iadd hC dX10_readsCommand_113 ?_
      refine m_iload_n hC 0 dX10_readsCommand_114 rfl rfl ?_
      refine m_if_eq (tgt := 125) hC dX10_readsCommand_115 (by decide) (by first | omega | (simp [hs_at] <;> omega)) (fun c185 => by omega) (fun c185 => ?_)
      refine m_aload_n hC 3 dX10_readsCommand_118 rfl rfl ?_
      refine m_callV hC (t_X10_number hF hl R16 ha hX1 ok1.1 ok1.2) dX10_readsCommand_119 kc_X10_number kV_X10_242 R16.ob rfl rfl rfl rfl (Nat.le_of_ble_eq_true rfl) (by decide) (by decide) m_nox (fun v9 M186 h9 => ?_)
      obtain ⟨rfl, R187, f188⟩ := h9
      have R189 : mmV a (rW (c_1 w n k) (t_n tx s1).2.1 (t_n tx s1).2.2) g M186 := R187
      refine m_goto (tgt := 129) hC dX10_readsCommand_122 (by decide) ?_
      refine m_w9 hC R189 ha dX10_readsCommand_129 (by omega) (fun M190 R191 f192 => ?_)
      have R193 : mmV a (rW (hs (c_1 w n k) 9 (5 * n + 1) (t_n tx s1).1) (t_n tx s1).2.1 (t_n tx s1).2.2) g M190 := by rw [← rW_9]; exact R191
      refine m_iload_n hC 1 dX10_readsCommand_130 rfl rfl ?_
      refine m_bipush hC dX10_readsCommand_131 (by decide) ?_
      refine m_icmp_ne (tgt := 154) hC dX10_readsCommand_133 (by decide) (by first | omega | (simp [hs_at] <;> omega)) (fun c194 => ?_) (fun c194 => by omega)
      exact m_vret hC dX10_readsCommand_154 hr (by decide) (by decide) (⟨rfl, ⟨_, _, ⟨k, s1, hk, hs1, Or.inr (Or.inr (Or.inr (Or.inr (Or.inr (Or.inl ⟨by omega, rfl, rfl⟩)))))⟩, (t_n_ok ok1), R193⟩, (f3.tr (f7.tr (f11.tr (f15.tr (f188.tr f192)))))⟩)
    · have hkj := e
      refine m_aload_n hC 2 dX10_readsCommand_38 rfl rfl ?_
      refine m_getf hC dX10_readsCommand_39 kf_X10_216 R16.ob rfl ?_
      refine m_iconst hC dX10_readsCommand_42 ?_
      refine m_icmp_ne (tgt := 61) hC dX10_readsCommand_43 (by decide) (X_r43 ok1 hX) (fun c195 => by omega) (fun c195 => ?_)
      refine m_iload_n hC 0 dX10_readsCommand_46 rfl rfl ?_
      refine m_bipush hC dX10_readsCommand_47 (by decide) ?_
      refine m_icmp_ne (tgt := 62) hC dX10_readsCommand_49 (by decide) (by first | omega | (simp [hs_at] <;> omega)) (fun c196 => by omega) (fun c196 => ?_)
      refine m_aload_n hC 2 dX10_readsCommand_52 rfl rfl ?_
      refine m_callV hC (t_X10_letterHere hF hl R16 ha hX1 ok1a ok1b) dX10_readsCommand_53 kc_X10_letterHere kV_X10_219 R16.ob rfl rfl rfl rfl (Nat.le_of_ble_eq_true rfl) (by decide) (by decide) m_nox (fun v9 M197 h9 => ?_)
      obtain ⟨rfl, h9⟩ := h9
      replace h9 := h9.symm
      subst h9
      refine m_bipush hC dX10_readsCommand_56 (by decide) ?_
      refine m_icmp_eq (tgt := 62) hC dX10_readsCommand_58 (by decide) (by have := ltr_rg hX s1.1; omega) (fun c58 => ?_) (fun c58 => ?_)
      · refine m_iload_n hC 0 dX10_readsCommand_62 rfl rfl ?_
        refine m_iconst hC dX10_readsCommand_63 ?_
        refine m_icmp_ne (tgt := 73) hC dX10_readsCommand_64 (by decide) (by first | omega | (simp [hs_at] <;> omega)) (fun c198 => ?_) (fun c198 => by omega)
        refine m_iload_n hC 0 dX10_readsCommand_73 rfl rfl ?_
        refine m_bipush hC dX10_readsCommand_74 (by decide) ?_
        refine m_icmp_ne (tgt := 85) hC dX10_readsCommand_76 (by decide) (by first | omega | (simp [hs_at] <;> omega)) (fun c199 => by omega) (fun c199 => ?_)
        refine m_aload_n hC 2 dX10_readsCommand_79 rfl rfl ?_
        refine m_bipush hC dX10_readsCommand_80 (by decide) ?_
        refine m_callV hC (t_X10_sign hF hl R16 ha hX1 ok1.1 ok1.2 (x := 32) (by decide)) dX10_readsCommand_82 kc_X10_sign kV_X10_239 R16.ob rfl rfl rfl rfl (Nat.le_of_ble_eq_true rfl) (by decide) (by decide) m_nox (fun v9 M200 h9 => ?_)
        obtain ⟨rfl, R201, f202⟩ := h9
        have R203 : mmV a (rW (c_1 w n k) (t_s tx 32 s1).1 (t_s tx 32 s1).2) g M200 := R201
        refine m_iload_n hC 0 dX10_readsCommand_85 rfl rfl ?_
        refine m_iconst hC dX10_readsCommand_86 ?_
        refine m_icmp_eq (tgt := 101) hC dX10_readsCommand_87 (by decide) (by first | omega | (simp [hs_at] <;> omega)) (fun c204 => by omega) (fun c204 => ?_)
        refine m_iload_n hC 0 dX10_readsCommand_90 rfl rfl ?_
        refine m_iconst hC dX10_readsCommand_91 ?_
        refine m_icmp_eq (tgt := 101) hC dX10_readsCommand_92 (by decide) (by first | omega | (simp [hs_at] <;> omega)) (fun c205 => by omega) (fun c205 => ?_)
        refine m_iload_n hC 0 dX10_readsCommand_95 rfl rfl ?_
        refine m_bipush hC dX10_readsCommand_96 (by decide) ?_
        refine m_dia_icmp_le hC dX10_readsCommand_98 dX10_readsCommand_101 dX10_readsCommand_102 dX10_readsCommand_105 rfl rfl (by first | omega | (simp [hs_at] <;> omega)) ?_
        refine m_veq (z2 := 1) (b01_t (by omega)) ?_
        refine m_istore_n hC dX10_readsCommand_106 rfl (by decide) rfl ?_
        refine m_aload_n hC 3 dX10_readsCommand_107 rfl rfl ?_
        refine m_getf hC dX10_readsCommand_108 kf_X10_41 R203.ob rfl ?_
        refine m_iload_n hC 2 dX10_readsCommand_111 rfl rfl ?_
        refine m_iconst hC dX10_readsCommand_112 ?_
        refine m_iadd hC dX10_readsCommand_113 ?_
        refine m_iload_n hC 0 dX10_readsCommand_114 rfl rfl ?_
        refine m_if_eq (tgt := 125) hC dX10_readsCommand_115 (by decide) (by first | omega | (simp [hs_at] <;> omega)) (fun c206 => by omega) (fun c206 => ?_)
        refine m_aload_n hC 3 dX10_readsCommand_118 rfl rfl ?_
        refine m_callV hC (t_X10_number hF hl R203 ha hX1 (t_s_ok ok1 (by decide)).1 (t_s_ok ok1 (by decide)).2) dX10_readsCommand_119 kc_X10_number kV_X10_242 R203.ob rfl rfl rfl rfl (Nat.le_of_ble_eq_true rfl) (by decide) (by decide) m_nox (fun v9 M207 h9 => ?_)
        obtain ⟨rfl, R208, f209⟩ := h9
        have R210 : mmV a (rW (c_1 w n k) (t_n tx (t_s tx 32 s1)).2.1 (t_n tx (t_s tx 32 s1)).2.2) g M207 := R208
        refine m_goto (tgt := 129) hC dX10_readsCommand_122 (by decide) ?_
        refine m_w9 hC R210 ha dX10_readsCommand_129 (by omega) (fun M211 R212 f213 => ?_)
        have R214 : mmV a (rW (hs (c_1 w n k) 9 (5 * n + 1) (t_n tx (t_s tx 32 s1)).1) (t_n tx (t_s tx 32 s1)).2.1 (t_n tx (t_s tx 32 s1)).2.2) g M211 := by rw [← rW_9]; exact R212
        refine m_iload_n hC 1 dX10_readsCommand_130 rfl rfl ?_
        refine m_bipush hC dX10_readsCommand_131 (by decide) ?_
        refine m_icmp_ne (tgt := 154) hC dX10_readsCommand_133 (by decide) (by first | omega | (simp [hs_at] <;> omega)) (fun c215 => ?_) (fun c215 => by omega)
        exact m_vret hC dX10_readsCommand_154 hr (by decide) (by decide) (⟨rfl, ⟨_, _, ⟨k, s1, hk, hs1, Or.inr (Or.inr (Or.inr (Or.inl ⟨hkj, c58, rfl, rfl⟩)))⟩, (t_n_ok (t_s_ok ok1 (by decide))), R214⟩, (f3.tr (f7.tr (f11.tr (f15.tr (f202.tr (f209.tr f213))))))⟩)
      · exact m_vret hC dX10_readsCommand_61 hr (by decide) (by decide) (⟨rfl, ⟨_, _, ⟨k, s1, hk, hs1, Or.inr (Or.inl ⟨hkj, c58, rfl, rfl⟩)⟩, ok1, R16⟩, (f3.tr (f7.tr (f11.tr f15)))⟩)

