/-- a command at a: its form, its arguments -/
def cmA (fo : Nat → Nat) (a k : Nat) (A : List Int) (M : m_M) : Prop := A.length ≤ 4 ∧ ∃ f : Int → Int, cmP fo a k (A.length : Int) f M ∧ ∀ i : Nat, i < A.length → f (i : Int) = A.getD i 0
def m_f2 (y a : Nat) (M M2 : m_M) : Prop := M2.1 = M.1 ∧ ∀ q : Nat, q ≠ y → (q < a ∨ a + 2 ≤ q) → M2.2 q = M.2 q
theorem m_f2.rf {y a : Nat} {M : m_M} : m_f2 y a M M := ⟨rfl, fun _ _ _ => rfl⟩
theorem m_f2.tr {y a : Nat} {M M1 M2 : m_M} (h : m_f2 y a M M1) (h2 : m_f2 y a M1 M2) : m_f2 y a M M2 := ⟨h2.1.trans h.1, fun q a1 a2 => (h2.2 q a1 a2).trans (h.2 q a1 a2)⟩
theorem m_f2.of1 {y a : Nat} {M M1 : m_M} (h : m_fr y 1 M M1) : m_f2 y a M M1 := ⟨h.1, fun q a1 _ => h.2 q (by omega)⟩
theorem m_f2.of2 {y a : Nat} {M M1 : m_M} (h : m_fr a 2 M M1) : m_f2 y a M M1 := ⟨h.1, fun q _ a2 => h.2 q a2⟩
theorem sbT.keep2 {z0 a v n y b : Nat} {tx : List Int} {M M2 : m_M} (h : sbT z0 a v n tx M) (hf : m_f2 y b M M2) (h1 : a ≠ y ∧ (a < b ∨ b + 2 ≤ a)) (h2 : v ≠ y ∧ (v < b ∨ b + 2 ≤ v)) : sbT z0 a v n tx M2 := by
  obtain ⟨ml, f, hP, q1, q2, q3, q4⟩ := h
  exact ⟨ml, f, ⟨(hf.2 _ h1.1 h1.2).trans hP.1, (hf.2 _ h2.1 h2.2).trans hP.2⟩, q1, q2, by rw [hf.1]; exact q3, q4⟩
theorem cmA.keep {fo : Nat → Nat} {a k : Nat} {A : List Int} {M M2 : m_M} (h : cmA fo a k A M) (hq : ∀ q : Nat, a ≤ q → q < a + 2 → M2.2 q = M.2 q) : cmA fo a k A M2 := by
  obtain ⟨h1, f, h2, h3⟩ := h
  exact ⟨h1, f, h2.keep hq, h3⟩
theorem p_fit_rg (tx z : List Int) : ∀ (n : Nat) (i q : Int) (A : List Int) (fu : Int), 0 ≤ q ∧ q ≤ (tx.length : Int) → 0 ≤ fu ∧ fu ≤ 1000 → tx.length ≤ 240 → ((p_fit tx z n i q A fu).1 = -1 ∨ (q ≤ (p_fit tx z n i q A fu).1 ∧ (p_fit tx z n i q A fu).1 ≤ (tx.length : Int))) ∧ 0 ≤ (p_fit tx z n i q A fu).2.1 ∧ (p_fit tx z n i q A fu).2.1 ≤ 1000 := by
  intro n
  induction n with
  | zero =>
    intro i q A fu hq hf hL
    rw [p_fit]
    split
    · exact ⟨Or.inl rfl, by show 0 ≤ max fu q ∧ max fu q ≤ 1000; omega⟩
    · exact ⟨Or.inr ⟨Int.le_refl _, hq.2⟩, hf⟩
  | succ n ih =>
    intro i q A fu hq hf hL
    rw [p_fit]
    split
    · exact ⟨Or.inl rfl, by show 0 ≤ max fu q ∧ max fu q ≤ 1000; omega⟩
    · have rg := p_eos_rg tx (z.getD i.toNat 0) q hq
      have := ih (i + 1) _ (if z.getD i.toNat 0 = 35 ∨ z.getD i.toNat 0 = 42 then p_add A (p_num tx (p_eos tx (z.getD i.toNat 0) q - q).toNat q 0) else A) fu (show 0 ≤ p_eos tx (z.getD i.toNat 0) q ∧ _ from ⟨by omega, rg.2.1⟩) hf hL
      refine ⟨?_, this.2⟩
      rcases this.1 with h | h
      · exact Or.inl h
      · exact Or.inr ⟨by omega, h.2⟩
theorem p_rc_rg (tx : List Int) (q : Int) (hq : 0 ≤ q ∧ q ≤ (tx.length : Int)) (hL : tx.length ≤ 240) : ∀ (n k : Nat) (fu : Int), 0 ≤ fu ∧ fu ≤ 1000 → ((p_rc tx q n k fu).1 = -1 ∨ (q ≤ (p_rc tx q n k fu).1 ∧ (p_rc tx q n k fu).1 ≤ (tx.length : Int))) ∧ 0 ≤ (p_rc tx q n k fu).2.1 ∧ (p_rc tx q n k fu).2.1 ≤ 1000 := by
  intro n
  induction n with
  | zero => intro k fu hf; exact ⟨Or.inl rfl, hf⟩
  | succ n ih =>
    intro k fu hf
    have rg := p_fit_rg tx (fo_z.getD k []) (fo_z.getD k []).length 0 q [] fu hq hf hL
    rw [p_rc]
    split
    · exact rg
    · exact ih (k + 1) _ rg.2

set_option maxHeartbeats 4000000 in
set_option maxRecDepth 100000 in
theorem t_X2_addArgument {D : va_G} {aC : Nat → ClassId} {s0 : State} {l : Launch} (hF : m_F D aC s0) (hl : l.stackTraces = false) {fo : Nat → Nat} {a k : Nat} {A : List Int} {x : Int} {M : m_M} (hA : cmA fo a k A M) (ha : s0.heap.size ≤ a) : m_Met D aC s0 l yX2_addArgument cX2_addArgument 2 none 0 (0) (0) [.ref a, VI x] M (fun r M' => r = none ∧ cmA fo a k (p_add A x) M' ∧ m_fr a 2 M M') m_nx := by
  refine m_entry (lv := [(0, .ref a), (1, VI x)]) (by decide +kernel) (Nat.le_of_ble_eq_true rfl) rfl hF hl ?_
  intro p e s m args below meth c hC hr hno hnm
  change m_C D aC s0 RX2 _ _ _ _ _ _ _ _ _ at hC
  obtain ⟨hA1, f, hA2, hA3⟩ := id hA
  refine m_aload_n hC 0 dX2_addArgument_0 rfl rfl ?_
  refine m_getf hC dX2_addArgument_1 kf_X2_15 hA2.1 rfl ?_
  refine m_iconst hC dX2_addArgument_4 ?_
  refine m_icmp_ge (tgt := 28) hC dX2_addArgument_5 (by decide) (by first | omega | (simp [hs_at] <;> omega)) (fun c1 => ?_) (fun c1 => ?_)
  · exact m_vret hC dX2_addArgument_28 hr (by decide) (by decide) (⟨rfl, by unfold p_add; rw [if_neg (by omega)]; exact hA, m_fr.rf⟩)
  · refine m_aload_n hC 0 dX2_addArgument_8 rfl rfl ?_
    refine m_getf hC dX2_addArgument_9 kf_X2_9 hA2.1 rfl ?_
    refine m_aload_n hC 0 dX2_addArgument_12 rfl rfl ?_
    refine m_getf hC dX2_addArgument_13 kf_X2_15 hA2.1 rfl ?_
    refine m_iload_n hC 1 dX2_addArgument_16 rfl rfl ?_
    refine m_gst hC dX2_addArgument_17 hA2.2 (by omega) (by decide) (by first | omega | (simp [hs_at] <;> omega)) (fun M2 R3 f4 => ?_)
    have R5 := (f4.2 _ (by omega)).trans hA2.1
    refine m_aload_n hC 0 dX2_addArgument_18 rfl rfl ?_
    refine m_dup hC dX2_addArgument_19 rfl ?_
    refine m_getf hC dX2_addArgument_20 kf_X2_15 R5 rfl ?_
    refine m_iconst hC dX2_addArgument_23 ?_
    refine m_iadd hC dX2_addArgument_24 ?_
    refine m_gpf hC dX2_addArgument_25 kf_X2_15 kw_5_1 R5 ha (Nat.le_of_ble_eq_true rfl) rfl rfl (fun M6 R7 f8 => ?_)
    change M6.2 _ = some (m_ob 5 [_, _, _]) at R7
    have R9 := (f8.2 _ (by omega)).trans R3
    exact m_vret hC dX2_addArgument_28 hr (by decide) (by decide) (⟨rfl, by unfold p_add; rw [if_pos (by omega)]; exact ⟨by rw [List.length_append]; show A.length + 1 ≤ 4; omega, _, ⟨by rw [List.length_append]; exact R7, R9⟩, k_snoc hA3⟩, ((f4.mono (by omega) (by omega)).tr (f8.mono (by omega) (by omega)))⟩)

set_option maxHeartbeats 4000000 in
set_option maxRecDepth 100000 in
theorem t_X8_fit {D : va_G} {aC : Nat → ClassId} {s0 : State} {l : Launch} (hF : m_F D aC s0) (hl : l.stackTraces = false) {fo ks vs : Nat → Nat} {fA sA dO dT : Nat} (hJ : m_J s0 fo ks vs fA sA dO dT) {y v n a9 k : Nat} {tx z : List Int} {cnt fur : Int} {M : m_M} (hY : M.2 y = some (m_ob 10 [.ref (y + 1), .ref (y + 3), VI cnt, VI fur])) (hT : sbT s0.heap.size (y + 1) v n tx M) (hy : s0.heap.size ≤ y) (hv : v = y + 2 ∨ y + 28 ≤ v) (ha9 : y + 4 ≤ a9 ∧ a9 + 2 ≤ y + 28) (hL : tx.length ≤ 240) (hfu : 0 ≤ fur ∧ fur ≤ 1000) {A0 : List Int} (hA : cmA fo a9 k A0 M) {qs vq : Nat} (hs : m_str s0 qs vq z) {q : Int} (hq : 0 ≤ q ∧ q ≤ (tx.length : Int)) : m_Met D aC s0 l yX8_fit cX8_fit 7 (some .int) 6 (0) (0) [.ref y, .ref qs, VI q, .ref a9] M (fun r M' => r = some (VI (p_fit tx z z.length 0 q [] fur).1) ∧ M'.2 y = some (m_ob 10 [.ref (y + 1), .ref (y + 3), VI cnt, VI (p_fit tx z z.length 0 q [] fur).2.1]) ∧ cmA fo a9 k (p_fit tx z z.length 0 q [] fur).2.2 M' ∧ m_f2 y a9 M M') m_nx := by
  refine m_entry (lv := [(0, .ref y), (1, .ref qs), (2, VI q), (3, .ref a9)]) (by decide +kernel) (Nat.le_of_ble_eq_true rfl) rfl hF hl ?_
  intro p e s m args below meth c hC hr hno hnm
  change m_C D aC s0 RX8 _ _ _ _ _ _ _ _ _ at hC
  obtain ⟨hA1, fA1, hA2, hA3⟩ := hA
  refine m_aload_n hC 3 dX8_fit_0 rfl rfl ?_
  refine m_iconst hC dX8_fit_1 ?_
  refine m_gpf hC dX8_fit_2 kf_X8_58 kw_5_1 hA2.1 (by omega) (Nat.le_of_ble_eq_true rfl) rfl rfl (fun M1 R2 f3 => ?_)
  change M1.2 _ = some (m_ob 5 [_, _, _]) at R2
  have R4 := (f3.2 _ (by omega)).trans hY
  have R5 := hT.keep f3 (by omega) (by omega)
  refine m_iload_n hC 2 dX8_fit_5 rfl rfl ?_
  refine m_istore hC dX8_fit_6 (by decide) rfl ?_
  refine m_iconst hC dX8_fit_8 ?_
  refine m_istore hC dX8_fit_9 (by decide) rfl ?_
  have hA0 : cmA fo a9 k [] M1 := ⟨Nat.zero_le _, fA1, ⟨R2, (f3.2 _ (by omega)).trans hA2.2⟩, fun i hi => absurd hi (Nat.not_lt_zero _)⟩
  have L : ∀ (n9 : Nat) (i q1 : Int) (A : List Int) (M1 : m_M), (z.length : Int) - i < (n9 : Int) → 0 ≤ i → i ≤ (z.length : Int) → 0 ≤ q1 ∧ q1 ≤ (tx.length : Int) → (p_fit tx z z.length 0 q [] fur) = p_fit tx z ((z.length : Int) - i).toNat i q1 A fur → cmA fo a9 k A M1 → M1.2 y = some (m_ob 10 [.ref (y + 1), .ref (y + 3), VI cnt, VI fur]) → sbT s0.heap.size (y + 1) v n tx M1 → m_f2 y a9 M M1 → m_W D aC s0 7 p l e (m_R 6 (0) (0)) s m args below meth c (0) (0) (m_Q D aC s0 below (fun r M' => r = some (VI (p_fit tx z z.length 0 q [] fur).1) ∧ M'.2 y = some (m_ob 10 [.ref (y + 1), .ref (y + 3), VI cnt, VI (p_fit tx z z.length 0 q [] fur).2.1]) ∧ cmA fo a9 k (p_fit tx z z.length 0 q [] fur).2.2 M' ∧ m_f2 y a9 M M') m_nx args s (0) (0)) 11 [(5, VI i), (4, VI q1), (3, .ref a9), (2, VI q), (1, .ref qs), (0, .ref y)] [] M1 := by
    intro n9
    induction n9 with
    | zero =>
      intro i q1 A M1 hn h0 h1 hat hS hA1 hY1 hT1 hf1
      omega
    | succ n9 ih =>
      intro i q1 A M1 hn h0 h1 hat hS hA1 hY1 hT1 hf1
      have hzz := hs.2.2.2.2.1 i.toNat
      have hz9 := hs.2.2.2.2.2
      refine m_iload hC 0 dX8_fit_11 rfl ?_
      refine m_aload_n hC 4 dX8_fit_13 rfl rfl ?_
      refine m_callVr hC (t_J0_length_8abf5 hF hl hJ hs) dX8_fit_14 kc_J0_length_8abf5 kV_X8_59 rfl (m_old hC hs.1) rfl rfl (Nat.le_of_ble_eq_true rfl) (by decide) (by decide) m_nox (fun v9 M6 h9 => ?_)
      obtain ⟨rfl, h9⟩ := h9
      replace h9 := h9.symm
      subst h9
      refine m_icmp_ge (tgt := 82) hC dX8_fit_17 (by decide) (by first | omega | (simp [hs_at] <;> omega)) (fun c7 => ?_) (fun c7 => ?_)
      · refine m_iload hC 1 dX8_fit_82 rfl ?_
        refine m_aload_n hC 5 dX8_fit_84 rfl rfl ?_
        refine m_getf hC dX8_fit_85 kf_X8_12 hY1 rfl ?_
        refine m_callVr hC (t_J4_length_8abf5 hF hl hT1) dX8_fit_88 kc_J4_length_8abf5 kV_X8_36 rfl (m_sbr hC hT1) rfl rfl (Nat.le_of_ble_eq_true rfl) (by decide) (by decide) m_nox (fun v9 M8 h9 => ?_)
        obtain ⟨rfl, h9⟩ := h9
        replace h9 := h9.symm
        subst h9
        refine m_icmp_ge (tgt := 115) hC dX8_fit_91 (by decide) (by first | omega | (simp [hs_at] <;> omega)) (fun c9 => ?_) (fun c9 => ?_)
        · refine m_iload hC 1 dX8_fit_115 rfl ?_
          exact m_iret hC dX8_fit_117 hr (by decide) (by decide) ((by have hR9 : (p_fit tx z z.length 0 q [] fur) = (q1, fur, A) := (by rw [hS, show ((z.length : Int) - i).toNat = 0 by omega, p_fit, if_neg (by omega)]); rw [hR9]; exact ⟨rfl, hY1, hA1, hf1⟩))
        · have hce := hT1.ch q1 (by omega)
          refine m_aload_n hC 5 dX8_fit_94 rfl rfl ?_
          refine m_getf hC dX8_fit_95 kf_X8_12 hY1 rfl ?_
          refine m_iload hC 1 dX8_fit_98 rfl ?_
          refine m_callVr hC (t_J4_charAt_5068e hF hl hJ hT1 (i := q1) (by omega)) dX8_fit_100 kc_J4_charAt_5068e kV_X8_86 rfl (m_sbr hC hT1) rfl rfl (Nat.le_of_ble_eq_true rfl) (by decide) (by decide) m_nox (fun v9 M10 h9 => ?_)
          obtain ⟨rfl, h9⟩ := h9
          replace h9 := h9.symm
          subst h9
          refine m_bipush hC dX8_fit_103 (by decide) ?_
          refine m_icmp_eq (tgt := 115) hC dX8_fit_105 (by decide) (by first | omega | (simp [hs_at] <;> omega)) (fun c11 => ?_) (fun c11 => ?_)
          · refine m_iload hC 1 dX8_fit_115 rfl ?_
            exact m_iret hC dX8_fit_117 hr (by decide) (by decide) ((by have hR9 : (p_fit tx z z.length 0 q [] fur) = (q1, fur, A) := (by rw [hS, show ((z.length : Int) - i).toNat = 0 by omega, p_fit, if_neg (by omega)]); rw [hR9]; exact ⟨rfl, hY1, hA1, hf1⟩))
          · refine m_aload_n hC 5 dX8_fit_108 rfl rfl ?_
            refine m_iload hC 1 dX8_fit_109 rfl ?_
            refine m_callV hC (t_X8_stopAt hF hl hY1 hy (by omega)) dX8_fit_111 kc_X8_stopAt kV_X8_70 hY1 rfl rfl rfl rfl (Nat.le_of_ble_eq_true rfl) (by decide) (by decide) m_nox (fun v9 M12 h9 => ?_)
            obtain ⟨rfl, hY9, hf9⟩ := h9
            have hK9 := hA1.keep (fun p h1 h2 => hf9.2 p (by omega))
            exact m_iret hC dX8_fit_114 hr (by decide) (by decide) ((by have hR9 : (p_fit tx z z.length 0 q [] fur) = (-1, max fur q1, A) := (by rw [hS, show ((z.length : Int) - i).toNat = 0 by omega, p_fit, if_pos (by omega)]); rw [hR9]; exact ⟨rfl, hY9, hK9, hf1.tr (m_f2.of1 hf9)⟩))
      · refine m_aload_n hC 5 dX8_fit_20 rfl rfl ?_
        refine m_aload_n hC 4 dX8_fit_21 rfl rfl ?_
        refine m_iload hC 0 dX8_fit_22 rfl ?_
        refine m_callVr hC (t_J0_charAt_5068e hF hl hJ hs (i := i) (by omega)) dX8_fit_24 kc_J0_charAt_5068e kV_X8_62 rfl (m_old hC hs.1) rfl rfl (Nat.le_of_ble_eq_true rfl) (by decide) (by decide) m_nox (fun v9 M13 h9 => ?_)
        obtain ⟨rfl, h9⟩ := h9
        replace h9 := h9.symm
        subst h9
        refine m_iload hC 1 dX8_fit_27 rfl ?_
        refine m_callV hC (t_X8_endOfSign hF hl hJ hY1 hT1 hzz hat hL) dX8_fit_29 kc_X8_endOfSign kV_X8_66 hY1 rfl rfl rfl rfl (Nat.le_of_ble_eq_true rfl) (by decide) (by decide) m_nox (fun v9 M14 h9 => ?_)
        obtain ⟨rfl, h9⟩ := h9
        replace h9 := h9.symm
        subst h9
        have rg := p_eos_rg tx (z.getD i.toNat 0) q1 hat
        generalize hE9 : p_eos tx (z.getD i.toNat 0) q1 = en at *
        refine m_istore hC dX8_fit_32 (by decide) rfl ?_
        refine m_iload hC 0 dX8_fit_34 rfl ?_
        refine m_iload hC 2 dX8_fit_36 rfl ?_
        refine m_icmp_ne (tgt := 48) hC dX8_fit_38 (by decide) (by first | omega | (simp [hs_at] <;> omega)) (fun c15 => ?_) (fun c15 => ?_)
        · refine m_aload_n hC 5 dX8_fit_48 rfl rfl ?_
          refine m_iload hC 1 dX8_fit_49 rfl ?_
          refine m_callVr hC (t_J0_charAt_5068e hF hl hJ hs (i := i) (by omega)) dX8_fit_51 kc_J0_charAt_5068e kV_X8_62 rfl (m_old hC hs.1) rfl rfl (Nat.le_of_ble_eq_true rfl) (by decide) (by decide) m_nox (fun v9 M16 h9 => ?_)
          obtain ⟨rfl, h9⟩ := h9
          replace h9 := h9.symm
          subst h9
          refine m_callS hC (t_X8_isArgument hF hl hzz) dX8_fit_54 kc_X8_isArgument kS_X8_74 rfl rfl (Nat.le_of_ble_eq_true rfl) (by decide) (by decide) m_nox (fun v9 M54 h9 => ?_)
          obtain ⟨rfl, h9⟩ := h9
          replace h9 := h9.symm
          subst h9
          by_cases hqa : z.getD i.toNat 0 = 35 ∨ z.getD i.toNat 0 = 42
          · rw [if_pos hqa]
            refine m_if_eq (tgt := 72) hC dX8_fit_57 (by decide) (by first | omega | (simp [hs_at] <;> omega)) (fun c17 => by omega) (fun c17 => ?_)
            refine m_aload_n hC 3 dX8_fit_60 rfl rfl ?_
            refine m_aload_n hC 6 dX8_fit_61 rfl rfl ?_
            refine m_iload hC 2 dX8_fit_62 rfl ?_
            refine m_iload hC 0 dX8_fit_64 rfl ?_
            refine m_callV hC (t_X8_numberBetween hF hl hJ hY1 hT1 (q := q1) (e9 := en) (by omega) hL) dX8_fit_66 kc_X8_numberBetween kV_X8_78 hY1 rfl rfl rfl rfl (Nat.le_of_ble_eq_true rfl) (by decide) (by decide) m_nox (fun v9 M18 h9 => ?_)
            obtain ⟨rfl, h9⟩ := h9
            replace h9 := h9.symm
            subst h9
            obtain ⟨-, fz, hz9, -⟩ := id hA1
            refine m_callV hC (t_X2_addArgument hF hl hA1 (by omega) (x := p_num tx (en - q1).toNat q1 0)) dX8_fit_69 kc_X2_addArgument kV_X8_82 hz9.1 rfl rfl rfl rfl (Nat.le_of_ble_eq_true rfl) (by decide) (by decide) m_nox (fun v9 M19 h9 => ?_)
            obtain ⟨rfl, hA2, hf2⟩ := h9
            have hY2 := (hf2.2 y (by omega)).trans hY1
            have hT2 := hT1.keep hf2 (by omega) (by omega)
            refine m_iload hC 0 dX8_fit_72 rfl ?_
            refine m_istore hC dX8_fit_74 (by decide) rfl ?_
            refine m_iinc hC 2 dX8_fit_76 rfl (by decide) rfl ?_
            refine m_goto (tgt := 11) hC dX8_fit_79 (by decide) ?_
            refine m_lvs [0, 1, 3, 4, 5, 6] rfl (ih (i + 1) en _ M19 (by omega) (by omega) (by omega) (by omega) (by rw [hS, show (((z.length : Int) - i).toNat) = ((z.length : Int) - (i + 1)).toNat + 1 by omega, p_fit, hE9, if_neg (by omega), if_pos hqa]) hA2 hY2 hT2 (hf1.tr (m_f2.of2 hf2)))
          · rw [if_neg hqa]
            refine m_if_eq (tgt := 72) hC dX8_fit_57 (by decide) (by first | omega | (simp [hs_at] <;> omega)) (fun c20 => ?_) (fun c20 => by omega)
            refine m_iload hC 0 dX8_fit_72 rfl ?_
            refine m_istore hC dX8_fit_74 (by decide) rfl ?_
            refine m_iinc hC 2 dX8_fit_76 rfl (by decide) rfl ?_
            refine m_goto (tgt := 11) hC dX8_fit_79 (by decide) ?_
            refine m_lvs [0, 1, 3, 4, 5, 6] rfl (ih (i + 1) en _ M1 (by omega) (by omega) (by omega) (by omega) (by rw [hS, show (((z.length : Int) - i).toNat) = ((z.length : Int) - (i + 1)).toNat + 1 by omega, p_fit, hE9, if_neg (by omega), if_neg hqa]) hA1 hY1 hT1 hf1)
        · refine m_aload_n hC 6 dX8_fit_41 rfl rfl ?_
          refine m_iload hC 2 dX8_fit_42 rfl ?_
          refine m_callV hC (t_X8_stopAt hF hl hY1 hy (by omega)) dX8_fit_44 kc_X8_stopAt kV_X8_70 hY1 rfl rfl rfl rfl (Nat.le_of_ble_eq_true rfl) (by decide) (by decide) m_nox (fun v9 M21 h9 => ?_)
          obtain ⟨rfl, hY9, hf9⟩ := h9
          have hK9 := hA1.keep (fun p h1 h2 => hf9.2 p (by omega))
          exact m_iret hC dX8_fit_47 hr (by decide) (by decide) ((by have hR9 : (p_fit tx z z.length 0 q [] fur) = (-1, max fur q1, A) := (by rw [hS, show (((z.length : Int) - i).toNat) = ((z.length : Int) - (i + 1)).toNat + 1 by omega, p_fit, hE9, if_pos (by omega)]); rw [hR9]; exact ⟨rfl, hY9, hK9, hf1.tr (m_f2.of1 hf9)⟩))
  refine m_lvs [0, 1, 5, 4, 3, 2] rfl (L (z.length + 1) 0 q [] M1 (by omega) (by omega) (by omega) hq (by rw [Int.sub_zero]; rfl) hA0 R4 R5 (m_f2.of2 (f3.mono (by omega) (by omega))))

