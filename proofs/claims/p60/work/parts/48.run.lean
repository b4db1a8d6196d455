/-! arguments of a command that was read -/
def p_cnt (k : Nat) : Nat := [1, 1, 1, 1, 4, 1, 1, 1, 2, 1, 1, 0, 1].getD k 0
def p_ar (A : List Int) : Int → Int := fun i => A.getD i.toNat 0
def p_na (z : List Int) : Nat → Nat → Nat
  | 0, _ => 0
  | n + 1, i => (if z.getD i 0 = 35 ∨ z.getD i 0 = 42 then 1 else 0) + p_na z n (i + 1)
theorem p_eod_dg (tx : List Int) : ∀ (n : Nat) (e j : Int), e ≤ j → j < p_eod tx n e → 48 ≤ tx.getD j.toNat 0 ∧ tx.getD j.toNat 0 ≤ 57 := by
  intro n
  induction n with
  | zero => intro e j h1 h2; have h2 : j < e := h2; omega
  | succ n ih =>
    intro e j h1 h2
    rw [p_eod] at h2
    split at h2
    · rename_i q
      by_cases hj : j = e
      · rw [hj]; exact q.2
      · exact ih (e + 1) j (by omega) h2
    · exact ih e j h1 h2
theorem p_num_bd (tx : List Int) (q : Int) (m : Nat) (hm : m ≤ 3) (h : ∀ j, q ≤ j → j < q + m → 48 ≤ tx.getD j.toNat 0 ∧ tx.getD j.toNat 0 ≤ 57) : 0 ≤ p_num tx m q 0 ∧ p_num tx m q 0 ≤ 999 := by
  have hm2 : m = 0 ∨ m = 1 ∨ m = 2 ∨ m = 3 := by omega
  rcases hm2 with rfl | rfl | rfl | rfl
  · exact ⟨Int.le_refl _, by show (0 : Int) ≤ 999; omega⟩
  · have a := h q (by omega) (by omega)
    simp only [p_num]
    omega
  · have a := h q (by omega) (by omega)
    have b := h (q + 1) (by omega) (by omega)
    simp only [p_num]
    omega
  · have a := h q (by omega) (by omega)
    have b := h (q + 1) (by omega) (by omega)
    have c := h (q + 1 + 1) (by omega) (by omega)
    simp only [p_num]
    omega
theorem p_fit_ar (tx z : List Int) : ∀ (n i : Nat) (q : Int) (A : List Int) (fu : Int), 0 ≤ q ∧ q ≤ (tx.length : Int) → A.length + p_na z n i ≤ 4 → (∀ x ∈ A, 0 ≤ x ∧ x ≤ 999) → (p_fit tx z n i q A fu).1 ≠ -1 → (p_fit tx z n i q A fu).2.2.length = A.length + p_na z n i ∧ ∀ x ∈ (p_fit tx z n i q A fu).2.2, 0 ≤ x ∧ x ≤ 999 := by
  intro n
  induction n with
  | zero =>
    intro i q A fu hq hc hA h
    rw [p_fit] at h ⊢
    split
    · rename_i z1; rw [if_pos z1] at h; exact absurd rfl h
    · exact ⟨rfl, hA⟩
  | succ n ih =>
    intro i q A fu hq hc hA h
    rw [p_fit] at h ⊢
    have hi : ((i : Int)).toNat = i := rfl
    rw [hi] at h ⊢
    have rg := p_eos_rg tx (z.getD i 0) q hq
    split
    · rename_i z1; rw [if_pos z1] at h; exact absurd rfl h
    · rename_i z1
      rw [if_neg z1] at h
      rw [p_na] at hc ⊢
      have hi1 : (i : Int) + 1 = ((i + 1 : Nat) : Int) := rfl
      rw [hi1] at h ⊢
      by_cases hz : z.getD i 0 = 35 ∨ z.getD i 0 = 42
      · rw [if_pos hz] at h hc ⊢
        have hA4 : A.length < 4 := by omega
        have hp : ∀ v, p_add A v = A ++ [v] := fun v => by unfold p_add; rw [if_pos hA4]
        rw [hp] at h ⊢
        rw [if_pos hz]
        have hv : 0 ≤ p_num tx (p_eos tx (z.getD i 0) q - q).toNat q 0 ∧ p_num tx (p_eos tx (z.getD i 0) q - q).toNat q 0 ≤ 999 := by
          refine p_num_bd tx q _ (by omega) (fun j h1 h2 => ?_)
          refine p_eod_dg tx (if z.getD i 0 = 35 then 1 else 3) q j h1 ?_
          have e : p_eos tx (z.getD i 0) q = p_eod tx (if z.getD i 0 = 35 then 1 else 3) q := if_pos hz
          rw [← e]
          omega
        have := ih (i + 1) _ _ fu ⟨by omega, rg.2.1⟩ (by rw [List.length_append]; show A.length + 1 + _ ≤ 4; omega) (fun x hx => by
          rcases List.mem_append.mp hx with hx | hx
          · exact hA x hx
          · rw [List.mem_singleton.mp hx]; exact hv) h
        refine ⟨?_, this.2⟩
        rw [this.1, List.length_append]
        show A.length + 1 + _ = _
        omega
      · rw [if_neg hz] at h hc ⊢
        rw [if_neg hz]
        have := ih (i + 1) _ _ fu ⟨by omega, rg.2.1⟩ (by omega) hA h
        refine ⟨?_, this.2⟩
        rw [this.1]
        omega
theorem p_na_fo : ∀ k, k < 13 → p_na (fo_z.getD k []) (fo_z.getD k []).length 0 = p_cnt k ∧ p_cnt k ≤ 4 := by decide +kernel
def p_okc (r : Nat × List Int) : Prop := r.1 < 13 ∧ r.2.length = p_cnt r.1 ∧ ∀ x ∈ r.2, 0 ≤ x ∧ x ≤ 999
theorem p_rc_ok (tx : List Int) (q : Int) (hq : 0 ≤ q ∧ q ≤ (tx.length : Int)) : ∀ (n k : Nat) (fu : Int), n + k ≤ 13 → (p_rc tx q n k fu).1 ≠ -1 → p_okc (p_rc tx q n k fu).2.2 := by
  intro n
  induction n with
  | zero => intro k fu _ h; exact absurd rfl h
  | succ n ih =>
    intro k fu hk h
    rw [p_rc] at h ⊢
    split
    · rename_i z
      have hna := p_na_fo k (by omega)
      have := p_fit_ar tx (fo_z.getD k []) (fo_z.getD k []).length 0 q [] fu hq (by rw [hna.1]; simpa using hna.2) (fun x hx => nomatch hx) z
      refine ⟨by show k < 13; omega, ?_, this.2⟩
      rw [hna.1, List.length_nil, Nat.zero_add] at this
      exact this.1
    · rename_i z
      rw [if_neg z] at h
      exact ih (k + 1) _ (by omega) h
theorem p_rcs_ok (tx : List Int) (hL : tx.length ≤ 240) : ∀ (n : Nat) (q fu : Int), 0 ≤ q ∧ q ≤ (tx.length : Int) → 0 ≤ fu ∧ fu ≤ 1000 → (p_rcs tx n q fu).1 = true → ∀ r ∈ (p_rcs tx n q fu).2.2, p_okc r := by
  intro n
  induction n with
  | zero => intro q fu _ _ h; exact absurd h Bool.false_ne_true
  | succ n ih =>
    intro q fu hq hf h
    have rg := p_rc_rg tx q hq hL 13 0 fu hf
    have hok := p_rc_ok tx q hq 13 0 fu (by omega)
    rw [p_rcs] at h ⊢
    split
    · rename_i z; rw [if_pos z] at h; exact absurd h Bool.false_ne_true
    · rename_i z
      rw [if_neg z] at h
      split
      · intro r hr
        rw [List.mem_singleton.mp hr]
        exact hok z
      · rename_i z2
        rw [if_neg z2] at h
        intro r hr
        rcases List.mem_cons.mp hr with hr | hr
        · rw [hr]; exact hok z
        · exact ih _ _ (by omega) rg.2 h r hr
theorem S_exec_congr {g : h_T} {k : Nat} {f f2 : Int → Int} (hk : k < 13) (h : ∀ i : Int, 0 ≤ i → i < (p_cnt k : Int) → f i = f2 i) : S_exec g k f = S_exec g k f2 := by
  have hk13 : k = 0 ∨ k = 1 ∨ k = 2 ∨ k = 3 ∨ k = 4 ∨ k = 5 ∨ k = 6 ∨ k = 7 ∨ k = 8 ∨ k = 9 ∨ k = 10 ∨ k = 11 ∨ k = 12 := by omega
  rcases hk13 with rfl | rfl | rfl | rfl | rfl | rfl | rfl | rfl | rfl | rfl | rfl | rfl | rfl
  · show S_addGoblin g _ = S_addGoblin g _; rw [h 0 (by decide) (by decide)]
  · show S_addBroom g _ = S_addBroom g _; rw [h 0 (by decide) (by decide)]
  · show S_banish g _ = S_banish g _; rw [h 0 (by decide) (by decide)]
  · show S_recall g _ = S_recall g _; rw [h 0 (by decide) (by decide)]
  · show S_hire g _ _ _ _ = S_hire g _ _ _ _; rw [h 0 (by decide) (by decide), h 1 (by decide) (by decide), h 2 (by decide) (by decide), h 3 (by decide) (by decide)]
  · show S_cancel g _ = S_cancel g _; rw [h 0 (by decide) (by decide)]
  · show S_rest g _ = S_rest g _; rw [h 0 (by decide) (by decide)]
  · show S_wake g _ = S_wake g _; rw [h 0 (by decide) (by decide)]
  · show S_lend g _ _ = S_lend g _ _; rw [h 0 (by decide) (by decide), h 1 (by decide) (by decide)]
  · show S_fund g _ = S_fund g _; rw [h 0 (by decide) (by decide)]
  · show S_spend g _ = S_spend g _; rw [h 0 (by decide) (by decide)]
  · rfl
  · show S_pass g _ = S_pass g _; rw [h 0 (by decide) (by decide)]
theorem S_exec_ok {K : Int} {g : h_T} (h : h_BK K g) (hK : K ≤ 80000000) (k : Nat) (f : Int → Int) : S_ok [-1, -2, -3, -4, -5] g (S_exec g k f) := by
  have h0 := h.toB (by omega)
  have up : ∀ {cs : List Int} {S : Int × h_T}, (∀ x ∈ cs, x ∈ ([-1, -2, -3, -4, -5] : List Int)) → S_ok cs g S → S_ok [-1, -2, -3, -4, -5] g S := fun hc hs => hs.elim Or.inl (fun q => Or.inr ⟨hc _ q.1, q.2⟩)
  unfold S_exec
  split
  · exact up (by decide) (S_addGoblin_ok h0 _)
  · exact up (by decide) (S_addBroom_ok h0 _)
  · exact up (by decide) (S_banish_ok h0 _)
  · exact up (by decide) (S_recall_ok h0 _)
  · exact up (by decide) (S_hire_ok h0 _ _ _ _)
  · exact up (by decide) (S_cancel_ok h0 _)
  · exact up (by decide) (S_rest_ok h0 _)
  · exact up (by decide) (S_wake_ok h0 _)
  · exact up (by decide) (S_lend_ok h0 _ _)
  · exact up (by decide) (S_fund_ok h0 _)
  · exact up (by decide) (S_spend_ok h0 _)
  · exact up (by decide) (S_pass_ok h hK _)
  · exact up (by decide) (S_pass_ok h hK _)
/-- the commands in order: the number of the one that failed, or -1 -/
def S_runs : List (Nat × List Int) → Int → h_T → Int × h_T
  | [], _, g => (-1, g)
  | r :: rs, i, g => if (S_exec g r.1 (p_ar r.2)).1 < 0 then (i, g) else S_runs rs (i + 1) (S_exec g r.1 (p_ar r.2)).2

set_option maxHeartbeats 4000000 in
set_option maxRecDepth 100000 in
theorem t_X7_execute_n {D : va_G} {aC : Nat → ClassId} {s0 : State} {l : Launch} (hF : m_F D aC s0) (hl : l.stackTraces = false) {fo ks vs : Nat → Nat} {fA sA dO dT : Nat} (hJ : m_J s0 fo ks vs fA sA dO dT) {b : Nat} {g : h_T} {M : m_M} {K : Int} (hR : hhR b g M) (hB : h_BK K g) (hK : K ≤ 80000000) (hb : s0.heap.size ≤ b) {a9 k : Nat} {n9 : Int} {f : Int → Int} (hM9 : cmP fo a9 k n9 f M) (hk : k < 13) (hf9 : ∀ i : Int, 0 ≤ i ∧ i < (p_cnt k : Int) → -2147483648 ≤ f i ∧ f i < 2147483648) : m_Met D aC s0 l yX7_execute cX7_execute 3 (some .int) 5 (0) (0) [.ref b, .ref a9] M (h_op b M (S_exec g k f)) m_nx := by
  refine m_entry (lv := [(0, .ref b), (1, .ref a9)]) (by decide +kernel) (Nat.le_of_ble_eq_true rfl) rfl hF hl ?_
  intro p e s m args below meth c hC hr hno hnm
  change m_C D aC s0 RX7 _ _ _ _ _ _ _ _ _ at hC
  have hB0 := hB.toB (by omega)
  refine m_aload_n hC 1 dX7_execute_0 rfl rfl ?_
  refine m_getf hC dX7_execute_1 kf_X7_71 hM9.1 rfl ?_
  refine m_astore_n hC dX7_execute_4 rfl (by decide) rfl ?_
  refine m_gets hC hJ.wZ kg_X7_76 dX7_execute_5 ?_
  refine m_aload_n hC 2 dX7_execute_8 rfl rfl ?_
  refine m_getf hC dX7_execute_9 kf_X7_81 hM9.1 rfl ?_
  refine m_callU hC (t_Jx29ce0_ordinal_8abf5 hF hl hJ hk) dX7_execute_12 kc_Jx29ce0_ordinal_8abf5 kU_X7_85 (m_old hC (hJ.ob k hk)) rfl rfl (Nat.le_of_ble_eq_true rfl) (by decide) (by decide) m_nox (fun v9 M9 h9 => ?_)
  obtain ⟨rfl, rfl⟩ := h9
  refine m_cti hC hJ.wT dX7_execute_15 (by decide) (by omega) rfl ?_
  have hk13 : k = 0 ∨ k = 1 ∨ k = 2 ∨ k = 3 ∨ k = 4 ∨ k = 5 ∨ k = 6 ∨ k = 7 ∨ k = 8 ∨ k = 9 ∨ k = 10 ∨ k = 11 ∨ k = 12 := by omega
  rcases hk13 with rfl | rfl | rfl | rfl | rfl | rfl | rfl | rfl | rfl | rfl | rfl | rfl | rfl
  · change m_W D aC s0 _ p l e _ s m args below meth c _ _ _ _ _ (VI 1 :: _) _
    refine m_tin (tgt := 80) hC dX7_execute_16 (by decide) (by decide) rfl (by decide) ?_
    refine m_aload_n hC 1 dX7_execute_80 rfl rfl ?_
    refine m_aload_n hC 0 dX7_execute_81 rfl rfl ?_
    refine m_iconst hC dX7_execute_82 ?_
    refine m_iald hC dX7_execute_83 hM9.2 (by decide) (by decide) ?_
    refine m_callV hC (t_X7_takeGoblin hF hl hR hB0 hb (hf9 0 (by decide))) dX7_execute_84 kc_X7_takeGoblin kV_X7_91 hR.ob rfl rfl rfl rfl (Nat.le_of_ble_eq_true rfl) (by decide) (by decide) m_nox (fun v9 M1 h9 => ?_)
    obtain ⟨rfl, hA9, hfr9⟩ := h9
    exact m_iret hC dX7_execute_87 hr (by decide) (by decide) (⟨rfl, hA9, hfr9⟩)
  · change m_W D aC s0 _ p l e _ s m args below meth c _ _ _ _ _ (VI 2 :: _) _
    refine m_tin (tgt := 88) hC dX7_execute_16 (by decide) (by decide) rfl (by decide) ?_
    refine m_aload_n hC 1 dX7_execute_88 rfl rfl ?_
    refine m_aload_n hC 0 dX7_execute_89 rfl rfl ?_
    refine m_iconst hC dX7_execute_90 ?_
    refine m_iald hC dX7_execute_91 hM9.2 (by decide) (by decide) ?_
    refine m_callV hC (t_X7_takeBroom hF hl hR hB0 hb (hf9 0 (by decide))) dX7_execute_92 kc_X7_takeBroom kV_X7_95 hR.ob rfl rfl rfl rfl (Nat.le_of_ble_eq_true rfl) (by decide) (by decide) m_nox (fun v9 M2 h9 => ?_)
    obtain ⟨rfl, hA9, hfr9⟩ := h9
    exact m_iret hC dX7_execute_95 hr (by decide) (by decide) (⟨rfl, hA9, hfr9⟩)
  · change m_W D aC s0 _ p l e _ s m args below meth c _ _ _ _ _ (VI 3 :: _) _
    refine m_tin (tgt := 96) hC dX7_execute_16 (by decide) (by decide) rfl (by decide) ?_
    refine m_aload_n hC 1 dX7_execute_96 rfl rfl ?_
    refine m_aload_n hC 0 dX7_execute_97 rfl rfl ?_
    refine m_iconst hC dX7_execute_98 ?_
    refine m_iald hC dX7_execute_99 hM9.2 (by decide) (by decide) ?_
    refine m_callV hC (t_X7_putBroomAway hF hl hR hB0 hb (hf9 0 (by decide))) dX7_execute_100 kc_X7_putBroomAway kV_X7_98 hR.ob rfl rfl rfl rfl (Nat.le_of_ble_eq_true rfl) (by decide) (by decide) m_nox (fun v9 M3 h9 => ?_)
    obtain ⟨rfl, hA9, hfr9⟩ := h9
    exact m_iret hC dX7_execute_103 hr (by decide) (by decide) (⟨rfl, hA9, hfr9⟩)
  · change m_W D aC s0 _ p l e _ s m args below meth c _ _ _ _ _ (VI 4 :: _) _
    refine m_tin (tgt := 104) hC dX7_execute_16 (by decide) (by decide) rfl (by decide) ?_
    refine m_aload_n hC 1 dX7_execute_104 rfl rfl ?_
    refine m_aload_n hC 0 dX7_execute_105 rfl rfl ?_
    refine m_iconst hC dX7_execute_106 ?_
    refine m_iald hC dX7_execute_107 hM9.2 (by decide) (by decide) ?_
    refine m_callV hC (t_X7_fetchBroom hF hl hR hB0 hb (hf9 0 (by decide))) dX7_execute_108 kc_X7_fetchBroom kV_X7_101 hR.ob rfl rfl rfl rfl (Nat.le_of_ble_eq_true rfl) (by decide) (by decide) m_nox (fun v9 M4 h9 => ?_)
    obtain ⟨rfl, hA9, hfr9⟩ := h9
    exact m_iret hC dX7_execute_111 hr (by decide) (by decide) (⟨rfl, hA9, hfr9⟩)
  · change m_W D aC s0 _ p l e _ s m args below meth c _ _ _ _ _ (VI 5 :: _) _
    refine m_tin (tgt := 112) hC dX7_execute_16 (by decide) (by decide) rfl (by decide) ?_
    refine m_aload_n hC 1 dX7_execute_112 rfl rfl ?_
    refine m_aload_n hC 0 dX7_execute_113 rfl rfl ?_
    refine m_iconst hC dX7_execute_114 ?_
    refine m_iald hC dX7_execute_115 hM9.2 (by decide) (by decide) ?_
    refine m_aload_n hC 0 dX7_execute_116 rfl rfl ?_
    refine m_iconst hC dX7_execute_117 ?_
    refine m_iald hC dX7_execute_118 hM9.2 (by decide) (by decide) ?_
    refine m_aload_n hC 0 dX7_execute_119 rfl rfl ?_
    refine m_iconst hC dX7_execute_120 ?_
    refine m_iald hC dX7_execute_121 hM9.2 (by decide) (by decide) ?_
    refine m_aload_n hC 0 dX7_execute_122 rfl rfl ?_
    refine m_iconst hC dX7_execute_123 ?_
    refine m_iald hC dX7_execute_124 hM9.2 (by decide) (by decide) ?_
    refine m_callV hC (t_X7_signContract hF hl hR hB0 hb (hf9 0 (by decide)) (hf9 1 (by decide)) (hf9 2 (by decide)) (hf9 3 (by decide))) dX7_execute_125 kc_X7_signContract kV_X7_104 hR.ob rfl rfl rfl rfl (Nat.le_of_ble_eq_true rfl) (by decide) (by decide) m_nox (fun v9 M5 h9 => ?_)
    obtain ⟨rfl, hA9, hfr9⟩ := h9
    exact m_iret hC dX7_execute_128 hr (by decide) (by decide) (⟨rfl, hA9, hfr9⟩)
  · change m_W D aC s0 _ p l e _ s m args below meth c _ _ _ _ _ (VI 6 :: _) _
    refine m_tin (tgt := 129) hC dX7_execute_16 (by decide) (by decide) rfl (by decide) ?_
    refine m_aload_n hC 1 dX7_execute_129 rfl rfl ?_
    refine m_aload_n hC 0 dX7_execute_130 rfl rfl ?_
    refine m_iconst hC dX7_execute_131 ?_
    refine m_iald hC dX7_execute_132 hM9.2 (by decide) (by decide) ?_
    refine m_callV hC (t_X7_dropContract hF hl hR hB (by omega) hb (hf9 0 (by decide))) dX7_execute_133 kc_X7_dropContract kV_X7_108 hR.ob rfl rfl rfl rfl (Nat.le_of_ble_eq_true rfl) (by decide) (by decide) m_nox (fun v9 M6 h9 => ?_)
    obtain ⟨rfl, hA9, hfr9⟩ := h9
    exact m_iret hC dX7_execute_136 hr (by decide) (by decide) (⟨rfl, hA9, hfr9⟩)
  · change m_W D aC s0 _ p l e _ s m args below meth c _ _ _ _ _ (VI 7 :: _) _
    refine m_tin (tgt := 137) hC dX7_execute_16 (by decide) (by decide) rfl (by decide) ?_
    refine m_aload_n hC 1 dX7_execute_137 rfl rfl ?_
    refine m_aload_n hC 0 dX7_execute_138 rfl rfl ?_
    refine m_iconst hC dX7_execute_139 ?_
    refine m_iald hC dX7_execute_140 hM9.2 (by decide) (by decide) ?_
    refine m_callV hC (t_X7_sendToBed hF hl hR hB0 hb (hf9 0 (by decide))) dX7_execute_141 kc_X7_sendToBed kV_X7_111 hR.ob rfl rfl rfl rfl (Nat.le_of_ble_eq_true rfl) (by decide) (by decide) m_nox (fun v9 M7 h9 => ?_)
    obtain ⟨rfl, hA9, hfr9⟩ := h9
    exact m_iret hC dX7_execute_144 hr (by decide) (by decide) (⟨rfl, hA9, hfr9⟩)
  · change m_W D aC s0 _ p l e _ s m args below meth c _ _ _ _ _ (VI 8 :: _) _
    refine m_tin (tgt := 145) hC dX7_execute_16 (by decide) (by decide) rfl (by decide) ?_
    refine m_aload_n hC 1 dX7_execute_145 rfl rfl ?_
    refine m_aload_n hC 0 dX7_execute_146 rfl rfl ?_
    refine m_iconst hC dX7_execute_147 ?_
    refine m_iald hC dX7_execute_148 hM9.2 (by decide) (by decide) ?_
    refine m_callV hC (t_X7_getOutOfBed hF hl hR hB0 hb (hf9 0 (by decide))) dX7_execute_149 kc_X7_getOutOfBed kV_X7_114 hR.ob rfl rfl rfl rfl (Nat.le_of_ble_eq_true rfl) (by decide) (by decide) m_nox (fun v9 M8 h9 => ?_)
    obtain ⟨rfl, hA9, hfr9⟩ := h9
    exact m_iret hC dX7_execute_152 hr (by decide) (by decide) (⟨rfl, hA9, hfr9⟩)
  · change m_W D aC s0 _ p l e _ s m args below meth c _ _ _ _ _ (VI 9 :: _) _
    refine m_tin (tgt := 153) hC dX7_execute_16 (by decide) (by decide) rfl (by decide) ?_
    refine m_aload_n hC 1 dX7_execute_153 rfl rfl ?_
    refine m_aload_n hC 0 dX7_execute_154 rfl rfl ?_
    refine m_iconst hC dX7_execute_155 ?_
    refine m_iald hC dX7_execute_156 hM9.2 (by decide) (by decide) ?_
    refine m_aload_n hC 0 dX7_execute_157 rfl rfl ?_
    refine m_iconst hC dX7_execute_158 ?_
    refine m_iald hC dX7_execute_159 hM9.2 (by decide) (by decide) ?_
    refine m_callV hC (t_X7_advanceCrumbs hF hl hR hB0 hb (hf9 0 (by decide)) (hf9 1 (by decide))) dX7_execute_160 kc_X7_advanceCrumbs kV_X7_117 hR.ob rfl rfl rfl rfl (Nat.le_of_ble_eq_true rfl) (by decide) (by decide) m_nox (fun v9 M9 h9 => ?_)
    obtain ⟨rfl, hA9, hfr9⟩ := h9
    exact m_iret hC dX7_execute_163 hr (by decide) (by decide) (⟨rfl, hA9, hfr9⟩)
  · change m_W D aC s0 _ p l e _ s m args below meth c _ _ _ _ _ (VI 10 :: _) _
    refine m_tin (tgt := 164) hC dX7_execute_16 (by decide) (by decide) rfl (by decide) ?_
    refine m_aload_n hC 1 dX7_execute_164 rfl rfl ?_
    refine m_aload_n hC 0 dX7_execute_165 rfl rfl ?_
    refine m_iconst hC dX7_execute_166 ?_
    refine m_iald hC dX7_execute_167 hM9.2 (by decide) (by decide) ?_
    refine m_callV hC (t_X7_takeCrumbsIn hF hl hR hB0 hb (hf9 0 (by decide))) dX7_execute_168 kc_X7_takeCrumbsIn kV_X7_121 hR.ob rfl rfl rfl rfl (Nat.le_of_ble_eq_true rfl) (by decide) (by decide) m_nox (fun v9 M10 h9 => ?_)
    obtain ⟨rfl, hA9, hfr9⟩ := h9
    exact m_iret hC dX7_execute_171 hr (by decide) (by decide) (⟨rfl, hA9, hfr9⟩)
  · change m_W D aC s0 _ p l e _ s m args below meth c _ _ _ _ _ (VI 11 :: _) _
    refine m_tin (tgt := 172) hC dX7_execute_16 (by decide) (by decide) rfl (by decide) ?_
    refine m_aload_n hC 1 dX7_execute_172 rfl rfl ?_
    refine m_aload_n hC 0 dX7_execute_173 rfl rfl ?_
    refine m_iconst hC dX7_execute_174 ?_
    refine m_iald hC dX7_execute_175 hM9.2 (by decide) (by decide) ?_
    refine m_callV hC (t_X7_giveCrumbsOut hF hl hR hB0 hb (hf9 0 (by decide))) dX7_execute_176 kc_X7_giveCrumbsOut kV_X7_124 hR.ob rfl rfl rfl rfl (Nat.le_of_ble_eq_true rfl) (by decide) (by decide) m_nox (fun v9 M11 h9 => ?_)
    obtain ⟨rfl, hA9, hfr9⟩ := h9
    exact m_iret hC dX7_execute_179 hr (by decide) (by decide) (⟨rfl, hA9, hfr9⟩)
  · change m_W D aC s0 _ p l e _ s m args below meth c _ _ _ _ _ (VI 0 :: _) _
    refine m_tout (tgt := 188) hC dX7_execute_16 (by decide) (by decide) (by decide) ?_
    refine m_aload_n hC 1 dX7_execute_188 rfl rfl ?_
    refine m_iconst hC dX7_execute_189 ?_
    refine m_callV hC (t_X7_letNightsPass hF hl hR hB hK hb (x := 1) (by omega)) dX7_execute_190 kc_X7_letNightsPass kV_X7_127 hR.ob rfl rfl rfl rfl (Nat.le_of_ble_eq_true rfl) (by decide) (by decide) m_nox (fun v9 M12 h9 => ?_)
    obtain ⟨rfl, hA9, hfr9⟩ := h9
    exact m_iret hC dX7_execute_193 hr (by decide) (by decide) (⟨rfl, hA9, hfr9⟩)
  · change m_W D aC s0 _ p l e _ s m args below meth c _ _ _ _ _ (VI 12 :: _) _
    refine m_tin (tgt := 180) hC dX7_execute_16 (by decide) (by decide) rfl (by decide) ?_
    refine m_aload_n hC 1 dX7_execute_180 rfl rfl ?_
    refine m_aload_n hC 0 dX7_execute_181 rfl rfl ?_
    refine m_iconst hC dX7_execute_182 ?_
    refine m_iald hC dX7_execute_183 hM9.2 (by decide) (by decide) ?_
    refine m_callV hC (t_X7_letNightsPass hF hl hR hB hK hb (hf9 0 (by decide))) dX7_execute_184 kc_X7_letNightsPass kV_X7_127 hR.ob rfl rfl rfl rfl (Nat.le_of_ble_eq_true rfl) (by decide) (by decide) m_nox (fun v9 M13 h9 => ?_)
    obtain ⟨rfl, hA9, hfr9⟩ := h9
    exact m_iret hC dX7_execute_187 hr (by decide) (by decide) (⟨rfl, hA9, hfr9⟩)

theorem scQ.app {z0 : Nat} {fo : Nat → Nat} {y v n v3 n3 : Nat} {tx tx3 : List Int} {cnt fur : Int} {CM : Nat → Nat × List Int} {M M2 : m_M} (h : scQ z0 fo y v n tx cnt fur CM M) (hT : sbT z0 (y + 1) v3 n3 tx3 M2) (hF : sbF (y + 1) v M v3 M2) (hy : y + 28 ≤ M.1) : scQ z0 fo y v3 n3 tx3 cnt fur CM M2 := by
  obtain ⟨h1, h2, h3, h4, h5⟩ := h
  obtain ⟨k1, k2, k3, k4⟩ := hF
  exact ⟨(k4 _ (by omega) (by omega) (by omega)).trans h1, hT, (k4 _ (by omega) (by omega) (by omega)).trans h3, fun j hj => ⟨(h4 j hj).1.keep (fun a a1 a2 => k4 a (by omega) (by omega) (by omega)), (h4 j hj).2⟩, by omega⟩
/-- the script's part is written, and its text's bytes -/
theorem ghP.sc {z0 : Nat} {fo : Nat → Nat} {x w v v3 n3 v2 n2 : Nat} {g sg : h_T} {L : Nat → h_T} {q : Int → Int} {tx3 ot : List Int} {cnt3 fur3 : Int} {CM3 : Nat → Nat × List Int} {M M2 : m_M} (a1 : x + 238 ≤ w ∧ w ≤ M.1 ∧ z0 ≤ x) (a2 : gO x q M) (a3 : hhR (x + 1) g M) (a4 : ∃ f9 : h_T, hhR (x + 18) f9 M) (a5 : gS x q sg M) (a6 : gL x q L M) (a7 : gB x M) (hT2 : sbT z0 (x + 235) v2 n2 ot M) (hv2 : v2 = x + 236 ∨ w ≤ v2) (hv : v = x + 209 ∨ w ≤ v) (hne : v ≠ v2)
    (hQ3 : scQ z0 fo (x + 207) v3 n3 tx3 cnt3 fur3 CM3 M2) (hv3 : v3 = v ∨ M.1 ≤ v3) (hM : M.1 ≤ M2.1) (hk : ∀ a : Nat, a < M.1 → (a < x + 207 ∨ x + 235 ≤ a) → a ≠ v → M2.2 a = M.2 a) : ghP z0 fo x w g sg L q tx3 ot M2 ∧ gFr x w M M2 := by
  obtain ⟨f9, a4⟩ := a4
  obtain ⟨s9, a5, c5⟩ := a5
  obtain ⟨L9, a6, c6⟩ := a6
  obtain ⟨bf, a7⟩ := a7
  have av := hT2.av
  refine ⟨⟨by omega, (hk _ (by omega) (by omega) (by omega)).trans a2, a3.keep (fun a _ _ => hk a (by omega) (by omega) (by omega)), ⟨f9, a4.keep (fun a _ _ => hk a (by omega) (by omega) (by omega))⟩, ⟨s9, a5.keep (fun a _ _ => hk a (by omega) (by omega) (by omega)), c5⟩, ⟨L9, a6.keep (fun a _ _ => hk a (by omega) (by omega) (by omega)), c6⟩, ⟨bf, (hk _ (by omega) (by omega) (by omega)).trans a7⟩, v3, n3, v2, n2, cnt3, fur3, CM3, hQ3, hT2.kp (hk _ (by omega) (by omega) (by omega)) (hk _ (by omega) (by omega) (by omega)) hM, by omega, hv2, by omega⟩, hM, fun a b1 b2 => hk a (by omega) (by omega) (by omega)⟩

set_option maxHeartbeats 4000000 in
set_option maxRecDepth 100000 in
theorem t_X9_runScript {D : va_G} {aC : Nat → ClassId} {s0 : State} {l : Launch} (hF : m_F D aC s0) (hl : l.stackTraces = false) {x w : Nat} {g sg : h_T} {L : Nat → h_T} {q : Int → Int} {tx ot : List Int} {M : m_M} {K : Int} {fo ks vs : Nat → Nat} {fA sA dO dT : Nat} (hJ : m_J s0 fo ks vs fA sA dO dT) (hX : m_TH s0) (hG : ghP s0.heap.size fo x w g sg L q tx ot M) (hI : h_I K g) (hK : K ≤ 79000000) (hc : 0 ≤ q 0 ∧ q 0 ≤ 8) (hL60 : tx.length ≤ 60) : m_Met D aC s0 l yX9_runScript cX9_runScript 3 (some .int) 12 (470) (940) [.ref x] M (fun v M' => (p_rcs tx 12 0 0).1 = true ∧ (S_runs (p_rcs tx 12 0 0).2.2 0 g).1 = -1 ∧ v = some (VI ((p_rcs tx 12 0 0).2.2.length : Int)) ∧ ghP s0.heap.size fo x w (S_runs (p_rcs tx 12 0 0).2.2 0 g).2 sg (c_L (q 0) g L) (c_q q) [] ot M' ∧ gFr x w M M') (fun E M' => ((p_rcs tx 12 0 0).1 = false ∧ E = eA ∧ ghP s0.heap.size fo x w g sg L (m_ug q 2 (p_rcs tx 12 0 0).2.1) [] ot M' ∧ gFr x w M M') ∨ ((p_rcs tx 12 0 0).1 = true ∧ (S_runs (p_rcs tx 12 0 0).2.2 0 g).1 ≠ -1 ∧ E = eS ∧ ghP s0.heap.size fo x w g sg L (m_ug q 3 (S_runs (p_rcs tx 12 0 0).2.2 0 g).1) [] ot M' ∧ gFr x w M M')) := by
  refine m_entry (lv := [(0, .ref x)]) (by decide +kernel) (Nat.le_of_ble_eq_true rfl) rfl hF hl ?_
  intro p e s m args below meth c hC hr hno hnm
  change m_C D aC s0 RX9 _ _ _ _ _ _ _ _ _ at hC
  have hG9 := hG
  obtain ⟨a1, hO, hR, a4, a5, a6, a7, v, n, v2, n2, cnt, fur, CM, hQ, hT2, hv, hv2, hne⟩ := hG9
  have hx := a1.2.2
  have av := hQ.2.1.av
  refine m_aload_n hC 0 dX9_runScript_0 rfl rfl ?_
  refine m_getf hC dX9_runScript_1 kf_X9_32 hO rfl ?_
  refine m_callV hC (t_X8_readCommands hF hl hJ hQ (by omega) (by omega)) dX9_runScript_4 kc_X8_readCommands kV_X9_335 hQ.1 rfl rfl rfl rfl (Nat.le_of_ble_eq_true rfl) (by decide) ⟨Nat.le_of_ble_eq_true rfl, Nat.le_of_ble_eq_true rfl⟩ m_nox (fun v9 M1 h9 => ?_)
  obtain ⟨rfl, ⟨c2, CM2, hQ1, hok⟩, hfu1, hfu2, f1⟩ := h9
  have hcm := p_rcs_ok tx (by omega) 12 0 0 (by omega) (by omega)
  have hO1 : gO x q M1 := (f1.2 _ (by omega)).trans hO
  obtain ⟨RS, hRS⟩ : ∃ z, p_rcs tx 12 0 0 = z := ⟨_, rfl⟩
  rw [hRS] at hok hfu1 hfu2 hcm hQ1
  refine m_istore_n hC dX9_runScript_7 rfl (by decide) rfl ?_
  refine m_aload_n hC 1 dX9_runScript_8 rfl rfl ?_
  refine m_getf hC dX9_runScript_9 kf_X9_32 hO1 rfl ?_
  refine m_getf hC dX9_runScript_12 kf_X9_330 hQ1.1 rfl ?_
  refine m_iconst hC dX9_runScript_15 ?_
  refine m_callVr hC (t_J4_setLength_d00df hF hl hJ hQ1.2.1) dX9_runScript_16 kc_J4_setLength_d00df kV_X9_309 rfl (m_sbr hC hQ1.2.1) rfl rfl (Nat.le_of_ble_eq_true rfl) (by decide) ⟨Nat.le_of_ble_eq_true rfl, Nat.le_of_ble_eq_true rfl⟩ m_nox (fun v9 M2 h9 => ?_)
  obtain ⟨rfl, v3, hT3, hF3⟩ := h9
  have hQ3 := hQ1.app hT3 hF3 (by rw [f1.1]; omega)
  have hv3 : v3 = x + 209 ∨ w ≤ v3 := by have z := hF3.1; rw [f1.1] at z; omega
  have hG3 := ghP.sc (M2 := M2) a1 hO hR a4 a5 a6 a7 hT2 hv2 hv hne hQ3 (by rw [← f1.1]; exact hF3.1) (by rw [← f1.1]; exact hF3.2.2.1) (fun a b1 b2 b3 => (hF3.2.2.2 a (by rw [f1.1]; omega) (by omega) b3).trans (f1.2 a (by omega)))
  obtain ⟨hG2, hfr2⟩ := hG3
  have hG4 := hG2
  obtain ⟨b1, hO2, hR2, b4, b5, ⟨L9, hH, hL⟩, b7, b8⟩ := hG4
  obtain ⟨p9, hQh⟩ := id hH
  refine m_iload_n hC 0 dX9_runScript_19 rfl rfl ?_
  refine m_if_ne (tgt := 45) hC dX9_runScript_20 (by decide) (by split <;> omega) (fun c9 => ?_) (fun c9 => ?_)
  · refine m_aload_n hC 1 dX9_runScript_45 rfl rfl ?_
    refine m_getf hC dX9_runScript_46 kf_X9_25 hO2 rfl ?_
    refine m_aload_n hC 1 dX9_runScript_49 rfl rfl ?_
    refine m_getf hC dX9_runScript_50 kf_X9_12 hO2 rfl ?_
    have hrt : RS.1 = true := by rw [hRS] at c9; cases hz : RS.1 with | true => rfl | false => exact absurd (if_neg (by rw [hz]; decide)) c9
    obtain ⟨hc2, hl12, hCM⟩ := hok hrt
    have hcm := hcm hrt
    have h8 := hI.1.n8.2
    have h9a := hI.1.n9.2
    have h11 := hI.1.n11.2
    refine m_callV hC (t_X6_prepare hF hl hH hx hc hR2 (by omega) h8 h9a h11) dX9_runScript_53 kc_X6_prepare kV_X9_58 hQh.1.1 rfl rfl rfl rfl (Nat.le_of_ble_eq_true rfl) (by decide) ⟨Nat.le_of_ble_eq_true rfl, Nat.le_of_ble_eq_true rfl⟩ m_nox (fun v9 M3 h9 => ?_)
    obtain ⟨rfl, hH3, f3⟩ := h9
    refine m_iconst hC dX9_runScript_56 ?_
    refine m_istore_n hC dX9_runScript_57 rfl (by decide) rfl ?_
    have LL : ∀ (n9 : Nat) (i : Int) (gi : h_T) (M4 : m_M), c2 - i < (n9 : Int) → 0 ≤ i → i ≤ c2 → hhR (x + 1) gi M4 → h_I (K + 5300 * i) gi → (S_runs RS.2.2 0 g) = (S_runs (RS.2.2.drop i.toNat) i gi) → m_fr (x + 1) 17 M3 M4 → m_W D aC s0 3 p l e (m_R 12 (470) (940)) s m args below meth c (0) (0) (m_Q D aC s0 below (fun v M' => (p_rcs tx 12 0 0).1 = true ∧ (S_runs (p_rcs tx 12 0 0).2.2 0 g).1 = -1 ∧ v = some (VI ((p_rcs tx 12 0 0).2.2.length : Int)) ∧ ghP s0.heap.size fo x w (S_runs (p_rcs tx 12 0 0).2.2 0 g).2 sg (c_L (q 0) g L) (c_q q) [] ot M' ∧ gFr x w M M') (fun E M' => ((p_rcs tx 12 0 0).1 = false ∧ E = eA ∧ ghP s0.heap.size fo x w g sg L (m_ug q 2 (p_rcs tx 12 0 0).2.1) [] ot M' ∧ gFr x w M M') ∨ ((p_rcs tx 12 0 0).1 = true ∧ (S_runs (p_rcs tx 12 0 0).2.2 0 g).1 ≠ -1 ∧ E = eS ∧ ghP s0.heap.size fo x w g sg L (m_ug q 3 (S_runs (p_rcs tx 12 0 0).2.2 0 g).1) [] ot M' ∧ gFr x w M M')) args s (470) (940)) 58 [(2, VI i), (0, .ref x)] [] M4 := by
      intro n9
      induction n9 with
      | zero =>
        intro i gi M4 hn h0 h1 hR4 hI4 hS4 f4
        omega
      | succ n9 ih =>
        intro i gi M4 hn h0 h1 hR4 hI4 hS4 f4
        have hO4 : gO x q M4 := (f4.2 _ (by omega)).trans ((f3.2 _ (by omega)).trans hO2)
        have hQ4 := hQ3.kp (M2 := M4) (fun a z1 z2 => (f4.2 a (by omega)).trans (f3.2 a (by omega))) ((f4.2 _ (by omega)).trans (f3.2 _ (by omega))) (by rw [f4.1, f3.1]; exact Nat.le_refl _)
        have hH4 := hH3.fr f4 (by omega)
        obtain ⟨p4, hQh4⟩ := id hH4
        refine m_iload_n hC 0 dX9_runScript_58 rfl rfl ?_
        refine m_aload_n hC 1 dX9_runScript_59 rfl rfl ?_
        refine m_getf hC dX9_runScript_60 kf_X9_32 hO4 rfl ?_
        refine m_getf hC dX9_runScript_63 kf_X9_343 hQ4.1 rfl ?_
        refine m_icmp_ge (tgt := 121) hC dX9_runScript_66 (by decide) (by first | omega | (simp [hs_at] <;> omega)) (fun c1 => ?_) (fun c1 => ?_)
        · refine m_aload_n hC 1 dX9_runScript_121 rfl rfl ?_
          refine m_getf hC dX9_runScript_122 kf_X9_25 hO4 rfl ?_
          refine m_callV hC (t_X6_keep hF hl hH4 hx hc) dX9_runScript_125 kc_X6_keep kV_X9_131 hQh4.1.1 rfl rfl rfl rfl (Nat.le_of_ble_eq_true rfl) (by decide) ⟨Nat.le_of_ble_eq_true rfl, Nat.le_of_ble_eq_true rfl⟩ m_nox (fun v9 M6 h9 => ?_)
          obtain ⟨rfl, hH6, f6⟩ := h9
          have hG6 := hG2.chg hc hL f3 hR4 f4 hH6 f6
          have hfr6 := ((hfr2.tr (gFr.of (x := x) (w := w) f3 (by omega))).tr (gFr.of f4 (by omega))).tr (gFr.of f6 (by omega))
          have hQ6 := hQ4.kp (M2 := M6) (fun a z1 z2 => f6.2 a (by omega)) (f6.2 _ (by omega)) (by rw [f6.1]; exact Nat.le_refl _)
          have hS7 : S_runs RS.2.2 0 g = (-1, gi) := by rw [hS4, List.drop_of_length_le (by omega)]; rfl
          refine m_aload_n hC 1 dX9_runScript_128 rfl rfl ?_
          refine m_getf hC dX9_runScript_129 kf_X9_32 hG6.2.1 rfl ?_
          refine m_getf hC dX9_runScript_132 kf_X9_343 hQ6.1 rfl ?_
          exact m_iret hC dX9_runScript_135 hr (Nat.le_of_ble_eq_true rfl) (Nat.le_of_ble_eq_true rfl) ((by rw [hRS]; refine ⟨hrt, by rw [hS7], by rw [hc2], ?_, hfr6⟩; rw [hS7]; exact hG6))
        · refine m_aload_n hC 1 dX9_runScript_69 rfl rfl ?_
          refine m_getf hC dX9_runScript_70 kf_X9_12 hO4 rfl ?_
          refine m_aload_n hC 1 dX9_runScript_73 rfl rfl ?_
          refine m_getf hC dX9_runScript_74 kf_X9_32 hO4 rfl ?_
          refine m_getf hC dX9_runScript_77 kf_X9_344 hQ4.1 rfl ?_
          refine m_iload_n hC 0 dX9_runScript_80 rfl rfl ?_
          refine m_aald hC dX9_runScript_81 hQ4.2.2.1 (by decide) rfl (by decide) (by first | omega | (simp [hs_at] <;> omega)) ?_
          have hcA := (hQ4.2.2.2.1 i.toNat (by omega)).1
          rw [hCM i.toNat (by omega)] at hcA
          have hgd : RS.2.2.getD i.toNat (0, []) = RS.2.2[i.toNat]'(by omega) := by rw [List.getD_eq_getElem?_getD, List.getElem?_eq_getElem (by omega)]; rfl
          have hmem : RS.2.2.getD i.toNat (0, []) ∈ RS.2.2 := by rw [hgd]; exact List.getElem_mem _
          have hokc := hcm _ hmem
          have hdr : RS.2.2.drop i.toNat = RS.2.2.getD i.toNat (0, []) :: RS.2.2.drop (i + 1).toNat := by rw [hgd, show (i + 1).toNat = i.toNat + 1 by omega]; exact List.drop_eq_getElem_cons _
          have hS4b := hS4
          rw [hdr, S_runs] at hS4b
          generalize hr9 : RS.2.2.getD i.toNat (0, []) = r9 at *
          obtain ⟨hA4, fA9, hcP, hfA⟩ := hcA
          obtain ⟨ok1, ok2, ok3⟩ := hokc
          have hfe : ∀ j : Int, 0 ≤ j → j < (p_cnt r9.1 : Int) → fA9 j = p_ar r9.2 j := fun j z1 z2 => by have z := hfA j.toNat (by omega); rw [show ((j.toNat : Nat) : Int) = j by omega] at z; exact z
          have hfr9 : ∀ j : Int, 0 ≤ j ∧ j < (p_cnt r9.1 : Int) → -2147483648 ≤ fA9 j ∧ fA9 j < 2147483648 := fun j z => by
            rw [hfe j z.1 z.2]
            have hb : p_ar r9.2 j = r9.2[j.toNat]'(by omega) := by unfold p_ar; rw [List.getD_eq_getElem?_getD, List.getElem?_eq_getElem (by omega)]; rfl
            have z3 := ok3 (r9.2[j.toNat]'(by omega)) (List.getElem_mem _)
            rw [← hb] at z3
            omega
          refine m_callV hC (t_X7_execute_n hF hl hJ hR4 hI4.1 (by omega) (by omega) hcP ok1 hfr9) dX9_runScript_82 kc_X7_execute kV_X9_348 hR4.ob rfl rfl rfl rfl (Nat.le_of_ble_eq_true rfl) (by decide) ⟨Nat.le_of_ble_eq_true rfl, Nat.le_of_ble_eq_true rfl⟩ m_nox (fun v9 M5 h9 => ?_)
          obtain ⟨rfl, hR5, f5⟩ := h9
          rw [S_exec_congr ok1 hfe] at hR5
          rw [S_exec_congr ok1 hfe]
          have hIp := S_exec_I hI4 r9.1 (p_ar r9.2)
          have hoke := S_exec_ok hI4.1 (by omega) r9.1 (p_ar r9.2)
          generalize hS9 : S_exec gi r9.1 (p_ar r9.2) = S9 at *
          have hrg : -5 ≤ S9.1 ∧ S9.1 < 2147483648 := by rcases hoke with h | h <;> first | omega | (have h := h.1; simp only [List.mem_cons, List.not_mem_nil, or_false] at h; omega)
          have hO5 : gO x q M5 := (f5.2 _ (by omega)).trans hO4
          have hH5 := hH4.fr f5 (by omega)
          have hQ5 := hQ4.kp (M2 := M5) (fun a z1 z2 => f5.2 a (by omega)) (f5.2 _ (by omega)) (by rw [f5.1]; exact Nat.le_refl _)
          obtain ⟨p5, hQh5⟩ := id hH5
          refine m_if_ge (tgt := 115) hC dX9_runScript_85 (by decide) (by first | omega | (simp [hs_at] <;> omega)) (fun c2 => ?_) (fun c2 => ?_)
          · have hS5 : S_runs RS.2.2 0 g = S_runs (RS.2.2.drop (i + 1).toNat) (i + 1) S9.2 := by rw [hS4b, if_neg (by omega)]
            refine m_iinc hC 0 dX9_runScript_115 rfl (by decide) rfl ?_
            refine m_goto (tgt := 58) hC dX9_runScript_118 (by decide) ?_
            refine m_lvs [0, 1] rfl (ih (i + 1) S9.2 M5 (by omega) (by omega) (by omega) hR5 (by have z := hIp; unfold h_Ip at z; exact z.mono (by omega)) hS5 (f4.tr f5))
          · refine m_aload_n hC 1 dX9_runScript_88 rfl rfl ?_
            refine m_getf hC dX9_runScript_89 kf_X9_25 hO5 rfl ?_
            refine m_aload_n hC 1 dX9_runScript_92 rfl rfl ?_
            refine m_getf hC dX9_runScript_93 kf_X9_12 hO5 rfl ?_
            refine m_callV hC (t_X6_takeBack hF hl hH5 hx hc (by omega) hR5 (by omega) (by rw [if_pos rfl]; exact h8) (by rw [if_pos rfl]; exact h9a) (by rw [if_pos rfl]; exact h11)) dX9_runScript_96 kc_X6_takeBack kV_X9_352 hQh5.1.1 rfl rfl rfl rfl (Nat.le_of_ble_eq_true rfl) (by decide) ⟨Nat.le_of_ble_eq_true rfl, Nat.le_of_ble_eq_true rfl⟩ m_nox (fun v9 M6 h9 => ?_)
            obtain ⟨rfl, hR6, f6⟩ := h9
            rw [if_pos rfl] at hR6
            have f46 := (f4.tr f5).tr f6
            have hG6 := hG2.ref hc hL (hH5.fr f6 (by omega)) f3 hR6 f46 (Nat.le_refl _) rfl
            have hfr6 := (hfr2.tr (gFr.of (x := x) (w := w) f3 (by omega))).tr (gFr.of f46 (by omega))
            refine m_aload_n hC 1 dX9_runScript_99 rfl rfl ?_
            refine m_iload_n hC 0 dX9_runScript_100 rfl rfl ?_
            refine m_gpf hC dX9_runScript_101 kf_X9_55 kw_11_9 hG6.2.1 hx (Nat.le_of_ble_eq_true rfl) rfl rfl (fun M3 R4 f5 => ?_)
            change M3.2 _ = some (m_ob 11 [_, _, _, _, _, _, _, _, _, _]) at R4
            have hS6 : (S_runs RS.2.2 0 g).1 = i := by rw [hS4b, if_pos (by omega)]
            have hG7 := hG6.u_ob (q2 := m_ug q 3 (S_runs RS.2.2 0 g).1) (by rw [hS6]; exact R4) f5 rfl rfl
            have hfr7 := hfr6.tr (gFr.of (x := x) (w := w) f5 (by omega))
            exact m_thrW hC hX (ic := 120) (cls := "java/lang/IllegalStateException") (is := 355) (text := "a command of the script failed") (by decide) (by decide) (by decide +kernel) kX_116 kXi_116 ⟨by decide +kernel, by decide +kernel⟩ dX9_runScript_104 dX9_runScript_107 dX9_runScript_108 dX9_runScript_111 dX9_runScript_114 hno (by decide) (Nat.le_of_ble_eq_true rfl) (Nat.le_of_ble_eq_true rfl) (Nat.le_of_ble_eq_true rfl) (Nat.le_of_ble_eq_true rfl) (Nat.le_of_ble_eq_true rfl) (fun M9 e1 e2 => (by rw [hRS]; exact Or.inr ⟨hrt, by rw [hS6]; omega, rfl, hG7.grow e1 e2, hfr7.tr (gFr.gr e1 e2)⟩))
    refine m_lvs [0, 2] rfl (LL ((c2 - 0).toNat + 1) 0 g M3 (by omega) (by omega) (by omega) (hR2.fr f3 (by omega)) (hI.mono (by omega)) rfl m_fr.rf)
  · refine m_aload_n hC 1 dX9_runScript_23 rfl rfl ?_
    refine m_aload_n hC 1 dX9_runScript_24 rfl rfl ?_
    refine m_getf hC dX9_runScript_25 kf_X9_32 hO2 rfl ?_
    refine m_getf hC dX9_runScript_28 kf_X9_338 hQ3.1 rfl ?_
    refine m_gpf hC dX9_runScript_31 kf_X9_51 kw_11_8 hO2 hx (Nat.le_of_ble_eq_true rfl) rfl rfl (fun M6 R7 f8 => ?_)
    change M6.2 _ = some (m_ob 11 [_, _, _, _, _, _, _, _, _, _]) at R7
    have hG5 := hG2.u_ob (q2 := m_ug q 2 RS.2.1) R7 f8 rfl rfl
    have hfr5 := hfr2.tr (gFr.of (x := x) (w := w) f8 (by omega))
    have hrf : RS.1 = false := by rw [hRS] at c9; cases hz : RS.1 with | false => rfl | true => rw [if_pos hz] at c9; omega
    exact m_thrW hC hX (ic := 115) (cls := "java/lang/IllegalArgumentException") (is := 341) (text := "the script does not have the required form") (by decide) (by decide) (by decide +kernel) kX_111 kXi_111 ⟨by decide +kernel, by decide +kernel⟩ dX9_runScript_34 dX9_runScript_37 dX9_runScript_38 dX9_runScript_41 dX9_runScript_44 hno (by decide) (Nat.le_of_ble_eq_true rfl) (Nat.le_of_ble_eq_true rfl) (Nat.le_of_ble_eq_true rfl) (Nat.le_of_ble_eq_true rfl) (Nat.le_of_ble_eq_true rfl) (fun M9 e1 e2 => (by rw [hRS]; exact Or.inl ⟨hrf, rfl, hG5.grow e1 e2, hfr5.tr (gFr.gr e1 e2)⟩))

