/-! the law's beginning: both objects and the two cells for answers -/
theorem h_0_I : h_I 100 h_0 := by
  have e1 : ∀ i, h_0 1 i = 20 := fun i => by simp [h_0]
  have e8 : h_0 0 8 = 0 := by decide
  have e9 : h_0 0 9 = 0 := by decide
  have e11 : h_0 0 11 = 0 := by decide
  refine ⟨⟨fun k hk => ?_, by decide, by decide, by decide, fun i hi => by rw [e1 i]; decide, fun i hi => ?_, fun i hi => ?_, fun i hi => ?_⟩, by decide, fun i k h1 h2 h3 => ?_, fun i k h1 h2 h3 => ?_, fun i h1 h2 => ?_⟩
  · by_cases q : k = 1
    · rw [q]; decide
    · have e : h_0 0 k = 0 := by simp [h_0, q]
      rw [e]; decide
  · rw [e8] at hi; exact absurd hi.2 (by omega)
  · rw [e9] at hi; exact absurd hi.2 (by omega)
  · rw [e11] at hi; exact absurd hi.2 (by omega)
  · rw [e11] at h3; omega
  · rw [e11] at h3; omega
  · rw [e11] at h2; omega
abbrev lW0 : gW := (h_0, h_0, fun _ => h_0, g_q0, [], [])
theorem lI0 : lI 100 lW0 := ⟨h_0_I, fun _ => h_0_I, fun _ _ => h_0_I, ⟨by decide, by decide⟩, Or.inl (by decide), ⟨by decide, by decide⟩, ⟨by decide, by decide⟩, by decide, by decide⟩
theorem w_0_W : mdW w_0 0 h_0 (fun _ => h_0) g_q0 [] [] := ⟨by decide, ⟨by decide, by decide, by decide, by decide⟩, ⟨by decide, by decide⟩, Or.inl (by decide), fun h => absurd h (by decide), fun i hi => absurd hi (by show ¬ ((i : Int) < 0); omega), ⟨by decide, fun i hi => absurd hi (Nat.not_lt_zero _)⟩, ⟨by decide, fun i hi => absurd hi (Nat.not_lt_zero _)⟩⟩
section m_BEG
variable {D : va_G} {aC : Nat → ClassId} {l : Launch} {fo ks vs : Nat → Nat} {fA sA dO dT : Nat} {p : Program} {e : Env} {s : State} {m : MethodId} {args : Array Value} {below : List Frame} {meth : Method} {c : Code} {Q : State → Prop}
set_option maxHeartbeats 1000000 in
theorem L_begin (hF : m_F D aC s) (hl : l.stackTraces = false) (hJ : m_J s fo ks vs fA sA dO dT) (hAO : m_AO s) (C : m_C D aC s RL cL_law 10 l p s m args meth c) {b : Nat} (kk : ∀ M : m_M, lS s fo s.heap.size 100 lW0 M → m_W D aC s 10 p l e room_1 s m args below meth c 300 5000 Q 28 (lL 0 s.heap.size b) [] M) : m_W D aC s 10 p l e room_1 s m args below meth c 0 0 Q 0 [(0, .ref b)] [] (s.heap.size, fun _ => none) := by
  refine n_new (a := s.heap.size) (ci := 11) (fs := [.null, .null, .null, .null, .null, .null, .null, VI 0, VI 0, VI 0]) C dL_law_0 rfl tyX9_ok inX9 kk_L_8 kn_X9 ki_X9 (fun j hj => match j, hj with | 0, _ => rfl | 1, _ => rfl | 2, _ => rfl | 3, _ => rfl | 4, _ => rfl | 5, _ => rfl | 6, _ => rfl | 7, _ => rfl | 8, _ => rfl | 9, _ => rfl | _ + 10, h => absurd h (by omega)) (Nat.le_of_ble_eq_true rfl) (Nat.le_of_ble_eq_true rfl) rfl (fun M1 zM1 hM1 fM1 => ?_)
  refine m_dup C dL_law_3 rfl ?_
  refine m_callI C (t_X9_init hF hl hJ hAO (b := s.heap.size) zM1 (Nat.le_refl _) hM1) dL_law_4 kc_X9_init kI_L_155 rfl rfl (Nat.le_of_ble_eq_true rfl) ⟨Nat.le_of_ble_eq_true rfl, Nat.le_of_ble_eq_true rfl⟩ ⟨Nat.le_of_ble_eq_true rfl, Nat.le_of_ble_eq_true rfl⟩ m_nox (fun v9 M2 h9 => ?_)
  obtain ⟨rfl, zM2, gG, fM2⟩ := h9
  refine m_astore_n C dL_law_7 rfl (by decide) rfl ?_
  refine n_new (a := s.heap.size + 238) (ci := 12) (fs := [.null, .null, .null, .null, .null, VI 0, VI 0, VI 0, VI 0, .null, .null, VI 0, .null, VI 0, VI 0, VI 0, VI 0, VI 0, VI 0, .null]) C dL_law_8 rfl tyX10_ok inX10 kk_L_156 kn_X10 ki_X10 (fun j hj => match j, hj with | 0, _ => rfl | 1, _ => rfl | 2, _ => rfl | 3, _ => rfl | 4, _ => rfl | 5, _ => rfl | 6, _ => rfl | 7, _ => rfl | 8, _ => rfl | 9, _ => rfl | 10, _ => rfl | 11, _ => rfl | 12, _ => rfl | 13, _ => rfl | 14, _ => rfl | 15, _ => rfl | 16, _ => rfl | 17, _ => rfl | 18, _ => rfl | 19, _ => rfl | _ + 20, h => absurd h (by omega)) (Nat.le_of_ble_eq_true rfl) (Nat.le_of_ble_eq_true rfl) zM2 (fun M3 zM3 hM3 fM3 => ?_)
  refine m_dup C dL_law_11 rfl ?_
  refine m_callI C (t_X10_init hF hl (b := s.heap.size + 238) zM3 (by omega) hM3) dL_law_12 kc_X10_init kI_L_158 rfl rfl (Nat.le_of_ble_eq_true rfl) ⟨Nat.le_of_ble_eq_true rfl, Nat.le_of_ble_eq_true rfl⟩ ⟨Nat.le_of_ble_eq_true rfl, Nat.le_of_ble_eq_true rfl⟩ m_nox (fun v9 M4 h9 => ?_)
  obtain ⟨rfl, zM4, hV, fM4⟩ := h9
  refine m_astore_n C dL_law_15 rfl (by decide) rfl ?_
  refine m_iconst C dL_law_16 ?_
  refine m_newV (a := s.heap.size + 248) (k := 3) C dL_law_17 (by decide) rfl rfl ka_long (fun _ => Iff.rfl) (by decide) (Nat.le_of_ble_eq_true rfl) (Nat.le_of_ble_eq_true rfl) (by omega) (fun M5 zM5 hM5 fM5 => ?_)
  refine m_astore_n C dL_law_19 rfl (by decide) rfl ?_
  refine m_iconst C dL_law_20 ?_
  refine m_newV (a := s.heap.size + 249) (k := 4) C dL_law_21 (by decide) rfl rfl ka_double (fun _ => Iff.rfl) (by decide) (Nat.le_of_ble_eq_true rfl) (Nat.le_of_ble_eq_true rfl) (by omega) (fun M6 zM6 hM6 fM6 => ?_)
  refine m_astore C dL_law_23 (by decide) rfl ?_
  refine m_iconst C dL_law_25 ?_
  refine m_istore C dL_law_26 (by decide) rfl ?_
  have hq : ∀ q : Nat, q < s.heap.size + 248 → M6.2 q = M4.2 q := fun q h => (fM6 q (by omega)).trans (fM5 q (by omega))
  have hS : lS s fo s.heap.size 100 lW0 M6 := by
    refine ⟨gG (s.heap.size + 250) M6 (by omega) (by omega) (fun q h1 h2 => (hq q (by omega)).trans ((fM4 q (by omega)).trans (fM3 q (by omega)))), ⟨0, w_0, hV.keep (fun q h1 h2 => hq q (by omega)), w_0_W⟩, ⟨_, (fM6 _ (by omega)).trans hM5⟩, ⟨_, hM6⟩, lI0⟩
  exact m_lvs [0, 1, 2, 3, 4, 5] rfl (m_wd (Nat.le_of_ble_eq_true rfl) (Nat.le_of_ble_eq_true rfl) (kk M6 hS))
end m_BEG
