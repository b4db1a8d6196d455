/-! the law itself: fourteen times -/
theorem h_0_I : h_I 100 h_0 := by
  have e1 : ∀ i, h_0 1 i = 20 := fun i => by simp [h_0]
  have e8 : h_0 0 8 = 0 := by decide
  have e9 : h_0 0 9 = 0 := by decide
  have e11 : h_0 0 11 = 0 := by decide
  refine ⟨⟨fun k hk => ?_, by decide, by decide, by decide, fun i hi => by rw [e1 i]; decide, fun i hi => ?_, fun i hi => ?_, fun i hi => ?_⟩, by decide, fun i k h1 h2 h3 => ?_, fun i k h1 h2 h3 => ?_, fun i h1 h2 => ?_⟩
  · by_cases q : k = 1
    · rw [q]; decide
    · have e : h_0 0 k = 0 := by simp [h_0, q]
      rw [e]; decide
  · rw [e8] at hi; exact absurd hi.2 (by omega)
  · rw [e9] at hi; exact absurd hi.2 (by omega)
  · rw [e11] at hi; exact absurd hi.2 (by omega)
  · rw [e11] at h3; omega
  · rw [e11] at h3; omega
  · rw [e11] at h2; omega
abbrev lW0 : gW := (h_0, h_0, fun _ => h_0, g_q0, [], [])
theorem lI0 : lI 100 lW0 := ⟨h_0_I, fun _ => h_0_I, fun _ _ => h_0_I, ⟨by decide, by decide⟩, Or.inl (by decide), ⟨by decide, by decide⟩, ⟨by decide, by decide⟩, by decide, by decide⟩
set_option maxHeartbeats 4000000 in
set_option maxRecDepth 100000 in
theorem L_law {D : va_G} {aC : Nat → ClassId} {l : Launch} {fo ks vs : Nat → Nat} {fA sA dO dT : Nat} {p : Program} {e : Env} {s : State} {m : MethodId} {args : Array Value} {below : List Frame} {meth : Method} {c : Code} {Q : State → Prop} (hF : m_F D aC s) (hl : l.stackTraces = false) (hJ : m_J s fo ks vs fA sA dO dT) (hAO : m_AO s) (hX : m_TH s) (hN : m_NC s) (hJS : m_JS s) {sa va : Nat → Nat} (hLS : m_LS s sa va) (hC : m_C D aC s RL cL_law 4 l p s m args meth c) {b L : Nat} {xs : Nat → Int32} (hS : sS s b L xs) (kend : ∀ (k : Int) (M : m_M), m_W D aC s 4 p l e room_1 s m args below meth c (600312) (7290498) Q 101 [(2, VI k), (1, .ref s.heap.size), (0, .ref b)] [] M) : m_W D aC s 4 p l e room_1 s m args below meth c (0) (0) Q 0 [(0, .ref b)] [] (s.heap.size, fun _ => none) := by
  refine n_new (a := s.heap.size) (ci := 11) (fs := [.null, .null, .null, .null, .null, .null, .null, VI 0, VI 0, VI 0]) hC dL_law_0 rfl tyX9_ok inX9 kk_L_16 kn_X9 ki_X9 (fun j hj => match j, hj with | 0, _ => rfl | 1, _ => rfl | 2, _ => rfl | 3, _ => rfl | 4, _ => rfl | 5, _ => rfl | 6, _ => rfl | 7, _ => rfl | 8, _ => rfl | 9, _ => rfl | _ + 10, h => absurd h (by omega)) (Nat.le_of_ble_eq_true rfl) (Nat.le_of_ble_eq_true rfl) rfl (fun M1 zM1 hM1 fM1 => ?_)
  refine m_dup hC dL_law_3 rfl ?_
  refine m_callI hC (t_X9_init hF hl hJ hAO (b := s.heap.size) zM1 (Nat.le_refl _) hM1) dL_law_4 kc_X9_init kI_L_289 rfl rfl (Nat.le_of_ble_eq_true rfl) ⟨Nat.le_of_ble_eq_true rfl, Nat.le_of_ble_eq_true rfl⟩ ⟨Nat.le_of_ble_eq_true rfl, Nat.le_of_ble_eq_true rfl⟩ m_nox (fun v9 M2 h9 => ?_)
  obtain ⟨rfl, zM2, gG, fM2⟩ := h9
  have hG2 : gIn s.heap.size fo s.heap.size (s.heap.size + 238) lW0 M2 := gG (s.heap.size + 238) M2 (by omega) (by omega) (fun _ _ _ => rfl)
  refine m_astore_n hC dL_law_7 rfl (by decide) rfl ?_
  refine m_aload_n hC 0 dL_law_8 rfl rfl ?_
  refine m_aload_n hC 1 dL_law_9 rfl rfl ?_
  refine m_callS hC (t_L_lay hF hl hJ hX hN hG2 lI0 (by omega) hS) dL_law_10 kc_L_lay kS_L_290 rfl rfl (Nat.le_of_ble_eq_true rfl) ⟨Nat.le_of_ble_eq_true rfl, Nat.le_of_ble_eq_true rfl⟩ ⟨Nat.le_of_ble_eq_true rfl, Nat.le_of_ble_eq_true rfl⟩ m_nox (fun v9 M3 h9 => ?_)
  obtain ⟨rfl, W3, hG3, hf3, hI3⟩ := h9
  refine m_iconst hC dL_law_13 ?_
  refine m_istore_n hC dL_law_14 rfl (by decide) rfl ?_
  refine m_wd (k := 15000) (n := 30000) (Nat.le_of_ble_eq_true rfl) (Nat.le_of_ble_eq_true rfl) ?_
  have L1 : ∀ (n : Nat) (k : Int) (c9 s9 : Nat) (W : gW) (M : m_M), 14 - k < (n : Int) → 0 ≤ k → k ≤ 14 → gIn s.heap.size fo s.heap.size (s.heap.size + 238) W M → lI (200100 + 10600 * k) W → (c9 : Int) ≤ 15000 + 28790 * k → (s9 : Int) ≤ 30000 + 229580 * k → m_W D aC s 4 p l e room_1 s m args below meth c (c9) (s9) Q 15 [(2, VI k), (1, .ref s.heap.size), (0, .ref b)] [] M := by
    intro n
    induction n with
    | zero =>
      intro k c9 s9 W M hn h0 h1 hG hI hc9 hs9
      omega
    | succ n ih =>
      intro k c9 s9 W M hn h0 h1 hG hI hc9 hs9
      refine m_iload_n hC 0 dL_law_15 rfl rfl ?_
      refine m_bipush hC dL_law_16 (by decide) ?_
      refine m_icmp_ge (tgt := 101) hC dL_law_18 (by decide) (by first | omega | (simp [hs_at] <;> omega)) (fun c1 => ?_) (fun c1 => ?_)
      · exact m_lvs [0, 1, 2] rfl (m_wd (by omega) (by omega) (kend k M))
      · refine m_aload_n hC 1 dL_law_21 rfl rfl ?_
        refine m_aload_n hC 2 dL_law_22 rfl rfl ?_
        refine m_sipush hC dL_law_23 (by decide) ?_
        refine m_bipush hC dL_law_26 (by decide) ?_
        refine m_iload_n hC 0 dL_law_28 rfl rfl ?_
        refine m_imul hC dL_law_29 ?_
        refine m_iadd hC dL_law_30 ?_
        refine m_callS hC (t_L_any hF hl hJ hX hN hG hI (by omega) hS (by omega)) dL_law_31 kc_L_any kS_L_294 rfl rfl (Nat.le_of_ble_eq_true rfl) ⟨Nat.le_of_ble_eq_true rfl, Nat.le_of_ble_eq_true rfl⟩ ⟨by show _ ≤ 600312; omega, by show _ ≤ 7290498; omega⟩ m_nox (fun v9 M4 h9 => ?_)
        obtain ⟨z4, W4, rfl, hG4, hf4, hI4⟩ := h9
        refine m_istore_n hC dL_law_34 rfl (by decide) rfl ?_
        refine m_aload_n hC 2 dL_law_35 rfl rfl ?_
        refine m_callS hC (t_L_areRoomsRight hF hl hJ hX hN hG4 hI4 (by omega)) dL_law_36 kc_L_areRoomsRight kS_L_298 rfl rfl (Nat.le_of_ble_eq_true rfl) ⟨Nat.le_of_ble_eq_true rfl, Nat.le_of_ble_eq_true rfl⟩ ⟨by show _ ≤ 600312; omega, by show _ ≤ 7290498; omega⟩ m_nox (fun v9 M5 h9 => ?_)
        obtain ⟨rfl, hG5, hf5⟩ := h9
        refine m_if_eq (tgt := 93) hC dL_law_39 (by decide) (by omega) (fun c2 => by omega) (fun c2 => ?_)
        refine m_aload_n hC 2 dL_law_42 rfl rfl ?_
        refine m_callS hC (t_L_areGoblinsRight hF hl hJ hX hN hG5 hI4 (by omega) hJS hLS) dL_law_43 kc_L_areGoblinsRight kS_L_302 rfl rfl (Nat.le_of_ble_eq_true rfl) ⟨Nat.le_of_ble_eq_true rfl, Nat.le_of_ble_eq_true rfl⟩ ⟨by show _ ≤ 600312; omega, by show _ ≤ 7290498; omega⟩ m_nox (fun v9 M6 h9 => ?_)
        obtain ⟨rfl, t6, ht6, hG6⟩ := h9
        have hI6 := hI4.ot ht6
        refine m_if_eq (tgt := 93) hC dL_law_46 (by decide) (by omega) (fun c3 => by omega) (fun c3 => ?_)
        refine m_aload_n hC 2 dL_law_49 rfl rfl ?_
        refine m_callS hC (t_L_areContractsRight hF hl hJ hX hN hG6 hI6 (by omega) hJS hLS) dL_law_50 kc_L_areContractsRight kS_L_305 rfl rfl (Nat.le_of_ble_eq_true rfl) ⟨Nat.le_of_ble_eq_true rfl, Nat.le_of_ble_eq_true rfl⟩ ⟨by show _ ≤ 600312; omega, by show _ ≤ 7290498; omega⟩ m_nox (fun v9 M7 h9 => ?_)
        obtain ⟨rfl, t7, ht7, hG7⟩ := h9
        have hI7 := hI6.ot ht7
        refine m_if_eq (tgt := 93) hC dL_law_53 (by decide) (by omega) (fun c4 => by omega) (fun c4 => ?_)
        refine m_aload_n hC 2 dL_law_56 rfl rfl ?_
        refine m_iconst hC dL_law_57 ?_
        refine m_aload_n hC 3 dL_law_58 rfl rfl ?_
        refine m_sipush hC dL_law_59 (by decide) ?_
        refine m_iload_n hC 1 dL_law_62 rfl rfl ?_
        refine m_iadd hC dL_law_63 ?_
        refine m_aload_n hC 3 dL_law_64 rfl rfl ?_
        refine m_sipush hC dL_law_65 (by decide) ?_
        refine m_iload_n hC 1 dL_law_68 rfl rfl ?_
        refine m_iadd hC dL_law_69 ?_
        refine m_iconst hC dL_law_70 ?_
        refine m_callSt hC (t_L_pick hF hl hS (by omega) (by omega)) dL_law_71 kc_L_pick kS_L_117 rfl rfl (Nat.le_of_ble_eq_true rfl) ⟨Nat.le_of_ble_eq_true rfl, Nat.le_of_ble_eq_true rfl⟩ ⟨by show _ ≤ 600312; omega, by show _ ≤ 7290498; omega⟩ (fun v M9 h => by rw [h.2]) (fun _ _ h => h) (fun v9 M9 h9 => ?_)
        obtain ⟨⟨zp1, hzp1, rfl⟩, h9⟩ := h9
        replace h9 := h9.symm
        subst h9
        refine m_if_ne (tgt := 81) hC dL_law_74 (by decide) (by first | omega | (simp [hs_at] <;> omega)) (fun c5 => ?_) (fun c5 => ?_)
        · refine m_bipush hC dL_law_81 (by decide) ?_
          refine m_callSt hC (t_L_pick hF hl hS (by omega) (by omega)) dL_law_83 kc_L_pick kS_L_117 rfl rfl (Nat.le_of_ble_eq_true rfl) ⟨Nat.le_of_ble_eq_true rfl, Nat.le_of_ble_eq_true rfl⟩ ⟨by show _ ≤ 600312; omega, by show _ ≤ 7290498; omega⟩ (fun v M9 h => by rw [h.2]) (fun _ _ h => h) (fun v9 M9 h9 => ?_)
          obtain ⟨⟨zp2, hzp2, rfl⟩, h9⟩ := h9
          replace h9 := h9.symm
          subst h9
          refine m_iadd hC dL_law_86 ?_
          refine m_callS hC (t_L_arePredictionsRight hF hl hJ hX hN hG7 hI7 (by omega) (by omega)) dL_law_87 kc_L_arePredictionsRight kS_L_308 rfl rfl (Nat.le_of_ble_eq_true rfl) ⟨Nat.le_of_ble_eq_true rfl, Nat.le_of_ble_eq_true rfl⟩ ⟨by show _ ≤ 600312; omega, by show _ ≤ 7290498; omega⟩ m_nox (fun v9 M8 h9 => ?_)
          obtain ⟨rfl, W8, hG8, hI8⟩ := h9
          refine m_if_ne (tgt := 95) hC dL_law_90 (by decide) (by omega) (fun c6 => ?_) (fun c6 => by omega)
          refine m_iinc hC 1 dL_law_95 rfl (by decide) rfl ?_
          refine m_goto (tgt := 15) hC dL_law_98 (by decide) ?_
          refine m_lvs [0, 2, 3] rfl (ih (k + 1) _ _ _ M8 (by omega) (by omega) (by omega) hG8 (hI8.mono (by omega)) (by omega) (by omega))
        · refine m_iconst hC dL_law_77 ?_
          refine m_goto (tgt := 83) hC dL_law_78 (by decide) ?_
          refine m_callSt hC (t_L_pick hF hl hS (by omega) (by omega)) dL_law_83 kc_L_pick kS_L_117 rfl rfl (Nat.le_of_ble_eq_true rfl) ⟨Nat.le_of_ble_eq_true rfl, Nat.le_of_ble_eq_true rfl⟩ ⟨by show _ ≤ 600312; omega, by show _ ≤ 7290498; omega⟩ (fun v M9 h => by rw [h.2]) (fun _ _ h => h) (fun v9 M9 h9 => ?_)
          obtain ⟨⟨zp3, hzp3, rfl⟩, h9⟩ := h9
          replace h9 := h9.symm
          subst h9
          refine m_iadd hC dL_law_86 ?_
          refine m_callS hC (t_L_arePredictionsRight hF hl hJ hX hN hG7 hI7 (by omega) (by omega)) dL_law_87 kc_L_arePredictionsRight kS_L_308 rfl rfl (Nat.le_of_ble_eq_true rfl) ⟨Nat.le_of_ble_eq_true rfl, Nat.le_of_ble_eq_true rfl⟩ ⟨by show _ ≤ 600312; omega, by show _ ≤ 7290498; omega⟩ m_nox (fun v9 M8 h9 => ?_)
          obtain ⟨rfl, W8, hG8, hI8⟩ := h9
          refine m_if_ne (tgt := 95) hC dL_law_90 (by decide) (by omega) (fun c7 => ?_) (fun c7 => by omega)
          refine m_iinc hC 1 dL_law_95 rfl (by decide) rfl ?_
          refine m_goto (tgt := 15) hC dL_law_98 (by decide) ?_
          refine m_lvs [0, 2, 3] rfl (ih (k + 1) _ _ _ M8 (by omega) (by omega) (by omega) hG8 (hI8.mono (by omega)) (by omega) (by omega))
  refine m_lvs [0, 1, 2] rfl (L1 15 0 15000 30000 W3 M3 (by omega) (by omega) (by omega) hG3 (hI3.mono (by omega)) (by omega) (by omega))
