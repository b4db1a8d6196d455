set_option maxHeartbeats 4000000 in
set_option maxRecDepth 100000 in
theorem t_X8_init {D : va_G} {aC : Nat → ClassId} {s0 : State} {l : Launch} (hF : m_F D aC s0) (hl : l.stackTraces = false) {fo ks vs : Nat → Nat} {fA sA dO dT : Nat} (hJ : m_J s0 fo ks vs fA sA dO dT) (hAO : m_AO s0) {b : Nat} {M : m_M} (hsz : M.1 = b + 1) (hb : s0.heap.size ≤ b) (hM : M.2 b = some (m_ob 10 [.null, .null, VI 0, VI 0])) : m_Met D aC s0 l yX8_init cX8_init 2 none 3 (27) (129) [.ref b] M (fun v M' => v = none ∧ M'.1 = b + 28 ∧ ((M'.2 b = some (m_ob 10 [.ref (b + 1), .ref (b + 3), VI 0, VI 0]) ∧ M'.2 (b + 1) = some (m_ob 1 [.ref (b + 2), VI 0, VI 0, VI 0]) ∧ M'.2 (b + 2) = some (m_ia 2 16 (fun _ => 0)) ∧ M'.2 (b + 3) = some (m_va 6 12 (fun i => .ref (b + 4 + 2 * i)))) ∧ ∀ i : Nat, i < 12 → M'.2 (b + 4 + 2 * i) = some (m_ob 5 [.ref (b + 4 + 2 * i + 1), VI 0, .ref (fo 11)]) ∧ M'.2 (b + 4 + 2 * i + 1) = some (m_ia 0 4 (fun _ => 0))) ∧ (∀ q : Nat, q < b → M'.2 q = M.2 q)) m_nx := by
  refine m_entry (lv := [(0, .ref b)]) (by decide +kernel) (Nat.le_of_ble_eq_true rfl) rfl hF hl ?_
  intro p e s m args below meth c hC hr hno hnm
  change m_C D aC s0 RX8 _ _ _ _ _ _ _ _ _ at hC
  refine m_aload_n hC 0 dX8_init_0 rfl rfl ?_
  refine m_obji hC dX8_init_1 ko_X8_3 ko_inst ko_code (by decide) (by decide) ?_
  refine m_aload_n hC 0 dX8_init_4 rfl rfl ?_
  refine n_new (a := b + 1) (ci := 1) (fs := [.null, VI 0, VI 0, VI 0]) hC dX8_init_5 rfl tyJ4_ok inJ4 kk_X8_9 kn_J4 ki_J4 (fun j hj => match j, hj with | 0, _ => rfl | 1, _ => rfl | 2, _ => rfl | 3, _ => rfl | _ + 4, h => absurd h (by omega)) (Nat.le_of_ble_eq_true rfl) (Nat.le_of_ble_eq_true rfl) (by omega) (fun M1 zM1 hM1 fM1 => ?_)
  have hM1_0 := (fM1 _ (by omega)).trans hM
  clear hsz
  refine m_dup hC dX8_init_8 rfl ?_
  refine m_callI hC (t_J4_init_da8c8 hF hl hJ (b := b + 1) (by omega) (by omega) hM1) dX8_init_9 kc_J4_init_da8c8 kI_X8_11 rfl rfl (Nat.le_of_ble_eq_true rfl) (by decide) ⟨Nat.le_of_ble_eq_true rfl, Nat.le_of_ble_eq_true rfl⟩ m_nox (fun v9 M2 h9 => ?_)
  obtain ⟨rfl, zM2, gM2, fM2⟩ := h9
  have hM2_0 := (fM2 _ (by omega)).trans hM1_0
  clear zM1
  refine n_putF hC dX8_init_12 kf_X8_12 kw_10_0 (hnm.trans rfl) hM2_0 (by omega) (Nat.le_of_ble_eq_true rfl) rfl rfl (fun M3 zM3 hM3 fM3 => ?_)
  change M3.2 _ = some (m_ob 10 [.ref (b + 1), .null, VI 0, VI 0]) at hM3
  replace zM3 := zM3.trans zM2
  clear zM2
  have hM3_1 := (fM3 _ (by omega)).trans gM2.1
  have hM3_2 := (fM3 _ (by omega)).trans gM2.2
  refine m_aload_n hC 0 dX8_init_15 rfl rfl ?_
  refine m_bipush hC dX8_init_16 (by decide) ?_
  refine n_anew (a := b + 3) (k := 6) (n := 12) hC hAO.2 dX8_init_18 kk_X8_18 (by decide) rfl rfl (by decide) (Nat.le_of_ble_eq_true rfl) (Nat.le_of_ble_eq_true rfl) (by omega) (fun M4 zM4 hM4 fM4 => ?_)
  have hM4_0 := (fM4 _ (by omega)).trans hM3
  have hM4_1 := (fM4 _ (by omega)).trans hM3_1
  have hM4_2 := (fM4 _ (by omega)).trans hM3_2
  rw [c_fi_0 (s := 4) (t := 2) (b := b)] at hM4
  clear zM3
  refine n_putF hC dX8_init_21 kf_X8_20 kw_10_1 (hnm.trans rfl) hM4_0 (by omega) (Nat.le_of_ble_eq_true rfl) rfl rfl (fun M5 zM5 hM5 fM5 => ?_)
  change M5.2 _ = some (m_ob 10 [.ref (b + 1), .ref (b + 3), VI 0, VI 0]) at hM5
  replace zM5 := zM5.trans zM4
  clear zM4
  have hM5_1 := (fM5 _ (by omega)).trans hM4_1
  have hM5_2 := (fM5 _ (by omega)).trans hM4_2
  have hM5_3 := (fM5 _ (by omega)).trans hM4
  refine m_aload_n hC 0 dX8_init_24 rfl rfl ?_
  refine m_iconst hC dX8_init_25 ?_
  refine n_putf hC dX8_init_26 kf_X8_24 kw_10_2 hM5 (by omega) (Nat.le_of_ble_eq_true rfl) rfl rfl (fun M6 zM6 hM6 fM6 => ?_)
  change M6.2 _ = some (m_ob 10 [.ref (b + 1), .ref (b + 3), VI 0, VI 0]) at hM6
  replace zM6 := zM6.trans zM5
  clear zM5
  have hM6_1 := (fM6 _ (by omega)).trans hM5_1
  have hM6_2 := (fM6 _ (by omega)).trans hM5_2
  have hM6_3 := (fM6 _ (by omega)).trans hM5_3
  refine m_aload_n hC 0 dX8_init_29 rfl rfl ?_
  refine m_iconst hC dX8_init_30 ?_
  refine n_putf hC dX8_init_31 kf_X8_28 kw_10_3 hM6 (by omega) (Nat.le_of_ble_eq_true rfl) rfl rfl (fun M7 zM7 hM7 fM7 => ?_)
  change M7.2 _ = some (m_ob 10 [.ref (b + 1), .ref (b + 3), VI 0, VI 0]) at hM7
  replace zM7 := zM7.trans zM6
  clear zM6
  have hM7_1 := (fM7 _ (by omega)).trans hM6_1
  have hM7_2 := (fM7 _ (by omega)).trans hM6_2
  have hM7_3 := (fM7 _ (by omega)).trans hM6_3
  refine m_iconst hC dX8_init_34 ?_
  refine m_istore_n hC dX8_init_35 rfl (by decide) rfl ?_
  refine m_iload_n hC 0 dX8_init_36 rfl rfl ?_
  refine m_aload_n hC 1 dX8_init_37 rfl rfl ?_
  refine m_getf hC dX8_init_38 kf_X8_20 hM7 rfl ?_
  refine m_alenV hC dX8_init_41 hM7_3 (by decide) ?_
  refine m_icmp_ge (tgt := 64) hC dX8_init_42 (by decide) (by decide) (fun c => absurd c (by decide)) (fun c => ?_)
  refine m_aload_n hC 1 dX8_init_45 rfl rfl ?_
  refine m_getf hC dX8_init_46 kf_X8_20 hM7 rfl ?_
  refine m_iload_n hC 0 dX8_init_49 rfl rfl ?_
  refine n_new (a := b + 4) (ci := 5) (fs := [.null, VI 0, .null]) hC dX8_init_50 rfl tyX2_ok inX2 kk_X8_18 kn_X2 ki_X2 (fun j hj => match j, hj with | 0, _ => rfl | 1, _ => rfl | 2, _ => rfl | _ + 3, h => absurd h (by omega)) (Nat.le_of_ble_eq_true rfl) (Nat.le_of_ble_eq_true rfl) (by omega) (fun M8 zM8 hM8 fM8 => ?_)
  have hM8_0 := (fM8 _ (by omega)).trans hM7
  have hM8_1 := (fM8 _ (by omega)).trans hM7_1
  have hM8_2 := (fM8 _ (by omega)).trans hM7_2
  have hM8_3 := (fM8 _ (by omega)).trans hM7_3
  clear zM7
  refine m_dup hC dX8_init_53 rfl ?_
  refine m_callN hC (t_X2_init hF hl hJ (b := b + 4) (by omega) (by omega) hM8) dX8_init_54 kc_X2_init hF.2.2.2.2.2.2 kN_X8_31 rfl rfl (Nat.le_of_ble_eq_true rfl) (by decide) ⟨Nat.le_of_ble_eq_true rfl, Nat.le_of_ble_eq_true rfl⟩ m_nox (fun v9 M9 h9 => ?_)
  obtain ⟨rfl, zM9, gM9, fM9⟩ := h9
  have hM9_0 := (fM9 _ (by omega)).trans hM8_0
  have hM9_1 := (fM9 _ (by omega)).trans hM8_1
  have hM9_2 := (fM9 _ (by omega)).trans hM8_2
  have hM9_3 := (fM9 _ (by omega)).trans hM8_3
  clear zM8
  refine n_aast hC dX8_init_57 hM9_3 (by decide) rfl gM9.1 rfl (by omega) (by decide) (by decide) (fun M10 zM10 hM10 fM10 => ?_)
  replace zM10 := zM10.trans zM9
  clear zM9
  have hM10_0 := (fM10 _ (by omega)).trans hM9_0
  have hM10_1 := (fM10 _ (by omega)).trans hM9_1
  have hM10_2 := (fM10 _ (by omega)).trans hM9_2
  have hM10_4 := (fM10 _ (by omega)).trans gM9.1
  have hM10_5 := (fM10 _ (by omega)).trans gM9.2
  have kM10 : M10.2 (b + 3) = some (m_va 6 12 (c_fi 4 2 b 1)) := hM10.trans (congrArg (fun f => some (m_va 6 12 f)) (c_fi_s (k := 0) (by omega)))
  refine m_iinc hC 0 dX8_init_58 rfl (by decide) rfl ?_
  refine m_goto (tgt := 36) hC dX8_init_61 (by decide) ?_
  refine m_lvs (lv2 := [(1, VI 1), (0, .ref b)]) [0, 1] rfl ?_
  refine m_wd (k := 5) (n := 39) (Nat.le_of_ble_eq_true rfl) (Nat.le_of_ble_eq_true rfl) ?_
  refine m_iload_n hC 0 dX8_init_36 rfl rfl ?_
  refine m_aload_n hC 1 dX8_init_37 rfl rfl ?_
  refine m_getf hC dX8_init_38 kf_X8_20 hM10_0 rfl ?_
  refine m_alenV hC dX8_init_41 kM10 (by decide) ?_
  refine m_icmp_ge (tgt := 64) hC dX8_init_42 (by decide) (by decide) (fun c => absurd c (by decide)) (fun c => ?_)
  refine m_aload_n hC 1 dX8_init_45 rfl rfl ?_
  refine m_getf hC dX8_init_46 kf_X8_20 hM10_0 rfl ?_
  refine m_iload_n hC 0 dX8_init_49 rfl rfl ?_
  refine n_new (a := b + 6) (ci := 5) (fs := [.null, VI 0, .null]) hC dX8_init_50 rfl tyX2_ok inX2 kk_X8_18 kn_X2 ki_X2 (fun j hj => match j, hj with | 0, _ => rfl | 1, _ => rfl | 2, _ => rfl | _ + 3, h => absurd h (by omega)) (Nat.le_of_ble_eq_true rfl) (Nat.le_of_ble_eq_true rfl) (by omega) (fun M11 zM11 hM11 fM11 => ?_)
  have hM11_0 := (fM11 _ (by omega)).trans hM10_0
  have hM11_1 := (fM11 _ (by omega)).trans hM10_1
  have hM11_2 := (fM11 _ (by omega)).trans hM10_2
  have hM11_3 := (fM11 _ (by omega)).trans kM10
  have hM11_4 := (fM11 _ (by omega)).trans hM10_4
  have hM11_5 := (fM11 _ (by omega)).trans hM10_5
  clear zM10
  refine m_dup hC dX8_init_53 rfl ?_
  refine m_callN hC (t_X2_init hF hl hJ (b := b + 6) (by omega) (by omega) hM11) dX8_init_54 kc_X2_init hF.2.2.2.2.2.2 kN_X8_31 rfl rfl (Nat.le_of_ble_eq_true rfl) (by decide) ⟨Nat.le_of_ble_eq_true rfl, Nat.le_of_ble_eq_true rfl⟩ m_nox (fun v9 M12 h9 => ?_)
  obtain ⟨rfl, zM12, gM12, fM12⟩ := h9
  have hM12_0 := (fM12 _ (by omega)).trans hM11_0
  have hM12_1 := (fM12 _ (by omega)).trans hM11_1
  have hM12_2 := (fM12 _ (by omega)).trans hM11_2
  have hM12_3 := (fM12 _ (by omega)).trans hM11_3
  have hM12_4 := (fM12 _ (by omega)).trans hM11_4
  have hM12_5 := (fM12 _ (by omega)).trans hM11_5
  clear zM11
  refine n_aast hC dX8_init_57 hM12_3 (by decide) rfl gM12.1 rfl (by omega) (by decide) (by decide) (fun M13 zM13 hM13 fM13 => ?_)
  replace zM13 := zM13.trans zM12
  clear zM12
  have hM13_0 := (fM13 _ (by omega)).trans hM12_0
  have hM13_1 := (fM13 _ (by omega)).trans hM12_1
  have hM13_2 := (fM13 _ (by omega)).trans hM12_2
  have hM13_4 := (fM13 _ (by omega)).trans hM12_4
  have hM13_5 := (fM13 _ (by omega)).trans hM12_5
  have hM13_6 := (fM13 _ (by omega)).trans gM12.1
  have hM13_7 := (fM13 _ (by omega)).trans gM12.2
  have kM13 : M13.2 (b + 3) = some (m_va 6 12 (c_fi 4 2 b 2)) := hM13.trans (congrArg (fun f => some (m_va 6 12 f)) (c_fi_s (k := 1) (by omega)))
  refine m_iinc hC 0 dX8_init_58 rfl (by decide) rfl ?_
  refine m_goto (tgt := 36) hC dX8_init_61 (by decide) ?_
  refine m_lvs (lv2 := [(1, VI 2), (0, .ref b)]) [0, 1] rfl ?_
  refine m_wd (k := 7) (n := 46) (Nat.le_of_ble_eq_true rfl) (Nat.le_of_ble_eq_true rfl) ?_
  refine m_iload_n hC 0 dX8_init_36 rfl rfl ?_
  refine m_aload_n hC 1 dX8_init_37 rfl rfl ?_
  refine m_getf hC dX8_init_38 kf_X8_20 hM13_0 rfl ?_
  refine m_alenV hC dX8_init_41 kM13 (by decide) ?_
  refine m_icmp_ge (tgt := 64) hC dX8_init_42 (by decide) (by decide) (fun c => absurd c (by decide)) (fun c => ?_)
  refine m_aload_n hC 1 dX8_init_45 rfl rfl ?_
  refine m_getf hC dX8_init_46 kf_X8_20 hM13_0 rfl ?_
  refine m_iload_n hC 0 dX8_init_49 rfl rfl ?_
  refine n_new (a := b + 8) (ci := 5) (fs := [.null, VI 0, .null]) hC dX8_init_50 rfl tyX2_ok inX2 kk_X8_18 kn_X2 ki_X2 (fun j hj => match j, hj with | 0, _ => rfl | 1, _ => rfl | 2, _ => rfl | _ + 3, h => absurd h (by omega)) (Nat.le_of_ble_eq_true rfl) (Nat.le_of_ble_eq_true rfl) (by omega) (fun M14 zM14 hM14 fM14 => ?_)
  have hM14_0 := (fM14 _ (by omega)).trans hM13_0
  have hM14_1 := (fM14 _ (by omega)).trans hM13_1
  have hM14_2 := (fM14 _ (by omega)).trans hM13_2
  have hM14_3 := (fM14 _ (by omega)).trans kM13
  have hM14_4 := (fM14 _ (by omega)).trans hM13_4
  have hM14_5 := (fM14 _ (by omega)).trans hM13_5
  have hM14_6 := (fM14 _ (by omega)).trans hM13_6
  have hM14_7 := (fM14 _ (by omega)).trans hM13_7
  clear zM13
  refine m_dup hC dX8_init_53 rfl ?_
  refine m_callN hC (t_X2_init hF hl hJ (b := b + 8) (by omega) (by omega) hM14) dX8_init_54 kc_X2_init hF.2.2.2.2.2.2 kN_X8_31 rfl rfl (Nat.le_of_ble_eq_true rfl) (by decide) ⟨Nat.le_of_ble_eq_true rfl, Nat.le_of_ble_eq_true rfl⟩ m_nox (fun v9 M15 h9 => ?_)
  obtain ⟨rfl, zM15, gM15, fM15⟩ := h9
  have hM15_0 := (fM15 _ (by omega)).trans hM14_0
  have hM15_1 := (fM15 _ (by omega)).trans hM14_1
  have hM15_2 := (fM15 _ (by omega)).trans hM14_2
  have hM15_3 := (fM15 _ (by omega)).trans hM14_3
  have hM15_4 := (fM15 _ (by omega)).trans hM14_4
  have hM15_5 := (fM15 _ (by omega)).trans hM14_5
  have hM15_6 := (fM15 _ (by omega)).trans hM14_6
  have hM15_7 := (fM15 _ (by omega)).trans hM14_7
  clear zM14
  refine n_aast hC dX8_init_57 hM15_3 (by decide) rfl gM15.1 rfl (by omega) (by decide) (by decide) (fun M16 zM16 hM16 fM16 => ?_)
  replace zM16 := zM16.trans zM15
  clear zM15
  have hM16_0 := (fM16 _ (by omega)).trans hM15_0
  have hM16_1 := (fM16 _ (by omega)).trans hM15_1
  have hM16_2 := (fM16 _ (by omega)).trans hM15_2
  have hM16_4 := (fM16 _ (by omega)).trans hM15_4
  have hM16_5 := (fM16 _ (by omega)).trans hM15_5
  have hM16_6 := (fM16 _ (by omega)).trans hM15_6
  have hM16_7 := (fM16 _ (by omega)).trans hM15_7
  have hM16_8 := (fM16 _ (by omega)).trans gM15.1
  have hM16_9 := (fM16 _ (by omega)).trans gM15.2
  have kM16 : M16.2 (b + 3) = some (m_va 6 12 (c_fi 4 2 b 3)) := hM16.trans (congrArg (fun f => some (m_va 6 12 f)) (c_fi_s (k := 2) (by omega)))
  refine m_iinc hC 0 dX8_init_58 rfl (by decide) rfl ?_
  refine m_goto (tgt := 36) hC dX8_init_61 (by decide) ?_
  refine m_lvs (lv2 := [(1, VI 3), (0, .ref b)]) [0, 1] rfl ?_
  refine m_wd (k := 9) (n := 53) (Nat.le_of_ble_eq_true rfl) (Nat.le_of_ble_eq_true rfl) ?_
  refine m_iload_n hC 0 dX8_init_36 rfl rfl ?_
  refine m_aload_n hC 1 dX8_init_37 rfl rfl ?_
  refine m_getf hC dX8_init_38 kf_X8_20 hM16_0 rfl ?_
  refine m_alenV hC dX8_init_41 kM16 (by decide) ?_
  refine m_icmp_ge (tgt := 64) hC dX8_init_42 (by decide) (by decide) (fun c => absurd c (by decide)) (fun c => ?_)
  refine m_aload_n hC 1 dX8_init_45 rfl rfl ?_
  refine m_getf hC dX8_init_46 kf_X8_20 hM16_0 rfl ?_
  refine m_iload_n hC 0 dX8_init_49 rfl rfl ?_
  refine n_new (a := b + 10) (ci := 5) (fs := [.null, VI 0, .null]) hC dX8_init_50 rfl tyX2_ok inX2 kk_X8_18 kn_X2 ki_X2 (fun j hj => match j, hj with | 0, _ => rfl | 1, _ => rfl | 2, _ => rfl | _ + 3, h => absurd h (by omega)) (Nat.le_of_ble_eq_true rfl) (Nat.le_of_ble_eq_true rfl) (by omega) (fun M17 zM17 hM17 fM17 => ?_)
  have hM17_0 := (fM17 _ (by omega)).trans hM16_0
  have hM17_1 := (fM17 _ (by omega)).trans hM16_1
  have hM17_2 := (fM17 _ (by omega)).trans hM16_2
  have hM17_3 := (fM17 _ (by omega)).trans kM16
  have hM17_4 := (fM17 _ (by omega)).trans hM16_4
  have hM17_5 := (fM17 _ (by omega)).trans hM16_5
  have hM17_6 := (fM17 _ (by omega)).trans hM16_6
  have hM17_7 := (fM17 _ (by omega)).trans hM16_7
  have hM17_8 := (fM17 _ (by omega)).trans hM16_8
  have hM17_9 := (fM17 _ (by omega)).trans hM16_9
  clear zM16
  refine m_dup hC dX8_init_53 rfl ?_
  refine m_callN hC (t_X2_init hF hl hJ (b := b + 10) (by omega) (by omega) hM17) dX8_init_54 kc_X2_init hF.2.2.2.2.2.2 kN_X8_31 rfl rfl (Nat.le_of_ble_eq_true rfl) (by decide) ⟨Nat.le_of_ble_eq_true rfl, Nat.le_of_ble_eq_true rfl⟩ m_nox (fun v9 M18 h9 => ?_)
  obtain ⟨rfl, zM18, gM18, fM18⟩ := h9
  have hM18_0 := (fM18 _ (by omega)).trans hM17_0
  have hM18_1 := (fM18 _ (by omega)).trans hM17_1
  have hM18_2 := (fM18 _ (by omega)).trans hM17_2
  have hM18_3 := (fM18 _ (by omega)).trans hM17_3
  have hM18_4 := (fM18 _ (by omega)).trans hM17_4
  have hM18_5 := (fM18 _ (by omega)).trans hM17_5
  have hM18_6 := (fM18 _ (by omega)).trans hM17_6
  have hM18_7 := (fM18 _ (by omega)).trans hM17_7
  have hM18_8 := (fM18 _ (by omega)).trans hM17_8
  have hM18_9 := (fM18 _ (by omega)).trans hM17_9
  clear zM17
  refine n_aast hC dX8_init_57 hM18_3 (by decide) rfl gM18.1 rfl (by omega) (by decide) (by decide) (fun M19 zM19 hM19 fM19 => ?_)
  replace zM19 := zM19.trans zM18
  clear zM18
  have hM19_0 := (fM19 _ (by omega)).trans hM18_0
  have hM19_1 := (fM19 _ (by omega)).trans hM18_1
  have hM19_2 := (fM19 _ (by omega)).trans hM18_2
  have hM19_4 := (fM19 _ (by omega)).trans hM18_4
  have hM19_5 := (fM19 _ (by omega)).trans hM18_5
  have hM19_6 := (fM19 _ (by omega)).trans hM18_6
  have hM19_7 := (fM19 _ (by omega)).trans hM18_7
  have hM19_8 := (fM19 _ (by omega)).trans hM18_8
  have hM19_9 := (fM19 _ (by omega)).trans hM18_9
  have hM19_10 := (fM19 _ (by omega)).trans gM18.1
  have hM19_11 := (fM19 _ (by omega)).trans gM18.2
  have kM19 : M19.2 (b + 3) = some (m_va 6 12 (c_fi 4 2 b 4)) := hM19.trans (congrArg (fun f => some (m_va 6 12 f)) (c_fi_s (k := 3) (by omega)))
  refine m_iinc hC 0 dX8_init_58 rfl (by decide) rfl ?_
  refine m_goto (tgt := 36) hC dX8_init_61 (by decide) ?_
  refine m_lvs (lv2 := [(1, VI 4), (0, .ref b)]) [0, 1] rfl ?_
  refine m_wd (k := 11) (n := 60) (Nat.le_of_ble_eq_true rfl) (Nat.le_of_ble_eq_true rfl) ?_
  refine m_iload_n hC 0 dX8_init_36 rfl rfl ?_
  refine m_aload_n hC 1 dX8_init_37 rfl rfl ?_
  refine m_getf hC dX8_init_38 kf_X8_20 hM19_0 rfl ?_
  refine m_alenV hC dX8_init_41 kM19 (by decide) ?_
  refine m_icmp_ge (tgt := 64) hC dX8_init_42 (by decide) (by decide) (fun c => absurd c (by decide)) (fun c => ?_)
  refine m_aload_n hC 1 dX8_init_45 rfl rfl ?_
  refine m_getf hC dX8_init_46 kf_X8_20 hM19_0 rfl ?_
  refine m_iload_n hC 0 dX8_init_49 rfl rfl ?_
  refine n_new (a := b + 12) (ci := 5) (fs := [.null, VI 0, .null]) hC dX8_init_50 rfl tyX2_ok inX2 kk_X8_18 kn_X2 ki_X2 (fun j hj => match j, hj with | 0, _ => rfl | 1, _ => rfl | 2, _ => rfl | _ + 3, h => absurd h (by omega)) (Nat.le_of_ble_eq_true rfl) (Nat.le_of_ble_eq_true rfl) (by omega) (fun M20 zM20 hM20 fM20 => ?_)
  have hM20_0 := (fM20 _ (by omega)).trans hM19_0
  have hM20_1 := (fM20 _ (by omega)).trans hM19_1
  have hM20_2 := (fM20 _ (by omega)).trans hM19_2
  have hM20_3 := (fM20 _ (by omega)).trans kM19
  have hM20_4 := (fM20 _ (by omega)).trans hM19_4
  have hM20_5 := (fM20 _ (by omega)).trans hM19_5
  have hM20_6 := (fM20 _ (by omega)).trans hM19_6
  have hM20_7 := (fM20 _ (by omega)).trans hM19_7
  have hM20_8 := (fM20 _ (by omega)).trans hM19_8
  have hM20_9 := (fM20 _ (by omega)).trans hM19_9
  have hM20_10 := (fM20 _ (by omega)).trans hM19_10
  have hM20_11 := (fM20 _ (by omega)).trans hM19_11
  clear zM19
  refine m_dup hC dX8_init_53 rfl ?_
  refine m_callN hC (t_X2_init hF hl hJ (b := b + 12) (by omega) (by omega) hM20) dX8_init_54 kc_X2_init hF.2.2.2.2.2.2 kN_X8_31 rfl rfl (Nat.le_of_ble_eq_true rfl) (by decide) ⟨Nat.le_of_ble_eq_true rfl, Nat.le_of_ble_eq_true rfl⟩ m_nox (fun v9 M21 h9 => ?_)
  obtain ⟨rfl, zM21, gM21, fM21⟩ := h9
  have hM21_0 := (fM21 _ (by omega)).trans hM20_0
  have hM21_1 := (fM21 _ (by omega)).trans hM20_1
  have hM21_2 := (fM21 _ (by omega)).trans hM20_2
  have hM21_3 := (fM21 _ (by omega)).trans hM20_3
  have hM21_4 := (fM21 _ (by omega)).trans hM20_4
  have hM21_5 := (fM21 _ (by omega)).trans hM20_5
  have hM21_6 := (fM21 _ (by omega)).trans hM20_6
  have hM21_7 := (fM21 _ (by omega)).trans hM20_7
  have hM21_8 := (fM21 _ (by omega)).trans hM20_8
  have hM21_9 := (fM21 _ (by omega)).trans hM20_9
  have hM21_10 := (fM21 _ (by omega)).trans hM20_10
  have hM21_11 := (fM21 _ (by omega)).trans hM20_11
  clear zM20
  refine n_aast hC dX8_init_57 hM21_3 (by decide) rfl gM21.1 rfl (by omega) (by decide) (by decide) (fun M22 zM22 hM22 fM22 => ?_)
  replace zM22 := zM22.trans zM21
  clear zM21
  have hM22_0 := (fM22 _ (by omega)).trans hM21_0
  have hM22_1 := (fM22 _ (by omega)).trans hM21_1
  have hM22_2 := (fM22 _ (by omega)).trans hM21_2
  have hM22_4 := (fM22 _ (by omega)).trans hM21_4
  have hM22_5 := (fM22 _ (by omega)).trans hM21_5
  have hM22_6 := (fM22 _ (by omega)).trans hM21_6
  have hM22_7 := (fM22 _ (by omega)).trans hM21_7
  have hM22_8 := (fM22 _ (by omega)).trans hM21_8
  have hM22_9 := (fM22 _ (by omega)).trans hM21_9
  have hM22_10 := (fM22 _ (by omega)).trans hM21_10
  have hM22_11 := (fM22 _ (by omega)).trans hM21_11
  have hM22_12 := (fM22 _ (by omega)).trans gM21.1
  have hM22_13 := (fM22 _ (by omega)).trans gM21.2
  have kM22 : M22.2 (b + 3) = some (m_va 6 12 (c_fi 4 2 b 5)) := hM22.trans (congrArg (fun f => some (m_va 6 12 f)) (c_fi_s (k := 4) (by omega)))
  refine m_iinc hC 0 dX8_init_58 rfl (by decide) rfl ?_
  refine m_goto (tgt := 36) hC dX8_init_61 (by decide) ?_
  refine m_lvs (lv2 := [(1, VI 5), (0, .ref b)]) [0, 1] rfl ?_
  refine m_wd (k := 13) (n := 67) (Nat.le_of_ble_eq_true rfl) (Nat.le_of_ble_eq_true rfl) ?_
  refine m_iload_n hC 0 dX8_init_36 rfl rfl ?_
  refine m_aload_n hC 1 dX8_init_37 rfl rfl ?_
  refine m_getf hC dX8_init_38 kf_X8_20 hM22_0 rfl ?_
  refine m_alenV hC dX8_init_41 kM22 (by decide) ?_
  refine m_icmp_ge (tgt := 64) hC dX8_init_42 (by decide) (by decide) (fun c => absurd c (by decide)) (fun c => ?_)
  refine m_aload_n hC 1 dX8_init_45 rfl rfl ?_
  refine m_getf hC dX8_init_46 kf_X8_20 hM22_0 rfl ?_
  refine m_iload_n hC 0 dX8_init_49 rfl rfl ?_
  refine n_new (a := b + 14) (ci := 5) (fs := [.null, VI 0, .null]) hC dX8_init_50 rfl tyX2_ok inX2 kk_X8_18 kn_X2 ki_X2 (fun j hj => match j, hj with | 0, _ => rfl | 1, _ => rfl | 2, _ => rfl | _ + 3, h => absurd h (by omega)) (Nat.le_of_ble_eq_true rfl) (Nat.le_of_ble_eq_true rfl) (by omega) (fun M23 zM23 hM23 fM23 => ?_)
  have hM23_0 := (fM23 _ (by omega)).trans hM22_0
  have hM23_1 := (fM23 _ (by omega)).trans hM22_1
  have hM23_2 := (fM23 _ (by omega)).trans hM22_2
  have hM23_3 := (fM23 _ (by omega)).trans kM22
  have hM23_4 := (fM23 _ (by omega)).trans hM22_4
  have hM23_5 := (fM23 _ (by omega)).trans hM22_5
  have hM23_6 := (fM23 _ (by omega)).trans hM22_6
  have hM23_7 := (fM23 _ (by omega)).trans hM22_7
  have hM23_8 := (fM23 _ (by omega)).trans hM22_8
  have hM23_9 := (fM23 _ (by omega)).trans hM22_9
  have hM23_10 := (fM23 _ (by omega)).trans hM22_10
  have hM23_11 := (fM23 _ (by omega)).trans hM22_11
  have hM23_12 := (fM23 _ (by omega)).trans hM22_12
  have hM23_13 := (fM23 _ (by omega)).trans hM22_13
  clear zM22
  refine m_dup hC dX8_init_53 rfl ?_
  refine m_callN hC (t_X2_init hF hl hJ (b := b + 14) (by omega) (by omega) hM23) dX8_init_54 kc_X2_init hF.2.2.2.2.2.2 kN_X8_31 rfl rfl (Nat.le_of_ble_eq_true rfl) (by decide) ⟨Nat.le_of_ble_eq_true rfl, Nat.le_of_ble_eq_true rfl⟩ m_nox (fun v9 M24 h9 => ?_)
  obtain ⟨rfl, zM24, gM24, fM24⟩ := h9
  have hM24_0 := (fM24 _ (by omega)).trans hM23_0
  have hM24_1 := (fM24 _ (by omega)).trans hM23_1
  have hM24_2 := (fM24 _ (by omega)).trans hM23_2
  have hM24_3 := (fM24 _ (by omega)).trans hM23_3
  have hM24_4 := (fM24 _ (by omega)).trans hM23_4
  have hM24_5 := (fM24 _ (by omega)).trans hM23_5
  have hM24_6 := (fM24 _ (by omega)).trans hM23_6
  have hM24_7 := (fM24 _ (by omega)).trans hM23_7
  have hM24_8 := (fM24 _ (by omega)).trans hM23_8
  have hM24_9 := (fM24 _ (by omega)).trans hM23_9
  have hM24_10 := (fM24 _ (by omega)).trans hM23_10
  have hM24_11 := (fM24 _ (by omega)).trans hM23_11
  have hM24_12 := (fM24 _ (by omega)).trans hM23_12
  have hM24_13 := (fM24 _ (by omega)).trans hM23_13
  clear zM23
  refine n_aast hC dX8_init_57 hM24_3 (by decide) rfl gM24.1 rfl (by omega) (by decide) (by decide) (fun M25 zM25 hM25 fM25 => ?_)
  replace zM25 := zM25.trans zM24
  clear zM24
  have hM25_0 := (fM25 _ (by omega)).trans hM24_0
  have hM25_1 := (fM25 _ (by omega)).trans hM24_1
  have hM25_2 := (fM25 _ (by omega)).trans hM24_2
  have hM25_4 := (fM25 _ (by omega)).trans hM24_4
  have hM25_5 := (fM25 _ (by omega)).trans hM24_5
  have hM25_6 := (fM25 _ (by omega)).trans hM24_6
  have hM25_7 := (fM25 _ (by omega)).trans hM24_7
  have hM25_8 := (fM25 _ (by omega)).trans hM24_8
  have hM25_9 := (fM25 _ (by omega)).trans hM24_9
  have hM25_10 := (fM25 _ (by omega)).trans hM24_10
  have hM25_11 := (fM25 _ (by omega)).trans hM24_11
  have hM25_12 := (fM25 _ (by omega)).trans hM24_12
  have hM25_13 := (fM25 _ (by omega)).trans hM24_13
  have hM25_14 := (fM25 _ (by omega)).trans gM24.1
  have hM25_15 := (fM25 _ (by omega)).trans gM24.2
  have kM25 : M25.2 (b + 3) = some (m_va 6 12 (c_fi 4 2 b 6)) := hM25.trans (congrArg (fun f => some (m_va 6 12 f)) (c_fi_s (k := 5) (by omega)))
  refine m_iinc hC 0 dX8_init_58 rfl (by decide) rfl ?_
  refine m_goto (tgt := 36) hC dX8_init_61 (by decide) ?_
  refine m_lvs (lv2 := [(1, VI 6), (0, .ref b)]) [0, 1] rfl ?_
  refine m_wd (k := 15) (n := 74) (Nat.le_of_ble_eq_true rfl) (Nat.le_of_ble_eq_true rfl) ?_
  refine m_iload_n hC 0 dX8_init_36 rfl rfl ?_
  refine m_aload_n hC 1 dX8_init_37 rfl rfl ?_
  refine m_getf hC dX8_init_38 kf_X8_20 hM25_0 rfl ?_
  refine m_alenV hC dX8_init_41 kM25 (by decide) ?_
  refine m_icmp_ge (tgt := 64) hC dX8_init_42 (by decide) (by decide) (fun c => absurd c (by decide)) (fun c => ?_)
  refine m_aload_n hC 1 dX8_init_45 rfl rfl ?_
  refine m_getf hC dX8_init_46 kf_X8_20 hM25_0 rfl ?_
  refine m_iload_n hC 0 dX8_init_49 rfl rfl ?_
  refine n_new (a := b + 16) (ci := 5) (fs := [.null, VI 0, .null]) hC dX8_init_50 rfl tyX2_ok inX2 kk_X8_18 kn_X2 ki_X2 (fun j hj => match j, hj with | 0, _ => rfl | 1, _ => rfl | 2, _ => rfl | _ + 3, h => absurd h (by omega)) (Nat.le_of_ble_eq_true rfl) (Nat.le_of_ble_eq_true rfl) (by omega) (fun M26 zM26 hM26 fM26 => ?_)
  have hM26_0 := (fM26 _ (by omega)).trans hM25_0
  have hM26_1 := (fM26 _ (by omega)).trans hM25_1
  have hM26_2 := (fM26 _ (by omega)).trans hM25_2
  have hM26_3 := (fM26 _ (by omega)).trans kM25
  have hM26_4 := (fM26 _ (by omega)).trans hM25_4
  have hM26_5 := (fM26 _ (by omega)).trans hM25_5
  have hM26_6 := (fM26 _ (by omega)).trans hM25_6
  have hM26_7 := (fM26 _ (by omega)).trans hM25_7
  have hM26_8 := (fM26 _ (by omega)).trans hM25_8
  have hM26_9 := (fM26 _ (by omega)).trans hM25_9
  have hM26_10 := (fM26 _ (by omega)).trans hM25_10
  have hM26_11 := (fM26 _ (by omega)).trans hM25_11
  have hM26_12 := (fM26 _ (by omega)).trans hM25_12
  have hM26_13 := (fM26 _ (by omega)).trans hM25_13
  have hM26_14 := (fM26 _ (by omega)).trans hM25_14
  have hM26_15 := (fM26 _ (by omega)).trans hM25_15
  clear zM25
  refine m_dup hC dX8_init_53 rfl ?_
  refine m_callN hC (t_X2_init hF hl hJ (b := b + 16) (by omega) (by omega) hM26) dX8_init_54 kc_X2_init hF.2.2.2.2.2.2 kN_X8_31 rfl rfl (Nat.le_of_ble_eq_true rfl) (by decide) ⟨Nat.le_of_ble_eq_true rfl, Nat.le_of_ble_eq_true rfl⟩ m_nox (fun v9 M27 h9 => ?_)
  obtain ⟨rfl, zM27, gM27, fM27⟩ := h9
  have hM27_0 := (fM27 _ (by omega)).trans hM26_0
  have hM27_1 := (fM27 _ (by omega)).trans hM26_1
  have hM27_2 := (fM27 _ (by omega)).trans hM26_2
  have hM27_3 := (fM27 _ (by omega)).trans hM26_3
  have hM27_4 := (fM27 _ (by omega)).trans hM26_4
  have hM27_5 := (fM27 _ (by omega)).trans hM26_5
  have hM27_6 := (fM27 _ (by omega)).trans hM26_6
  have hM27_7 := (fM27 _ (by omega)).trans hM26_7
  have hM27_8 := (fM27 _ (by omega)).trans hM26_8
  have hM27_9 := (fM27 _ (by omega)).trans hM26_9
  have hM27_10 := (fM27 _ (by omega)).trans hM26_10
  have hM27_11 := (fM27 _ (by omega)).trans hM26_11
  have hM27_12 := (fM27 _ (by omega)).trans hM26_12
  have hM27_13 := (fM27 _ (by omega)).trans hM26_13
  have hM27_14 := (fM27 _ (by omega)).trans hM26_14
  have hM27_15 := (fM27 _ (by omega)).trans hM26_15
  clear zM26
  refine n_aast hC dX8_init_57 hM27_3 (by decide) rfl gM27.1 rfl (by omega) (by decide) (by decide) (fun M28 zM28 hM28 fM28 => ?_)
  replace zM28 := zM28.trans zM27
  clear zM27
  have hM28_0 := (fM28 _ (by omega)).trans hM27_0
  have hM28_1 := (fM28 _ (by omega)).trans hM27_1
  have hM28_2 := (fM28 _ (by omega)).trans hM27_2
  have hM28_4 := (fM28 _ (by omega)).trans hM27_4
  have hM28_5 := (fM28 _ (by omega)).trans hM27_5
  have hM28_6 := (fM28 _ (by omega)).trans hM27_6
  have hM28_7 := (fM28 _ (by omega)).trans hM27_7
  have hM28_8 := (fM28 _ (by omega)).trans hM27_8
  have hM28_9 := (fM28 _ (by omega)).trans hM27_9
  have hM28_10 := (fM28 _ (by omega)).trans hM27_10
  have hM28_11 := (fM28 _ (by omega)).trans hM27_11
  have hM28_12 := (fM28 _ (by omega)).trans hM27_12
  have hM28_13 := (fM28 _ (by omega)).trans hM27_13
  have hM28_14 := (fM28 _ (by omega)).trans hM27_14
  have hM28_15 := (fM28 _ (by omega)).trans hM27_15
  have hM28_16 := (fM28 _ (by omega)).trans gM27.1
  have hM28_17 := (fM28 _ (by omega)).trans gM27.2
  have kM28 : M28.2 (b + 3) = some (m_va 6 12 (c_fi 4 2 b 7)) := hM28.trans (congrArg (fun f => some (m_va 6 12 f)) (c_fi_s (k := 6) (by omega)))
  refine m_iinc hC 0 dX8_init_58 rfl (by decide) rfl ?_
  refine m_goto (tgt := 36) hC dX8_init_61 (by decide) ?_
  refine m_lvs (lv2 := [(1, VI 7), (0, .ref b)]) [0, 1] rfl ?_
  refine m_wd (k := 17) (n := 81) (Nat.le_of_ble_eq_true rfl) (Nat.le_of_ble_eq_true rfl) ?_
  refine m_iload_n hC 0 dX8_init_36 rfl rfl ?_
  refine m_aload_n hC 1 dX8_init_37 rfl rfl ?_
  refine m_getf hC dX8_init_38 kf_X8_20 hM28_0 rfl ?_
  refine m_alenV hC dX8_init_41 kM28 (by decide) ?_
  refine m_icmp_ge (tgt := 64) hC dX8_init_42 (by decide) (by decide) (fun c => absurd c (by decide)) (fun c => ?_)
  refine m_aload_n hC 1 dX8_init_45 rfl rfl ?_
  refine m_getf hC dX8_init_46 kf_X8_20 hM28_0 rfl ?_
  refine m_iload_n hC 0 dX8_init_49 rfl rfl ?_
  refine n_new (a := b + 18) (ci := 5) (fs := [.null, VI 0, .null]) hC dX8_init_50 rfl tyX2_ok inX2 kk_X8_18 kn_X2 ki_X2 (fun j hj => match j, hj with | 0, _ => rfl | 1, _ => rfl | 2, _ => rfl | _ + 3, h => absurd h (by omega)) (Nat.le_of_ble_eq_true rfl) (Nat.le_of_ble_eq_true rfl) (by omega) (fun M29 zM29 hM29 fM29 => ?_)
  have hM29_0 := (fM29 _ (by omega)).trans hM28_0
  have hM29_1 := (fM29 _ (by omega)).trans hM28_1
  have hM29_2 := (fM29 _ (by omega)).trans hM28_2
  have hM29_3 := (fM29 _ (by omega)).trans kM28
  have hM29_4 := (fM29 _ (by omega)).trans hM28_4
  have hM29_5 := (fM29 _ (by omega)).trans hM28_5
  have hM29_6 := (fM29 _ (by omega)).trans hM28_6
  have hM29_7 := (fM29 _ (by omega)).trans hM28_7
  have hM29_8 := (fM29 _ (by omega)).trans hM28_8
  have hM29_9 := (fM29 _ (by omega)).trans hM28_9
  have hM29_10 := (fM29 _ (by omega)).trans hM28_10
  have hM29_11 := (fM29 _ (by omega)).trans hM28_11
  have hM29_12 := (fM29 _ (by omega)).trans hM28_12
  have hM29_13 := (fM29 _ (by omega)).trans hM28_13
  have hM29_14 := (fM29 _ (by omega)).trans hM28_14
  have hM29_15 := (fM29 _ (by omega)).trans hM28_15
  have hM29_16 := (fM29 _ (by omega)).trans hM28_16
  have hM29_17 := (fM29 _ (by omega)).trans hM28_17
  clear zM28
  refine m_dup hC dX8_init_53 rfl ?_
  refine m_callN hC (t_X2_init hF hl hJ (b := b + 18) (by omega) (by omega) hM29) dX8_init_54 kc_X2_init hF.2.2.2.2.2.2 kN_X8_31 rfl rfl (Nat.le_of_ble_eq_true rfl) (by decide) ⟨Nat.le_of_ble_eq_true rfl, Nat.le_of_ble_eq_true rfl⟩ m_nox (fun v9 M30 h9 => ?_)
  obtain ⟨rfl, zM30, gM30, fM30⟩ := h9
  have hM30_0 := (fM30 _ (by omega)).trans hM29_0
  have hM30_1 := (fM30 _ (by omega)).trans hM29_1
  have hM30_2 := (fM30 _ (by omega)).trans hM29_2
  have hM30_3 := (fM30 _ (by omega)).trans hM29_3
  have hM30_4 := (fM30 _ (by omega)).trans hM29_4
  have hM30_5 := (fM30 _ (by omega)).trans hM29_5
  have hM30_6 := (fM30 _ (by omega)).trans hM29_6
  have hM30_7 := (fM30 _ (by omega)).trans hM29_7
  have hM30_8 := (fM30 _ (by omega)).trans hM29_8
  have hM30_9 := (fM30 _ (by omega)).trans hM29_9
  have hM30_10 := (fM30 _ (by omega)).trans hM29_10
  have hM30_11 := (fM30 _ (by omega)).trans hM29_11
  have hM30_12 := (fM30 _ (by omega)).trans hM29_12
  have hM30_13 := (fM30 _ (by omega)).trans hM29_13
  have hM30_14 := (fM30 _ (by omega)).trans hM29_14
  have hM30_15 := (fM30 _ (by omega)).trans hM29_15
  have hM30_16 := (fM30 _ (by omega)).trans hM29_16
  have hM30_17 := (fM30 _ (by omega)).trans hM29_17
  clear zM29
  refine n_aast hC dX8_init_57 hM30_3 (by decide) rfl gM30.1 rfl (by omega) (by decide) (by decide) (fun M31 zM31 hM31 fM31 => ?_)
  replace zM31 := zM31.trans zM30
  clear zM30
  have hM31_0 := (fM31 _ (by omega)).trans hM30_0
  have hM31_1 := (fM31 _ (by omega)).trans hM30_1
  have hM31_2 := (fM31 _ (by omega)).trans hM30_2
  have hM31_4 := (fM31 _ (by omega)).trans hM30_4
  have hM31_5 := (fM31 _ (by omega)).trans hM30_5
  have hM31_6 := (fM31 _ (by omega)).trans hM30_6
  have hM31_7 := (fM31 _ (by omega)).trans hM30_7
  have hM31_8 := (fM31 _ (by omega)).trans hM30_8
  have hM31_9 := (fM31 _ (by omega)).trans hM30_9
  have hM31_10 := (fM31 _ (by omega)).trans hM30_10
  have hM31_11 := (fM31 _ (by omega)).trans hM30_11
  have hM31_12 := (fM31 _ (by omega)).trans hM30_12
  have hM31_13 := (fM31 _ (by omega)).trans hM30_13
  have hM31_14 := (fM31 _ (by omega)).trans hM30_14
  have hM31_15 := (fM31 _ (by omega)).trans hM30_15
  have hM31_16 := (fM31 _ (by omega)).trans hM30_16
  have hM31_17 := (fM31 _ (by omega)).trans hM30_17
  have hM31_18 := (fM31 _ (by omega)).trans gM30.1
  have hM31_19 := (fM31 _ (by omega)).trans gM30.2
  have kM31 : M31.2 (b + 3) = some (m_va 6 12 (c_fi 4 2 b 8)) := hM31.trans (congrArg (fun f => some (m_va 6 12 f)) (c_fi_s (k := 7) (by omega)))
  refine m_iinc hC 0 dX8_init_58 rfl (by decide) rfl ?_
  refine m_goto (tgt := 36) hC dX8_init_61 (by decide) ?_
  refine m_lvs (lv2 := [(1, VI 8), (0, .ref b)]) [0, 1] rfl ?_
  refine m_wd (k := 19) (n := 88) (Nat.le_of_ble_eq_true rfl) (Nat.le_of_ble_eq_true rfl) ?_
  refine m_iload_n hC 0 dX8_init_36 rfl rfl ?_
  refine m_aload_n hC 1 dX8_init_37 rfl rfl ?_
  refine m_getf hC dX8_init_38 kf_X8_20 hM31_0 rfl ?_
  refine m_alenV hC dX8_init_41 kM31 (by decide) ?_
  refine m_icmp_ge (tgt := 64) hC dX8_init_42 (by decide) (by decide) (fun c => absurd c (by decide)) (fun c => ?_)
  refine m_aload_n hC 1 dX8_init_45 rfl rfl ?_
  refine m_getf hC dX8_init_46 kf_X8_20 hM31_0 rfl ?_
  refine m_iload_n hC 0 dX8_init_49 rfl rfl ?_
  refine n_new (a := b + 20) (ci := 5) (fs := [.null, VI 0, .null]) hC dX8_init_50 rfl tyX2_ok inX2 kk_X8_18 kn_X2 ki_X2 (fun j hj => match j, hj with | 0, _ => rfl | 1, _ => rfl | 2, _ => rfl | _ + 3, h => absurd h (by omega)) (Nat.le_of_ble_eq_true rfl) (Nat.le_of_ble_eq_true rfl) (by omega) (fun M32 zM32 hM32 fM32 => ?_)
  have hM32_0 := (fM32 _ (by omega)).trans hM31_0
  have hM32_1 := (fM32 _ (by omega)).trans hM31_1
  have hM32_2 := (fM32 _ (by omega)).trans hM31_2
  have hM32_3 := (fM32 _ (by omega)).trans kM31
  have hM32_4 := (fM32 _ (by omega)).trans hM31_4
  have hM32_5 := (fM32 _ (by omega)).trans hM31_5
  have hM32_6 := (fM32 _ (by omega)).trans hM31_6
  have hM32_7 := (fM32 _ (by omega)).trans hM31_7
  have hM32_8 := (fM32 _ (by omega)).trans hM31_8
  have hM32_9 := (fM32 _ (by omega)).trans hM31_9
  have hM32_10 := (fM32 _ (by omega)).trans hM31_10
  have hM32_11 := (fM32 _ (by omega)).trans hM31_11
  have hM32_12 := (fM32 _ (by omega)).trans hM31_12
  have hM32_13 := (fM32 _ (by omega)).trans hM31_13
  have hM32_14 := (fM32 _ (by omega)).trans hM31_14
  have hM32_15 := (fM32 _ (by omega)).trans hM31_15
  have hM32_16 := (fM32 _ (by omega)).trans hM31_16
  have hM32_17 := (fM32 _ (by omega)).trans hM31_17
  have hM32_18 := (fM32 _ (by omega)).trans hM31_18
  have hM32_19 := (fM32 _ (by omega)).trans hM31_19
  clear zM31
  refine m_dup hC dX8_init_53 rfl ?_
  refine m_callN hC (t_X2_init hF hl hJ (b := b + 20) (by omega) (by omega) hM32) dX8_init_54 kc_X2_init hF.2.2.2.2.2.2 kN_X8_31 rfl rfl (Nat.le_of_ble_eq_true rfl) (by decide) ⟨Nat.le_of_ble_eq_true rfl, Nat.le_of_ble_eq_true rfl⟩ m_nox (fun v9 M33 h9 => ?_)
  obtain ⟨rfl, zM33, gM33, fM33⟩ := h9
  have hM33_0 := (fM33 _ (by omega)).trans hM32_0
  have hM33_1 := (fM33 _ (by omega)).trans hM32_1
  have hM33_2 := (fM33 _ (by omega)).trans hM32_2
  have hM33_3 := (fM33 _ (by omega)).trans hM32_3
  have hM33_4 := (fM33 _ (by omega)).trans hM32_4
  have hM33_5 := (fM33 _ (by omega)).trans hM32_5
  have hM33_6 := (fM33 _ (by omega)).trans hM32_6
  have hM33_7 := (fM33 _ (by omega)).trans hM32_7
  have hM33_8 := (fM33 _ (by omega)).trans hM32_8
  have hM33_9 := (fM33 _ (by omega)).trans hM32_9
  have hM33_10 := (fM33 _ (by omega)).trans hM32_10
  have hM33_11 := (fM33 _ (by omega)).trans hM32_11
  have hM33_12 := (fM33 _ (by omega)).trans hM32_12
  have hM33_13 := (fM33 _ (by omega)).trans hM32_13
  have hM33_14 := (fM33 _ (by omega)).trans hM32_14
  have hM33_15 := (fM33 _ (by omega)).trans hM32_15
  have hM33_16 := (fM33 _ (by omega)).trans hM32_16
  have hM33_17 := (fM33 _ (by omega)).trans hM32_17
  have hM33_18 := (fM33 _ (by omega)).trans hM32_18
  have hM33_19 := (fM33 _ (by omega)).trans hM32_19
  clear zM32
  refine n_aast hC dX8_init_57 hM33_3 (by decide) rfl gM33.1 rfl (by omega) (by decide) (by decide) (fun M34 zM34 hM34 fM34 => ?_)
  replace zM34 := zM34.trans zM33
  clear zM33
  have hM34_0 := (fM34 _ (by omega)).trans hM33_0
  have hM34_1 := (fM34 _ (by omega)).trans hM33_1
  have hM34_2 := (fM34 _ (by omega)).trans hM33_2
  have hM34_4 := (fM34 _ (by omega)).trans hM33_4
  have hM34_5 := (fM34 _ (by omega)).trans hM33_5
  have hM34_6 := (fM34 _ (by omega)).trans hM33_6
  have hM34_7 := (fM34 _ (by omega)).trans hM33_7
  have hM34_8 := (fM34 _ (by omega)).trans hM33_8
  have hM34_9 := (fM34 _ (by omega)).trans hM33_9
  have hM34_10 := (fM34 _ (by omega)).trans hM33_10
  have hM34_11 := (fM34 _ (by omega)).trans hM33_11
  have hM34_12 := (fM34 _ (by omega)).trans hM33_12
  have hM34_13 := (fM34 _ (by omega)).trans hM33_13
  have hM34_14 := (fM34 _ (by omega)).trans hM33_14
  have hM34_15 := (fM34 _ (by omega)).trans hM33_15
  have hM34_16 := (fM34 _ (by omega)).trans hM33_16
  have hM34_17 := (fM34 _ (by omega)).trans hM33_17
  have hM34_18 := (fM34 _ (by omega)).trans hM33_18
  have hM34_19 := (fM34 _ (by omega)).trans hM33_19
  have hM34_20 := (fM34 _ (by omega)).trans gM33.1
  have hM34_21 := (fM34 _ (by omega)).trans gM33.2
  have kM34 : M34.2 (b + 3) = some (m_va 6 12 (c_fi 4 2 b 9)) := hM34.trans (congrArg (fun f => some (m_va 6 12 f)) (c_fi_s (k := 8) (by omega)))
  refine m_iinc hC 0 dX8_init_58 rfl (by decide) rfl ?_
  refine m_goto (tgt := 36) hC dX8_init_61 (by decide) ?_
  refine m_lvs (lv2 := [(1, VI 9), (0, .ref b)]) [0, 1] rfl ?_
  refine m_wd (k := 21) (n := 95) (Nat.le_of_ble_eq_true rfl) (Nat.le_of_ble_eq_true rfl) ?_
  refine m_iload_n hC 0 dX8_init_36 rfl rfl ?_
  refine m_aload_n hC 1 dX8_init_37 rfl rfl ?_
  refine m_getf hC dX8_init_38 kf_X8_20 hM34_0 rfl ?_
  refine m_alenV hC dX8_init_41 kM34 (by decide) ?_
  refine m_icmp_ge (tgt := 64) hC dX8_init_42 (by decide) (by decide) (fun c => absurd c (by decide)) (fun c => ?_)
  refine m_aload_n hC 1 dX8_init_45 rfl rfl ?_
  refine m_getf hC dX8_init_46 kf_X8_20 hM34_0 rfl ?_
  refine m_iload_n hC 0 dX8_init_49 rfl rfl ?_
  refine n_new (a := b + 22) (ci := 5) (fs := [.null, VI 0, .null]) hC dX8_init_50 rfl tyX2_ok inX2 kk_X8_18 kn_X2 ki_X2 (fun j hj => match j, hj with | 0, _ => rfl | 1, _ => rfl | 2, _ => rfl | _ + 3, h => absurd h (by omega)) (Nat.le_of_ble_eq_true rfl) (Nat.le_of_ble_eq_true rfl) (by omega) (fun M35 zM35 hM35 fM35 => ?_)
  have hM35_0 := (fM35 _ (by omega)).trans hM34_0
  have hM35_1 := (fM35 _ (by omega)).trans hM34_1
  have hM35_2 := (fM35 _ (by omega)).trans hM34_2
  have hM35_3 := (fM35 _ (by omega)).trans kM34
  have hM35_4 := (fM35 _ (by omega)).trans hM34_4
  have hM35_5 := (fM35 _ (by omega)).trans hM34_5
  have hM35_6 := (fM35 _ (by omega)).trans hM34_6
  have hM35_7 := (fM35 _ (by omega)).trans hM34_7
  have hM35_8 := (fM35 _ (by omega)).trans hM34_8
  have hM35_9 := (fM35 _ (by omega)).trans hM34_9
  have hM35_10 := (fM35 _ (by omega)).trans hM34_10
  have hM35_11 := (fM35 _ (by omega)).trans hM34_11
  have hM35_12 := (fM35 _ (by omega)).trans hM34_12
  have hM35_13 := (fM35 _ (by omega)).trans hM34_13
  have hM35_14 := (fM35 _ (by omega)).trans hM34_14
  have hM35_15 := (fM35 _ (by omega)).trans hM34_15
  have hM35_16 := (fM35 _ (by omega)).trans hM34_16
  have hM35_17 := (fM35 _ (by omega)).trans hM34_17
  have hM35_18 := (fM35 _ (by omega)).trans hM34_18
  have hM35_19 := (fM35 _ (by omega)).trans hM34_19
  have hM35_20 := (fM35 _ (by omega)).trans hM34_20
  have hM35_21 := (fM35 _ (by omega)).trans hM34_21
  clear zM34
  refine m_dup hC dX8_init_53 rfl ?_
  refine m_callN hC (t_X2_init hF hl hJ (b := b + 22) (by omega) (by omega) hM35) dX8_init_54 kc_X2_init hF.2.2.2.2.2.2 kN_X8_31 rfl rfl (Nat.le_of_ble_eq_true rfl) (by decide) ⟨Nat.le_of_ble_eq_true rfl, Nat.le_of_ble_eq_true rfl⟩ m_nox (fun v9 M36 h9 => ?_)
  obtain ⟨rfl, zM36, gM36, fM36⟩ := h9
  have hM36_0 := (fM36 _ (by omega)).trans hM35_0
  have hM36_1 := (fM36 _ (by omega)).trans hM35_1
  have hM36_2 := (fM36 _ (by omega)).trans hM35_2
  have hM36_3 := (fM36 _ (by omega)).trans hM35_3
  have hM36_4 := (fM36 _ (by omega)).trans hM35_4
  have hM36_5 := (fM36 _ (by omega)).trans hM35_5
  have hM36_6 := (fM36 _ (by omega)).trans hM35_6
  have hM36_7 := (fM36 _ (by omega)).trans hM35_7
  have hM36_8 := (fM36 _ (by omega)).trans hM35_8
  have hM36_9 := (fM36 _ (by omega)).trans hM35_9
  have hM36_10 := (fM36 _ (by omega)).trans hM35_10
  have hM36_11 := (fM36 _ (by omega)).trans hM35_11
  have hM36_12 := (fM36 _ (by omega)).trans hM35_12
  have hM36_13 := (fM36 _ (by omega)).trans hM35_13
  have hM36_14 := (fM36 _ (by omega)).trans hM35_14
  have hM36_15 := (fM36 _ (by omega)).trans hM35_15
  have hM36_16 := (fM36 _ (by omega)).trans hM35_16
  have hM36_17 := (fM36 _ (by omega)).trans hM35_17
  have hM36_18 := (fM36 _ (by omega)).trans hM35_18
  have hM36_19 := (fM36 _ (by omega)).trans hM35_19
  have hM36_20 := (fM36 _ (by omega)).trans hM35_20
  have hM36_21 := (fM36 _ (by omega)).trans hM35_21
  clear zM35
  refine n_aast hC dX8_init_57 hM36_3 (by decide) rfl gM36.1 rfl (by omega) (by decide) (by decide) (fun M37 zM37 hM37 fM37 => ?_)
  replace zM37 := zM37.trans zM36
  clear zM36
  have hM37_0 := (fM37 _ (by omega)).trans hM36_0
  have hM37_1 := (fM37 _ (by omega)).trans hM36_1
  have hM37_2 := (fM37 _ (by omega)).trans hM36_2
  have hM37_4 := (fM37 _ (by omega)).trans hM36_4
  have hM37_5 := (fM37 _ (by omega)).trans hM36_5
  have hM37_6 := (fM37 _ (by omega)).trans hM36_6
  have hM37_7 := (fM37 _ (by omega)).trans hM36_7
  have hM37_8 := (fM37 _ (by omega)).trans hM36_8
  have hM37_9 := (fM37 _ (by omega)).trans hM36_9
  have hM37_10 := (fM37 _ (by omega)).trans hM36_10
  have hM37_11 := (fM37 _ (by omega)).trans hM36_11
  have hM37_12 := (fM37 _ (by omega)).trans hM36_12
  have hM37_13 := (fM37 _ (by omega)).trans hM36_13
  have hM37_14 := (fM37 _ (by omega)).trans hM36_14
  have hM37_15 := (fM37 _ (by omega)).trans hM36_15
  have hM37_16 := (fM37 _ (by omega)).trans hM36_16
  have hM37_17 := (fM37 _ (by omega)).trans hM36_17
  have hM37_18 := (fM37 _ (by omega)).trans hM36_18
  have hM37_19 := (fM37 _ (by omega)).trans hM36_19
  have hM37_20 := (fM37 _ (by omega)).trans hM36_20
  have hM37_21 := (fM37 _ (by omega)).trans hM36_21
  have hM37_22 := (fM37 _ (by omega)).trans gM36.1
  have hM37_23 := (fM37 _ (by omega)).trans gM36.2
  have kM37 : M37.2 (b + 3) = some (m_va 6 12 (c_fi 4 2 b 10)) := hM37.trans (congrArg (fun f => some (m_va 6 12 f)) (c_fi_s (k := 9) (by omega)))
  refine m_iinc hC 0 dX8_init_58 rfl (by decide) rfl ?_
  refine m_goto (tgt := 36) hC dX8_init_61 (by decide) ?_
  refine m_lvs (lv2 := [(1, VI 10), (0, .ref b)]) [0, 1] rfl ?_
  refine m_wd (k := 23) (n := 102) (Nat.le_of_ble_eq_true rfl) (Nat.le_of_ble_eq_true rfl) ?_
  refine m_iload_n hC 0 dX8_init_36 rfl rfl ?_
  refine m_aload_n hC 1 dX8_init_37 rfl rfl ?_
  refine m_getf hC dX8_init_38 kf_X8_20 hM37_0 rfl ?_
  refine m_alenV hC dX8_init_41 kM37 (by decide) ?_
  refine m_icmp_ge (tgt := 64) hC dX8_init_42 (by decide) (by decide) (fun c => absurd c (by decide)) (fun c => ?_)
  refine m_aload_n hC 1 dX8_init_45 rfl rfl ?_
  refine m_getf hC dX8_init_46 kf_X8_20 hM37_0 rfl ?_
  refine m_iload_n hC 0 dX8_init_49 rfl rfl ?_
  refine n_new (a := b + 24) (ci := 5) (fs := [.null, VI 0, .null]) hC dX8_init_50 rfl tyX2_ok inX2 kk_X8_18 kn_X2 ki_X2 (fun j hj => match j, hj with | 0, _ => rfl | 1, _ => rfl | 2, _ => rfl | _ + 3, h => absurd h (by omega)) (Nat.le_of_ble_eq_true rfl) (Nat.le_of_ble_eq_true rfl) (by omega) (fun M38 zM38 hM38 fM38 => ?_)
  have hM38_0 := (fM38 _ (by omega)).trans hM37_0
  have hM38_1 := (fM38 _ (by omega)).trans hM37_1
  have hM38_2 := (fM38 _ (by omega)).trans hM37_2
  have hM38_3 := (fM38 _ (by omega)).trans kM37
  have hM38_4 := (fM38 _ (by omega)).trans hM37_4
  have hM38_5 := (fM38 _ (by omega)).trans hM37_5
  have hM38_6 := (fM38 _ (by omega)).trans hM37_6
  have hM38_7 := (fM38 _ (by omega)).trans hM37_7
  have hM38_8 := (fM38 _ (by omega)).trans hM37_8
  have hM38_9 := (fM38 _ (by omega)).trans hM37_9
  have hM38_10 := (fM38 _ (by omega)).trans hM37_10
  have hM38_11 := (fM38 _ (by omega)).trans hM37_11
  have hM38_12 := (fM38 _ (by omega)).trans hM37_12
  have hM38_13 := (fM38 _ (by omega)).trans hM37_13
  have hM38_14 := (fM38 _ (by omega)).trans hM37_14
  have hM38_15 := (fM38 _ (by omega)).trans hM37_15
  have hM38_16 := (fM38 _ (by omega)).trans hM37_16
  have hM38_17 := (fM38 _ (by omega)).trans hM37_17
  have hM38_18 := (fM38 _ (by omega)).trans hM37_18
  have hM38_19 := (fM38 _ (by omega)).trans hM37_19
  have hM38_20 := (fM38 _ (by omega)).trans hM37_20
  have hM38_21 := (fM38 _ (by omega)).trans hM37_21
  have hM38_22 := (fM38 _ (by omega)).trans hM37_22
  have hM38_23 := (fM38 _ (by omega)).trans hM37_23
  clear zM37
  refine m_dup hC dX8_init_53 rfl ?_
  refine m_callN hC (t_X2_init hF hl hJ (b := b + 24) (by omega) (by omega) hM38) dX8_init_54 kc_X2_init hF.2.2.2.2.2.2 kN_X8_31 rfl rfl (Nat.le_of_ble_eq_true rfl) (by decide) ⟨Nat.le_of_ble_eq_true rfl, Nat.le_of_ble_eq_true rfl⟩ m_nox (fun v9 M39 h9 => ?_)
  obtain ⟨rfl, zM39, gM39, fM39⟩ := h9
  have hM39_0 := (fM39 _ (by omega)).trans hM38_0
  have hM39_1 := (fM39 _ (by omega)).trans hM38_1
  have hM39_2 := (fM39 _ (by omega)).trans hM38_2
  have hM39_3 := (fM39 _ (by omega)).trans hM38_3
  have hM39_4 := (fM39 _ (by omega)).trans hM38_4
  have hM39_5 := (fM39 _ (by omega)).trans hM38_5
  have hM39_6 := (fM39 _ (by omega)).trans hM38_6
  have hM39_7 := (fM39 _ (by omega)).trans hM38_7
  have hM39_8 := (fM39 _ (by omega)).trans hM38_8
  have hM39_9 := (fM39 _ (by omega)).trans hM38_9
  have hM39_10 := (fM39 _ (by omega)).trans hM38_10
  have hM39_11 := (fM39 _ (by omega)).trans hM38_11
  have hM39_12 := (fM39 _ (by omega)).trans hM38_12
  have hM39_13 := (fM39 _ (by omega)).trans hM38_13
  have hM39_14 := (fM39 _ (by omega)).trans hM38_14
  have hM39_15 := (fM39 _ (by omega)).trans hM38_15
  have hM39_16 := (fM39 _ (by omega)).trans hM38_16
  have hM39_17 := (fM39 _ (by omega)).trans hM38_17
  have hM39_18 := (fM39 _ (by omega)).trans hM38_18
  have hM39_19 := (fM39 _ (by omega)).trans hM38_19
  have hM39_20 := (fM39 _ (by omega)).trans hM38_20
  have hM39_21 := (fM39 _ (by omega)).trans hM38_21
  have hM39_22 := (fM39 _ (by omega)).trans hM38_22
  have hM39_23 := (fM39 _ (by omega)).trans hM38_23
  clear zM38
  refine n_aast hC dX8_init_57 hM39_3 (by decide) rfl gM39.1 rfl (by omega) (by decide) (by decide) (fun M40 zM40 hM40 fM40 => ?_)
  replace zM40 := zM40.trans zM39
  clear zM39
  have hM40_0 := (fM40 _ (by omega)).trans hM39_0
  have hM40_1 := (fM40 _ (by omega)).trans hM39_1
  have hM40_2 := (fM40 _ (by omega)).trans hM39_2
  have hM40_4 := (fM40 _ (by omega)).trans hM39_4
  have hM40_5 := (fM40 _ (by omega)).trans hM39_5
  have hM40_6 := (fM40 _ (by omega)).trans hM39_6
  have hM40_7 := (fM40 _ (by omega)).trans hM39_7
  have hM40_8 := (fM40 _ (by omega)).trans hM39_8
  have hM40_9 := (fM40 _ (by omega)).trans hM39_9
  have hM40_10 := (fM40 _ (by omega)).trans hM39_10
  have hM40_11 := (fM40 _ (by omega)).trans hM39_11
  have hM40_12 := (fM40 _ (by omega)).trans hM39_12
  have hM40_13 := (fM40 _ (by omega)).trans hM39_13
  have hM40_14 := (fM40 _ (by omega)).trans hM39_14
  have hM40_15 := (fM40 _ (by omega)).trans hM39_15
  have hM40_16 := (fM40 _ (by omega)).trans hM39_16
  have hM40_17 := (fM40 _ (by omega)).trans hM39_17
  have hM40_18 := (fM40 _ (by omega)).trans hM39_18
  have hM40_19 := (fM40 _ (by omega)).trans hM39_19
  have hM40_20 := (fM40 _ (by omega)).trans hM39_20
  have hM40_21 := (fM40 _ (by omega)).trans hM39_21
  have hM40_22 := (fM40 _ (by omega)).trans hM39_22
  have hM40_23 := (fM40 _ (by omega)).trans hM39_23
  have hM40_24 := (fM40 _ (by omega)).trans gM39.1
  have hM40_25 := (fM40 _ (by omega)).trans gM39.2
  have kM40 : M40.2 (b + 3) = some (m_va 6 12 (c_fi 4 2 b 11)) := hM40.trans (congrArg (fun f => some (m_va 6 12 f)) (c_fi_s (k := 10) (by omega)))
  refine m_iinc hC 0 dX8_init_58 rfl (by decide) rfl ?_
  refine m_goto (tgt := 36) hC dX8_init_61 (by decide) ?_
  refine m_lvs (lv2 := [(1, VI 11), (0, .ref b)]) [0, 1] rfl ?_
  refine m_wd (k := 25) (n := 109) (Nat.le_of_ble_eq_true rfl) (Nat.le_of_ble_eq_true rfl) ?_
  refine m_iload_n hC 0 dX8_init_36 rfl rfl ?_
  refine m_aload_n hC 1 dX8_init_37 rfl rfl ?_
  refine m_getf hC dX8_init_38 kf_X8_20 hM40_0 rfl ?_
  refine m_alenV hC dX8_init_41 kM40 (by decide) ?_
  refine m_icmp_ge (tgt := 64) hC dX8_init_42 (by decide) (by decide) (fun c => absurd c (by decide)) (fun c => ?_)
  refine m_aload_n hC 1 dX8_init_45 rfl rfl ?_
  refine m_getf hC dX8_init_46 kf_X8_20 hM40_0 rfl ?_
  refine m_iload_n hC 0 dX8_init_49 rfl rfl ?_
  refine n_new (a := b + 26) (ci := 5) (fs := [.null, VI 0, .null]) hC dX8_init_50 rfl tyX2_ok inX2 kk_X8_18 kn_X2 ki_X2 (fun j hj => match j, hj with | 0, _ => rfl | 1, _ => rfl | 2, _ => rfl | _ + 3, h => absurd h (by omega)) (Nat.le_of_ble_eq_true rfl) (Nat.le_of_ble_eq_true rfl) (by omega) (fun M41 zM41 hM41 fM41 => ?_)
  have hM41_0 := (fM41 _ (by omega)).trans hM40_0
  have hM41_1 := (fM41 _ (by omega)).trans hM40_1
  have hM41_2 := (fM41 _ (by omega)).trans hM40_2
  have hM41_3 := (fM41 _ (by omega)).trans kM40
  have hM41_4 := (fM41 _ (by omega)).trans hM40_4
  have hM41_5 := (fM41 _ (by omega)).trans hM40_5
  have hM41_6 := (fM41 _ (by omega)).trans hM40_6
  have hM41_7 := (fM41 _ (by omega)).trans hM40_7
  have hM41_8 := (fM41 _ (by omega)).trans hM40_8
  have hM41_9 := (fM41 _ (by omega)).trans hM40_9
  have hM41_10 := (fM41 _ (by omega)).trans hM40_10
  have hM41_11 := (fM41 _ (by omega)).trans hM40_11
  have hM41_12 := (fM41 _ (by omega)).trans hM40_12
  have hM41_13 := (fM41 _ (by omega)).trans hM40_13
  have hM41_14 := (fM41 _ (by omega)).trans hM40_14
  have hM41_15 := (fM41 _ (by omega)).trans hM40_15
  have hM41_16 := (fM41 _ (by omega)).trans hM40_16
  have hM41_17 := (fM41 _ (by omega)).trans hM40_17
  have hM41_18 := (fM41 _ (by omega)).trans hM40_18
  have hM41_19 := (fM41 _ (by omega)).trans hM40_19
  have hM41_20 := (fM41 _ (by omega)).trans hM40_20
  have hM41_21 := (fM41 _ (by omega)).trans hM40_21
  have hM41_22 := (fM41 _ (by omega)).trans hM40_22
  have hM41_23 := (fM41 _ (by omega)).trans hM40_23
  have hM41_24 := (fM41 _ (by omega)).trans hM40_24
  have hM41_25 := (fM41 _ (by omega)).trans hM40_25
  clear zM40
  refine m_dup hC dX8_init_53 rfl ?_
  refine m_callN hC (t_X2_init hF hl hJ (b := b + 26) (by omega) (by omega) hM41) dX8_init_54 kc_X2_init hF.2.2.2.2.2.2 kN_X8_31 rfl rfl (Nat.le_of_ble_eq_true rfl) (by decide) ⟨Nat.le_of_ble_eq_true rfl, Nat.le_of_ble_eq_true rfl⟩ m_nox (fun v9 M42 h9 => ?_)
  obtain ⟨rfl, zM42, gM42, fM42⟩ := h9
  have hM42_0 := (fM42 _ (by omega)).trans hM41_0
  have hM42_1 := (fM42 _ (by omega)).trans hM41_1
  have hM42_2 := (fM42 _ (by omega)).trans hM41_2
  have hM42_3 := (fM42 _ (by omega)).trans hM41_3
  have hM42_4 := (fM42 _ (by omega)).trans hM41_4
  have hM42_5 := (fM42 _ (by omega)).trans hM41_5
  have hM42_6 := (fM42 _ (by omega)).trans hM41_6
  have hM42_7 := (fM42 _ (by omega)).trans hM41_7
  have hM42_8 := (fM42 _ (by omega)).trans hM41_8
  have hM42_9 := (fM42 _ (by omega)).trans hM41_9
  have hM42_10 := (fM42 _ (by omega)).trans hM41_10
  have hM42_11 := (fM42 _ (by omega)).trans hM41_11
  have hM42_12 := (fM42 _ (by omega)).trans hM41_12
  have hM42_13 := (fM42 _ (by omega)).trans hM41_13
  have hM42_14 := (fM42 _ (by omega)).trans hM41_14
  have hM42_15 := (fM42 _ (by omega)).trans hM41_15
  have hM42_16 := (fM42 _ (by omega)).trans hM41_16
  have hM42_17 := (fM42 _ (by omega)).trans hM41_17
  have hM42_18 := (fM42 _ (by omega)).trans hM41_18
  have hM42_19 := (fM42 _ (by omega)).trans hM41_19
  have hM42_20 := (fM42 _ (by omega)).trans hM41_20
  have hM42_21 := (fM42 _ (by omega)).trans hM41_21
  have hM42_22 := (fM42 _ (by omega)).trans hM41_22
  have hM42_23 := (fM42 _ (by omega)).trans hM41_23
  have hM42_24 := (fM42 _ (by omega)).trans hM41_24
  have hM42_25 := (fM42 _ (by omega)).trans hM41_25
  clear zM41
  refine n_aast hC dX8_init_57 hM42_3 (by decide) rfl gM42.1 rfl (by omega) (by decide) (by decide) (fun M43 zM43 hM43 fM43 => ?_)
  replace zM43 := zM43.trans zM42
  clear zM42
  have hM43_0 := (fM43 _ (by omega)).trans hM42_0
  have hM43_1 := (fM43 _ (by omega)).trans hM42_1
  have hM43_2 := (fM43 _ (by omega)).trans hM42_2
  have hM43_4 := (fM43 _ (by omega)).trans hM42_4
  have hM43_5 := (fM43 _ (by omega)).trans hM42_5
  have hM43_6 := (fM43 _ (by omega)).trans hM42_6
  have hM43_7 := (fM43 _ (by omega)).trans hM42_7
  have hM43_8 := (fM43 _ (by omega)).trans hM42_8
  have hM43_9 := (fM43 _ (by omega)).trans hM42_9
  have hM43_10 := (fM43 _ (by omega)).trans hM42_10
  have hM43_11 := (fM43 _ (by omega)).trans hM42_11
  have hM43_12 := (fM43 _ (by omega)).trans hM42_12
  have hM43_13 := (fM43 _ (by omega)).trans hM42_13
  have hM43_14 := (fM43 _ (by omega)).trans hM42_14
  have hM43_15 := (fM43 _ (by omega)).trans hM42_15
  have hM43_16 := (fM43 _ (by omega)).trans hM42_16
  have hM43_17 := (fM43 _ (by omega)).trans hM42_17
  have hM43_18 := (fM43 _ (by omega)).trans hM42_18
  have hM43_19 := (fM43 _ (by omega)).trans hM42_19
  have hM43_20 := (fM43 _ (by omega)).trans hM42_20
  have hM43_21 := (fM43 _ (by omega)).trans hM42_21
  have hM43_22 := (fM43 _ (by omega)).trans hM42_22
  have hM43_23 := (fM43 _ (by omega)).trans hM42_23
  have hM43_24 := (fM43 _ (by omega)).trans hM42_24
  have hM43_25 := (fM43 _ (by omega)).trans hM42_25
  have hM43_26 := (fM43 _ (by omega)).trans gM42.1
  have hM43_27 := (fM43 _ (by omega)).trans gM42.2
  have kM43 : M43.2 (b + 3) = some (m_va 6 12 (c_fi 4 2 b 12)) := hM43.trans (congrArg (fun f => some (m_va 6 12 f)) (c_fi_s (k := 11) (by omega)))
  refine m_iinc hC 0 dX8_init_58 rfl (by decide) rfl ?_
  refine m_goto (tgt := 36) hC dX8_init_61 (by decide) ?_
  refine m_lvs (lv2 := [(1, VI 12), (0, .ref b)]) [0, 1] rfl ?_
  refine m_wd (k := 27) (n := 116) (Nat.le_of_ble_eq_true rfl) (Nat.le_of_ble_eq_true rfl) ?_
  refine m_iload_n hC 0 dX8_init_36 rfl rfl ?_
  refine m_aload_n hC 1 dX8_init_37 rfl rfl ?_
  refine m_getf hC dX8_init_38 kf_X8_20 hM43_0 rfl ?_
  refine m_alenV hC dX8_init_41 kM43 (by decide) ?_
  refine m_icmp_ge (tgt := 64) hC dX8_init_42 (by decide) (by decide) (fun c => ?_) (fun c => absurd c (by decide))
  refine n_norm kM43 (n_va (f2 := fun i => .ref (b + 4 + 2 * i)) (fun j hj => if_pos hj)) (fun M44 zM44 hM44 fM44 => ?_)
  replace zM44 := zM44.trans zM43
  clear zM43
  have hM44_0 := (fM44 _ (by omega)).trans hM43_0
  have hM44_1 := (fM44 _ (by omega)).trans hM43_1
  have hM44_2 := (fM44 _ (by omega)).trans hM43_2
  have hM44_4 := (fM44 _ (by omega)).trans hM43_4
  have hM44_5 := (fM44 _ (by omega)).trans hM43_5
  have hM44_6 := (fM44 _ (by omega)).trans hM43_6
  have hM44_7 := (fM44 _ (by omega)).trans hM43_7
  have hM44_8 := (fM44 _ (by omega)).trans hM43_8
  have hM44_9 := (fM44 _ (by omega)).trans hM43_9
  have hM44_10 := (fM44 _ (by omega)).trans hM43_10
  have hM44_11 := (fM44 _ (by omega)).trans hM43_11
  have hM44_12 := (fM44 _ (by omega)).trans hM43_12
  have hM44_13 := (fM44 _ (by omega)).trans hM43_13
  have hM44_14 := (fM44 _ (by omega)).trans hM43_14
  have hM44_15 := (fM44 _ (by omega)).trans hM43_15
  have hM44_16 := (fM44 _ (by omega)).trans hM43_16
  have hM44_17 := (fM44 _ (by omega)).trans hM43_17
  have hM44_18 := (fM44 _ (by omega)).trans hM43_18
  have hM44_19 := (fM44 _ (by omega)).trans hM43_19
  have hM44_20 := (fM44 _ (by omega)).trans hM43_20
  have hM44_21 := (fM44 _ (by omega)).trans hM43_21
  have hM44_22 := (fM44 _ (by omega)).trans hM43_22
  have hM44_23 := (fM44 _ (by omega)).trans hM43_23
  have hM44_24 := (fM44 _ (by omega)).trans hM43_24
  have hM44_25 := (fM44 _ (by omega)).trans hM43_25
  have hM44_26 := (fM44 _ (by omega)).trans hM43_26
  have hM44_27 := (fM44 _ (by omega)).trans hM43_27
  have hall : ∀ i : Nat, i < 12 → M44.2 (b + 4 + 2 * i) = some (m_ob 5 [.ref (b + 4 + 2 * i + 1), VI 0, .ref (fo 11)]) ∧ M44.2 (b + 4 + 2 * i + 1) = some (m_ia 0 4 (fun _ => 0)) := fun i hi => by
    have hi9 : i = 0 ∨ i = 1 ∨ i = 2 ∨ i = 3 ∨ i = 4 ∨ i = 5 ∨ i = 6 ∨ i = 7 ∨ i = 8 ∨ i = 9 ∨ i = 10 ∨ i = 11 := by omega
    rcases hi9 with rfl | rfl | rfl | rfl | rfl | rfl | rfl | rfl | rfl | rfl | rfl | rfl
    · rw [show b + 4 + 2 * 0 = b + 4 by omega]; exact ⟨hM44_4, hM44_5⟩
    · rw [show b + 4 + 2 * 1 = b + 6 by omega]; exact ⟨hM44_6, hM44_7⟩
    · rw [show b + 4 + 2 * 2 = b + 8 by omega]; exact ⟨hM44_8, hM44_9⟩
    · rw [show b + 4 + 2 * 3 = b + 10 by omega]; exact ⟨hM44_10, hM44_11⟩
    · rw [show b + 4 + 2 * 4 = b + 12 by omega]; exact ⟨hM44_12, hM44_13⟩
    · rw [show b + 4 + 2 * 5 = b + 14 by omega]; exact ⟨hM44_14, hM44_15⟩
    · rw [show b + 4 + 2 * 6 = b + 16 by omega]; exact ⟨hM44_16, hM44_17⟩
    · rw [show b + 4 + 2 * 7 = b + 18 by omega]; exact ⟨hM44_18, hM44_19⟩
    · rw [show b + 4 + 2 * 8 = b + 20 by omega]; exact ⟨hM44_20, hM44_21⟩
    · rw [show b + 4 + 2 * 9 = b + 22 by omega]; exact ⟨hM44_22, hM44_23⟩
    · rw [show b + 4 + 2 * 10 = b + 24 by omega]; exact ⟨hM44_24, hM44_25⟩
    · rw [show b + 4 + 2 * 11 = b + 26 by omega]; exact ⟨hM44_26, hM44_27⟩
  exact m_vret hC dX8_init_64 hr (Nat.le_of_ble_eq_true rfl) (Nat.le_of_ble_eq_true rfl) ⟨rfl, by omega, ⟨⟨hM44_0, hM44_1, hM44_2, hM44⟩, hall⟩, (fun q hq => by rw [fM44 q (by omega)]; rw [fM43 q (by omega)]; rw [fM42 q (by omega)]; rw [fM41 q (by omega)]; rw [fM40 q (by omega)]; rw [fM39 q (by omega)]; rw [fM38 q (by omega)]; rw [fM37 q (by omega)]; rw [fM36 q (by omega)]; rw [fM35 q (by omega)]; rw [fM34 q (by omega)]; rw [fM33 q (by omega)]; rw [fM32 q (by omega)]; rw [fM31 q (by omega)]; rw [fM30 q (by omega)]; rw [fM29 q (by omega)]; rw [fM28 q (by omega)]; rw [fM27 q (by omega)]; rw [fM26 q (by omega)]; rw [fM25 q (by omega)]; rw [fM24 q (by omega)]; rw [fM23 q (by omega)]; rw [fM22 q (by omega)]; rw [fM21 q (by omega)]; rw [fM20 q (by omega)]; rw [fM19 q (by omega)]; rw [fM18 q (by omega)]; rw [fM17 q (by omega)]; rw [fM16 q (by omega)]; rw [fM15 q (by omega)]; rw [fM14 q (by omega)]; rw [fM13 q (by omega)]; rw [fM12 q (by omega)]; rw [fM11 q (by omega)]; rw [fM10 q (by omega)]; rw [fM9 q (by omega)]; rw [fM8 q (by omega)]; rw [fM7 q (by omega)]; rw [fM6 q (by omega)]; rw [fM5 q (by omega)]; rw [fM4 q (by omega)]; rw [fM3 q (by omega)]; rw [fM2 q (by omega)]; rw [fM1 q (by omega)])⟩

