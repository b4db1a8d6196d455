set_option maxHeartbeats 4000000 in
set_option maxRecDepth 100000 in
theorem t_X7_init {D : va_G} {aC : Nat → ClassId} {s0 : State} {l : Launch} (hF : m_F D aC s0) (hl : l.stackTraces = false) {b : Nat} {M : m_M} (hsz : M.1 = b + 1) (hb : s0.heap.size ≤ b) (hM : M.2 b = some (m_ob 9 [.null, .null, .null, .null, VI 0, VI 0, VI 0, VI 0, VI 0, VI 0, VI 0, VI 0])) : m_Met D aC s0 l yX7_init cX7_init 2 none 2 (16) (95) [.ref b] M (fun v M' => v = none ∧ M'.1 = b + 17 ∧ hhP b h_0 M' ∧ (∀ q : Nat, q < b → M'.2 q = M.2 q)) m_nx := by
  refine m_entry (lv := [(0, .ref b)]) (by decide +kernel) (Nat.le_of_ble_eq_true rfl) rfl hF hl ?_
  intro p e s m args below meth c hC hr hno hnm
  change m_C D aC s0 RX7 _ _ _ _ _ _ _ _ _ at hC
  refine m_aload_n hC 0 dX7_init_0 rfl rfl ?_
  refine m_obji hC dX7_init_1 ko_X7_3 ko_inst ko_code (by decide) (by decide) ?_
  refine m_aload_n hC 0 dX7_init_4 rfl rfl ?_
  refine m_bipush hC dX7_init_5 (by decide) ?_
  refine n_newa (a := b + 1) (k := 0) (n := 6) hC dX7_init_7 (by decide) rfl rfl ka_int (fun _ => Iff.rfl) rfl (by decide) (by decide) (Nat.le_of_ble_eq_true rfl) (Nat.le_of_ble_eq_true rfl) (by omega) (fun M1 zM1 hM1 fM1 => ?_)
  have hM1_0 := (fM1 _ (by omega)).trans hM
  clear hsz
  refine n_putF hC dX7_init_9 kf_X7_9 kw_9_0 (hnm.trans rfl) hM1_0 (by omega) (Nat.le_of_ble_eq_true rfl) rfl rfl (fun M2 zM2 hM2 fM2 => ?_)
  change M2.2 _ = some (m_ob 9 [.ref (b + 1), .null, .null, .null, VI 0, VI 0, VI 0, VI 0, VI 0, VI 0, VI 0, VI 0]) at hM2
  replace zM2 := zM2.trans zM1
  clear zM1
  have hM2_1 := (fM2 _ (by omega)).trans hM1
  refine m_aload_n hC 0 dX7_init_12 rfl rfl ?_
  refine n_new (a := b + 2) (ci := 4) (fs := [.null, .null, VI 0]) hC dX7_init_13 rfl tyX1_ok inX1 kk_X7_15 kn_X1 ki_X1 (fun j hj => match j, hj with | 0, _ => rfl | 1, _ => rfl | 2, _ => rfl | _ + 3, h => absurd h (by omega)) (Nat.le_of_ble_eq_true rfl) (Nat.le_of_ble_eq_true rfl) (by omega) (fun M3 zM3 hM3 fM3 => ?_)
  have hM3_0 := (fM3 _ (by omega)).trans hM2
  have hM3_1 := (fM3 _ (by omega)).trans hM2_1
  clear zM2
  refine m_dup hC dX7_init_16 rfl ?_
  refine m_callN hC (t_X1_init hF hl (b := b + 2) (by omega) (by omega) hM3) dX7_init_17 kc_X1_init hF.2.2.2.1 kN_X7_17 rfl rfl (Nat.le_of_ble_eq_true rfl) (by decide) ⟨Nat.le_of_ble_eq_true rfl, Nat.le_of_ble_eq_true rfl⟩ m_nox (fun v9 M4 h9 => ?_)
  obtain ⟨rfl, zM4, gM4, fM4⟩ := h9
  have hM4_0 := (fM4 _ (by omega)).trans hM3_0
  have hM4_1 := (fM4 _ (by omega)).trans hM3_1
  clear zM3
  refine n_putF hC dX7_init_20 kf_X7_18 kw_9_1 (hnm.trans rfl) hM4_0 (by omega) (Nat.le_of_ble_eq_true rfl) rfl rfl (fun M5 zM5 hM5 fM5 => ?_)
  change M5.2 _ = some (m_ob 9 [.ref (b + 1), .ref (b + 2), .null, .null, VI 0, VI 0, VI 0, VI 0, VI 0, VI 0, VI 0, VI 0]) at hM5
  replace zM5 := zM5.trans zM4
  clear zM4
  have hM5_1 := (fM5 _ (by omega)).trans hM4_1
  have hM5_2 := (fM5 _ (by omega)).trans gM4.1
  have hM5_3 := (fM5 _ (by omega)).trans gM4.2.1
  have hM5_4 := (fM5 _ (by omega)).trans gM4.2.2
  refine m_aload_n hC 0 dX7_init_23 rfl rfl ?_
  refine n_new (a := b + 5) (ci := 7) (fs := [.null, .null, .null, .null, .null, VI 0]) hC dX7_init_24 rfl tyX5_ok inX5 kk_X7_22 kn_X5 ki_X5 (fun j hj => match j, hj with | 0, _ => rfl | 1, _ => rfl | 2, _ => rfl | 3, _ => rfl | 4, _ => rfl | 5, _ => rfl | _ + 6, h => absurd h (by omega)) (Nat.le_of_ble_eq_true rfl) (Nat.le_of_ble_eq_true rfl) (by omega) (fun M6 zM6 hM6 fM6 => ?_)
  have hM6_0 := (fM6 _ (by omega)).trans hM5
  have hM6_1 := (fM6 _ (by omega)).trans hM5_1
  have hM6_2 := (fM6 _ (by omega)).trans hM5_2
  have hM6_3 := (fM6 _ (by omega)).trans hM5_3
  have hM6_4 := (fM6 _ (by omega)).trans hM5_4
  clear zM5
  refine m_dup hC dX7_init_27 rfl ?_
  refine m_callN hC (t_X5_init hF hl (b := b + 5) (by omega) (by omega) hM6) dX7_init_28 kc_X5_init hF.2.2.2.2.1 kN_X7_24 rfl rfl (Nat.le_of_ble_eq_true rfl) (by decide) ⟨Nat.le_of_ble_eq_true rfl, Nat.le_of_ble_eq_true rfl⟩ m_nox (fun v9 M7 h9 => ?_)
  obtain ⟨rfl, zM7, gM7, fM7⟩ := h9
  have hM7_0 := (fM7 _ (by omega)).trans hM6_0
  have hM7_1 := (fM7 _ (by omega)).trans hM6_1
  have hM7_2 := (fM7 _ (by omega)).trans hM6_2
  have hM7_3 := (fM7 _ (by omega)).trans hM6_3
  have hM7_4 := (fM7 _ (by omega)).trans hM6_4
  clear zM6
  refine n_putF hC dX7_init_31 kf_X7_25 kw_9_2 (hnm.trans rfl) hM7_0 (by omega) (Nat.le_of_ble_eq_true rfl) rfl rfl (fun M8 zM8 hM8 fM8 => ?_)
  change M8.2 _ = some (m_ob 9 [.ref (b + 1), .ref (b + 2), .ref (b + 5), .null, VI 0, VI 0, VI 0, VI 0, VI 0, VI 0, VI 0, VI 0]) at hM8
  replace zM8 := zM8.trans zM7
  clear zM7
  have hM8_1 := (fM8 _ (by omega)).trans hM7_1
  have hM8_2 := (fM8 _ (by omega)).trans hM7_2
  have hM8_3 := (fM8 _ (by omega)).trans hM7_3
  have hM8_4 := (fM8 _ (by omega)).trans hM7_4
  have hM8_5 := (fM8 _ (by omega)).trans gM7.1
  have hM8_6 := (fM8 _ (by omega)).trans gM7.2.1
  have hM8_7 := (fM8 _ (by omega)).trans gM7.2.2.1
  have hM8_8 := (fM8 _ (by omega)).trans gM7.2.2.2.1
  have hM8_9 := (fM8 _ (by omega)).trans gM7.2.2.2.2.1
  have hM8_10 := (fM8 _ (by omega)).trans gM7.2.2.2.2.2
  refine m_aload_n hC 0 dX7_init_34 rfl rfl ?_
  refine n_new (a := b + 11) (ci := 6) (fs := [.null, .null, .null, .null, .null, VI 0, VI 0]) hC dX7_init_35 rfl tyX3_ok inX3 kk_X7_29 kn_X3 ki_X3 (fun j hj => match j, hj with | 0, _ => rfl | 1, _ => rfl | 2, _ => rfl | 3, _ => rfl | 4, _ => rfl | 5, _ => rfl | 6, _ => rfl | _ + 7, h => absurd h (by omega)) (Nat.le_of_ble_eq_true rfl) (Nat.le_of_ble_eq_true rfl) (by omega) (fun M9 zM9 hM9 fM9 => ?_)
  have hM9_0 := (fM9 _ (by omega)).trans hM8
  have hM9_1 := (fM9 _ (by omega)).trans hM8_1
  have hM9_2 := (fM9 _ (by omega)).trans hM8_2
  have hM9_3 := (fM9 _ (by omega)).trans hM8_3
  have hM9_4 := (fM9 _ (by omega)).trans hM8_4
  have hM9_5 := (fM9 _ (by omega)).trans hM8_5
  have hM9_6 := (fM9 _ (by omega)).trans hM8_6
  have hM9_7 := (fM9 _ (by omega)).trans hM8_7
  have hM9_8 := (fM9 _ (by omega)).trans hM8_8
  have hM9_9 := (fM9 _ (by omega)).trans hM8_9
  have hM9_10 := (fM9 _ (by omega)).trans hM8_10
  clear zM8
  refine m_dup hC dX7_init_38 rfl ?_
  refine m_callN hC (t_X3_init hF hl (b := b + 11) (by omega) (by omega) hM9) dX7_init_39 kc_X3_init hF.2.2.2.2.2.1 kN_X7_31 rfl rfl (Nat.le_of_ble_eq_true rfl) (by decide) ⟨Nat.le_of_ble_eq_true rfl, Nat.le_of_ble_eq_true rfl⟩ m_nox (fun v9 M10 h9 => ?_)
  obtain ⟨rfl, zM10, gM10, fM10⟩ := h9
  have hM10_0 := (fM10 _ (by omega)).trans hM9_0
  have hM10_1 := (fM10 _ (by omega)).trans hM9_1
  have hM10_2 := (fM10 _ (by omega)).trans hM9_2
  have hM10_3 := (fM10 _ (by omega)).trans hM9_3
  have hM10_4 := (fM10 _ (by omega)).trans hM9_4
  have hM10_5 := (fM10 _ (by omega)).trans hM9_5
  have hM10_6 := (fM10 _ (by omega)).trans hM9_6
  have hM10_7 := (fM10 _ (by omega)).trans hM9_7
  have hM10_8 := (fM10 _ (by omega)).trans hM9_8
  have hM10_9 := (fM10 _ (by omega)).trans hM9_9
  have hM10_10 := (fM10 _ (by omega)).trans hM9_10
  clear zM9
  refine n_putF hC dX7_init_42 kf_X7_32 kw_9_3 (hnm.trans rfl) hM10_0 (by omega) (Nat.le_of_ble_eq_true rfl) rfl rfl (fun M11 zM11 hM11 fM11 => ?_)
  change M11.2 _ = some (m_ob 9 [.ref (b + 1), .ref (b + 2), .ref (b + 5), .ref (b + 11), VI 0, VI 0, VI 0, VI 0, VI 0, VI 0, VI 0, VI 0]) at hM11
  replace zM11 := zM11.trans zM10
  clear zM10
  have hM11_1 := (fM11 _ (by omega)).trans hM10_1
  have hM11_2 := (fM11 _ (by omega)).trans hM10_2
  have hM11_3 := (fM11 _ (by omega)).trans hM10_3
  have hM11_4 := (fM11 _ (by omega)).trans hM10_4
  have hM11_5 := (fM11 _ (by omega)).trans hM10_5
  have hM11_6 := (fM11 _ (by omega)).trans hM10_6
  have hM11_7 := (fM11 _ (by omega)).trans hM10_7
  have hM11_8 := (fM11 _ (by omega)).trans hM10_8
  have hM11_9 := (fM11 _ (by omega)).trans hM10_9
  have hM11_10 := (fM11 _ (by omega)).trans hM10_10
  have hM11_11 := (fM11 _ (by omega)).trans gM10.1
  have hM11_12 := (fM11 _ (by omega)).trans gM10.2.1
  have hM11_13 := (fM11 _ (by omega)).trans gM10.2.2.1
  have hM11_14 := (fM11 _ (by omega)).trans gM10.2.2.2.1
  have hM11_15 := (fM11 _ (by omega)).trans gM10.2.2.2.2.1
  have hM11_16 := (fM11 _ (by omega)).trans gM10.2.2.2.2.2
  refine m_aload_n hC 0 dX7_init_45 rfl rfl ?_
  refine m_iconst hC dX7_init_46 ?_
  refine n_putf hC dX7_init_47 kf_X7_36 kw_9_4 hM11 (by omega) (Nat.le_of_ble_eq_true rfl) rfl rfl (fun M12 zM12 hM12 fM12 => ?_)
  change M12.2 _ = some (m_ob 9 [.ref (b + 1), .ref (b + 2), .ref (b + 5), .ref (b + 11), VI 0, VI 0, VI 0, VI 0, VI 0, VI 0, VI 0, VI 0]) at hM12
  replace zM12 := zM12.trans zM11
  clear zM11
  have hM12_1 := (fM12 _ (by omega)).trans hM11_1
  have hM12_2 := (fM12 _ (by omega)).trans hM11_2
  have hM12_3 := (fM12 _ (by omega)).trans hM11_3
  have hM12_4 := (fM12 _ (by omega)).trans hM11_4
  have hM12_5 := (fM12 _ (by omega)).trans hM11_5
  have hM12_6 := (fM12 _ (by omega)).trans hM11_6
  have hM12_7 := (fM12 _ (by omega)).trans hM11_7
  have hM12_8 := (fM12 _ (by omega)).trans hM11_8
  have hM12_9 := (fM12 _ (by omega)).trans hM11_9
  have hM12_10 := (fM12 _ (by omega)).trans hM11_10
  have hM12_11 := (fM12 _ (by omega)).trans hM11_11
  have hM12_12 := (fM12 _ (by omega)).trans hM11_12
  have hM12_13 := (fM12 _ (by omega)).trans hM11_13
  have hM12_14 := (fM12 _ (by omega)).trans hM11_14
  have hM12_15 := (fM12 _ (by omega)).trans hM11_15
  have hM12_16 := (fM12 _ (by omega)).trans hM11_16
  refine m_aload_n hC 0 dX7_init_50 rfl rfl ?_
  refine m_bipush hC dX7_init_51 (by decide) ?_
  refine n_putf hC dX7_init_53 kf_X7_40 kw_9_5 hM12 (by omega) (Nat.le_of_ble_eq_true rfl) rfl rfl (fun M13 zM13 hM13 fM13 => ?_)
  change M13.2 _ = some (m_ob 9 [.ref (b + 1), .ref (b + 2), .ref (b + 5), .ref (b + 11), VI 0, VI 100, VI 0, VI 0, VI 0, VI 0, VI 0, VI 0]) at hM13
  replace zM13 := zM13.trans zM12
  clear zM12
  have hM13_1 := (fM13 _ (by omega)).trans hM12_1
  have hM13_2 := (fM13 _ (by omega)).trans hM12_2
  have hM13_3 := (fM13 _ (by omega)).trans hM12_3
  have hM13_4 := (fM13 _ (by omega)).trans hM12_4
  have hM13_5 := (fM13 _ (by omega)).trans hM12_5
  have hM13_6 := (fM13 _ (by omega)).trans hM12_6
  have hM13_7 := (fM13 _ (by omega)).trans hM12_7
  have hM13_8 := (fM13 _ (by omega)).trans hM12_8
  have hM13_9 := (fM13 _ (by omega)).trans hM12_9
  have hM13_10 := (fM13 _ (by omega)).trans hM12_10
  have hM13_11 := (fM13 _ (by omega)).trans hM12_11
  have hM13_12 := (fM13 _ (by omega)).trans hM12_12
  have hM13_13 := (fM13 _ (by omega)).trans hM12_13
  have hM13_14 := (fM13 _ (by omega)).trans hM12_14
  have hM13_15 := (fM13 _ (by omega)).trans hM12_15
  have hM13_16 := (fM13 _ (by omega)).trans hM12_16
  refine m_aload_n hC 0 dX7_init_56 rfl rfl ?_
  refine m_iconst hC dX7_init_57 ?_
  refine n_putf hC dX7_init_58 kf_X7_43 kw_9_6 hM13 (by omega) (Nat.le_of_ble_eq_true rfl) rfl rfl (fun M14 zM14 hM14 fM14 => ?_)
  change M14.2 _ = some (m_ob 9 [.ref (b + 1), .ref (b + 2), .ref (b + 5), .ref (b + 11), VI 0, VI 100, VI 0, VI 0, VI 0, VI 0, VI 0, VI 0]) at hM14
  replace zM14 := zM14.trans zM13
  clear zM13
  have hM14_1 := (fM14 _ (by omega)).trans hM13_1
  have hM14_2 := (fM14 _ (by omega)).trans hM13_2
  have hM14_3 := (fM14 _ (by omega)).trans hM13_3
  have hM14_4 := (fM14 _ (by omega)).trans hM13_4
  have hM14_5 := (fM14 _ (by omega)).trans hM13_5
  have hM14_6 := (fM14 _ (by omega)).trans hM13_6
  have hM14_7 := (fM14 _ (by omega)).trans hM13_7
  have hM14_8 := (fM14 _ (by omega)).trans hM13_8
  have hM14_9 := (fM14 _ (by omega)).trans hM13_9
  have hM14_10 := (fM14 _ (by omega)).trans hM13_10
  have hM14_11 := (fM14 _ (by omega)).trans hM13_11
  have hM14_12 := (fM14 _ (by omega)).trans hM13_12
  have hM14_13 := (fM14 _ (by omega)).trans hM13_13
  have hM14_14 := (fM14 _ (by omega)).trans hM13_14
  have hM14_15 := (fM14 _ (by omega)).trans hM13_15
  have hM14_16 := (fM14 _ (by omega)).trans hM13_16
  refine m_aload_n hC 0 dX7_init_61 rfl rfl ?_
  refine m_iconst hC dX7_init_62 ?_
  refine n_putf hC dX7_init_63 kf_X7_46 kw_9_7 hM14 (by omega) (Nat.le_of_ble_eq_true rfl) rfl rfl (fun M15 zM15 hM15 fM15 => ?_)
  change M15.2 _ = some (m_ob 9 [.ref (b + 1), .ref (b + 2), .ref (b + 5), .ref (b + 11), VI 0, VI 100, VI 0, VI 0, VI 0, VI 0, VI 0, VI 0]) at hM15
  replace zM15 := zM15.trans zM14
  clear zM14
  have hM15_1 := (fM15 _ (by omega)).trans hM14_1
  have hM15_2 := (fM15 _ (by omega)).trans hM14_2
  have hM15_3 := (fM15 _ (by omega)).trans hM14_3
  have hM15_4 := (fM15 _ (by omega)).trans hM14_4
  have hM15_5 := (fM15 _ (by omega)).trans hM14_5
  have hM15_6 := (fM15 _ (by omega)).trans hM14_6
  have hM15_7 := (fM15 _ (by omega)).trans hM14_7
  have hM15_8 := (fM15 _ (by omega)).trans hM14_8
  have hM15_9 := (fM15 _ (by omega)).trans hM14_9
  have hM15_10 := (fM15 _ (by omega)).trans hM14_10
  have hM15_11 := (fM15 _ (by omega)).trans hM14_11
  have hM15_12 := (fM15 _ (by omega)).trans hM14_12
  have hM15_13 := (fM15 _ (by omega)).trans hM14_13
  have hM15_14 := (fM15 _ (by omega)).trans hM14_14
  have hM15_15 := (fM15 _ (by omega)).trans hM14_15
  have hM15_16 := (fM15 _ (by omega)).trans hM14_16
  refine m_aload_n hC 0 dX7_init_66 rfl rfl ?_
  refine m_iconst hC dX7_init_67 ?_
  refine n_putf hC dX7_init_68 kf_X7_49 kw_9_8 hM15 (by omega) (Nat.le_of_ble_eq_true rfl) rfl rfl (fun M16 zM16 hM16 fM16 => ?_)
  change M16.2 _ = some (m_ob 9 [.ref (b + 1), .ref (b + 2), .ref (b + 5), .ref (b + 11), VI 0, VI 100, VI 0, VI 0, VI 0, VI 0, VI 0, VI 0]) at hM16
  replace zM16 := zM16.trans zM15
  clear zM15
  have hM16_1 := (fM16 _ (by omega)).trans hM15_1
  have hM16_2 := (fM16 _ (by omega)).trans hM15_2
  have hM16_3 := (fM16 _ (by omega)).trans hM15_3
  have hM16_4 := (fM16 _ (by omega)).trans hM15_4
  have hM16_5 := (fM16 _ (by omega)).trans hM15_5
  have hM16_6 := (fM16 _ (by omega)).trans hM15_6
  have hM16_7 := (fM16 _ (by omega)).trans hM15_7
  have hM16_8 := (fM16 _ (by omega)).trans hM15_8
  have hM16_9 := (fM16 _ (by omega)).trans hM15_9
  have hM16_10 := (fM16 _ (by omega)).trans hM15_10
  have hM16_11 := (fM16 _ (by omega)).trans hM15_11
  have hM16_12 := (fM16 _ (by omega)).trans hM15_12
  have hM16_13 := (fM16 _ (by omega)).trans hM15_13
  have hM16_14 := (fM16 _ (by omega)).trans hM15_14
  have hM16_15 := (fM16 _ (by omega)).trans hM15_15
  have hM16_16 := (fM16 _ (by omega)).trans hM15_16
  refine m_aload_n hC 0 dX7_init_71 rfl rfl ?_
  refine m_iconst hC dX7_init_72 ?_
  refine n_putf hC dX7_init_73 kf_X7_52 kw_9_9 hM16 (by omega) (Nat.le_of_ble_eq_true rfl) rfl rfl (fun M17 zM17 hM17 fM17 => ?_)
  change M17.2 _ = some (m_ob 9 [.ref (b + 1), .ref (b + 2), .ref (b + 5), .ref (b + 11), VI 0, VI 100, VI 0, VI 0, VI 0, VI 0, VI 0, VI 0]) at hM17
  replace zM17 := zM17.trans zM16
  clear zM16
  have hM17_1 := (fM17 _ (by omega)).trans hM16_1
  have hM17_2 := (fM17 _ (by omega)).trans hM16_2
  have hM17_3 := (fM17 _ (by omega)).trans hM16_3
  have hM17_4 := (fM17 _ (by omega)).trans hM16_4
  have hM17_5 := (fM17 _ (by omega)).trans hM16_5
  have hM17_6 := (fM17 _ (by omega)).trans hM16_6
  have hM17_7 := (fM17 _ (by omega)).trans hM16_7
  have hM17_8 := (fM17 _ (by omega)).trans hM16_8
  have hM17_9 := (fM17 _ (by omega)).trans hM16_9
  have hM17_10 := (fM17 _ (by omega)).trans hM16_10
  have hM17_11 := (fM17 _ (by omega)).trans hM16_11
  have hM17_12 := (fM17 _ (by omega)).trans hM16_12
  have hM17_13 := (fM17 _ (by omega)).trans hM16_13
  have hM17_14 := (fM17 _ (by omega)).trans hM16_14
  have hM17_15 := (fM17 _ (by omega)).trans hM16_15
  have hM17_16 := (fM17 _ (by omega)).trans hM16_16
  refine m_aload_n hC 0 dX7_init_76 rfl rfl ?_
  refine m_iconst hC dX7_init_77 ?_
  refine n_putf hC dX7_init_78 kf_X7_55 kw_9_10 hM17 (by omega) (Nat.le_of_ble_eq_true rfl) rfl rfl (fun M18 zM18 hM18 fM18 => ?_)
  change M18.2 _ = some (m_ob 9 [.ref (b + 1), .ref (b + 2), .ref (b + 5), .ref (b + 11), VI 0, VI 100, VI 0, VI 0, VI 0, VI 0, VI 0, VI 0]) at hM18
  replace zM18 := zM18.trans zM17
  clear zM17
  have hM18_1 := (fM18 _ (by omega)).trans hM17_1
  have hM18_2 := (fM18 _ (by omega)).trans hM17_2
  have hM18_3 := (fM18 _ (by omega)).trans hM17_3
  have hM18_4 := (fM18 _ (by omega)).trans hM17_4
  have hM18_5 := (fM18 _ (by omega)).trans hM17_5
  have hM18_6 := (fM18 _ (by omega)).trans hM17_6
  have hM18_7 := (fM18 _ (by omega)).trans hM17_7
  have hM18_8 := (fM18 _ (by omega)).trans hM17_8
  have hM18_9 := (fM18 _ (by omega)).trans hM17_9
  have hM18_10 := (fM18 _ (by omega)).trans hM17_10
  have hM18_11 := (fM18 _ (by omega)).trans hM17_11
  have hM18_12 := (fM18 _ (by omega)).trans hM17_12
  have hM18_13 := (fM18 _ (by omega)).trans hM17_13
  have hM18_14 := (fM18 _ (by omega)).trans hM17_14
  have hM18_15 := (fM18 _ (by omega)).trans hM17_15
  have hM18_16 := (fM18 _ (by omega)).trans hM17_16
  refine m_aload_n hC 0 dX7_init_81 rfl rfl ?_
  refine m_iconst hC dX7_init_82 ?_
  refine n_putf hC dX7_init_83 kf_X7_58 kw_9_11 hM18 (by omega) (Nat.le_of_ble_eq_true rfl) rfl rfl (fun M19 zM19 hM19 fM19 => ?_)
  change M19.2 _ = some (m_ob 9 [.ref (b + 1), .ref (b + 2), .ref (b + 5), .ref (b + 11), VI 0, VI 100, VI 0, VI 0, VI 0, VI 0, VI 0, VI 0]) at hM19
  replace zM19 := zM19.trans zM18
  clear zM18
  have hM19_1 := (fM19 _ (by omega)).trans hM18_1
  have hM19_2 := (fM19 _ (by omega)).trans hM18_2
  have hM19_3 := (fM19 _ (by omega)).trans hM18_3
  have hM19_4 := (fM19 _ (by omega)).trans hM18_4
  have hM19_5 := (fM19 _ (by omega)).trans hM18_5
  have hM19_6 := (fM19 _ (by omega)).trans hM18_6
  have hM19_7 := (fM19 _ (by omega)).trans hM18_7
  have hM19_8 := (fM19 _ (by omega)).trans hM18_8
  have hM19_9 := (fM19 _ (by omega)).trans hM18_9
  have hM19_10 := (fM19 _ (by omega)).trans hM18_10
  have hM19_11 := (fM19 _ (by omega)).trans hM18_11
  have hM19_12 := (fM19 _ (by omega)).trans hM18_12
  have hM19_13 := (fM19 _ (by omega)).trans hM18_13
  have hM19_14 := (fM19 _ (by omega)).trans hM18_14
  have hM19_15 := (fM19 _ (by omega)).trans hM18_15
  have hM19_16 := (fM19 _ (by omega)).trans hM18_16
  refine m_iconst hC dX7_init_86 ?_
  refine m_istore_n hC dX7_init_87 rfl (by decide) rfl ?_
  refine m_iload_n hC 0 dX7_init_88 rfl rfl ?_
  refine m_bipush hC dX7_init_89 (by decide) ?_
  refine m_icmp_ge (tgt := 108) hC dX7_init_91 (by decide) (by decide) (fun c => absurd c (by decide)) (fun c => ?_)
  refine m_aload_n hC 1 dX7_init_94 rfl rfl ?_
  refine m_getf hC dX7_init_95 kf_X7_9 hM19 rfl ?_
  refine m_iload_n hC 0 dX7_init_98 rfl rfl ?_
  refine m_bipush hC dX7_init_99 (by decide) ?_
  refine n_iast hC dX7_init_101 hM19_1 (by omega) (by decide) (by decide) (fun M20 zM20 hM20 fM20 => ?_)
  replace zM20 := zM20.trans zM19
  clear zM19
  have hM20_0 := (fM20 _ (by omega)).trans hM19
  have hM20_2 := (fM20 _ (by omega)).trans hM19_2
  have hM20_3 := (fM20 _ (by omega)).trans hM19_3
  have hM20_4 := (fM20 _ (by omega)).trans hM19_4
  have hM20_5 := (fM20 _ (by omega)).trans hM19_5
  have hM20_6 := (fM20 _ (by omega)).trans hM19_6
  have hM20_7 := (fM20 _ (by omega)).trans hM19_7
  have hM20_8 := (fM20 _ (by omega)).trans hM19_8
  have hM20_9 := (fM20 _ (by omega)).trans hM19_9
  have hM20_10 := (fM20 _ (by omega)).trans hM19_10
  have hM20_11 := (fM20 _ (by omega)).trans hM19_11
  have hM20_12 := (fM20 _ (by omega)).trans hM19_12
  have hM20_13 := (fM20 _ (by omega)).trans hM19_13
  have hM20_14 := (fM20 _ (by omega)).trans hM19_14
  have hM20_15 := (fM20 _ (by omega)).trans hM19_15
  have hM20_16 := (fM20 _ (by omega)).trans hM19_16
  refine m_iinc hC 0 dX7_init_102 rfl (by decide) rfl ?_
  refine m_goto (tgt := 88) hC dX7_init_105 (by decide) ?_
  refine m_lvs (lv2 := [(1, VI 1), (0, .ref b)]) [0, 1] rfl ?_
  refine m_wd (k := 16) (n := 95) (Nat.le_of_ble_eq_true rfl) (Nat.le_of_ble_eq_true rfl) ?_
  refine m_iload_n hC 0 dX7_init_88 rfl rfl ?_
  refine m_bipush hC dX7_init_89 (by decide) ?_
  refine m_icmp_ge (tgt := 108) hC dX7_init_91 (by decide) (by decide) (fun c => absurd c (by decide)) (fun c => ?_)
  refine m_aload_n hC 1 dX7_init_94 rfl rfl ?_
  refine m_getf hC dX7_init_95 kf_X7_9 hM20_0 rfl ?_
  refine m_iload_n hC 0 dX7_init_98 rfl rfl ?_
  refine m_bipush hC dX7_init_99 (by decide) ?_
  refine n_iast hC dX7_init_101 hM20 (by omega) (by decide) (by decide) (fun M21 zM21 hM21 fM21 => ?_)
  replace zM21 := zM21.trans zM20
  clear zM20
  have hM21_0 := (fM21 _ (by omega)).trans hM20_0
  have hM21_2 := (fM21 _ (by omega)).trans hM20_2
  have hM21_3 := (fM21 _ (by omega)).trans hM20_3
  have hM21_4 := (fM21 _ (by omega)).trans hM20_4
  have hM21_5 := (fM21 _ (by omega)).trans hM20_5
  have hM21_6 := (fM21 _ (by omega)).trans hM20_6
  have hM21_7 := (fM21 _ (by omega)).trans hM20_7
  have hM21_8 := (fM21 _ (by omega)).trans hM20_8
  have hM21_9 := (fM21 _ (by omega)).trans hM20_9
  have hM21_10 := (fM21 _ (by omega)).trans hM20_10
  have hM21_11 := (fM21 _ (by omega)).trans hM20_11
  have hM21_12 := (fM21 _ (by omega)).trans hM20_12
  have hM21_13 := (fM21 _ (by omega)).trans hM20_13
  have hM21_14 := (fM21 _ (by omega)).trans hM20_14
  have hM21_15 := (fM21 _ (by omega)).trans hM20_15
  have hM21_16 := (fM21 _ (by omega)).trans hM20_16
  refine m_iinc hC 0 dX7_init_102 rfl (by decide) rfl ?_
  refine m_goto (tgt := 88) hC dX7_init_105 (by decide) ?_
  refine m_lvs (lv2 := [(1, VI 2), (0, .ref b)]) [0, 1] rfl ?_
  refine m_wd (k := 16) (n := 95) (Nat.le_of_ble_eq_true rfl) (Nat.le_of_ble_eq_true rfl) ?_
  refine m_iload_n hC 0 dX7_init_88 rfl rfl ?_
  refine m_bipush hC dX7_init_89 (by decide) ?_
  refine m_icmp_ge (tgt := 108) hC dX7_init_91 (by decide) (by decide) (fun c => absurd c (by decide)) (fun c => ?_)
  refine m_aload_n hC 1 dX7_init_94 rfl rfl ?_
  refine m_getf hC dX7_init_95 kf_X7_9 hM21_0 rfl ?_
  refine m_iload_n hC 0 dX7_init_98 rfl rfl ?_
  refine m_bipush hC dX7_init_99 (by decide) ?_
  refine n_iast hC dX7_init_101 hM21 (by omega) (by decide) (by decide) (fun M22 zM22 hM22 fM22 => ?_)
  replace zM22 := zM22.trans zM21
  clear zM21
  have hM22_0 := (fM22 _ (by omega)).trans hM21_0
  have hM22_2 := (fM22 _ (by omega)).trans hM21_2
  have hM22_3 := (fM22 _ (by omega)).trans hM21_3
  have hM22_4 := (fM22 _ (by omega)).trans hM21_4
  have hM22_5 := (fM22 _ (by omega)).trans hM21_5
  have hM22_6 := (fM22 _ (by omega)).trans hM21_6
  have hM22_7 := (fM22 _ (by omega)).trans hM21_7
  have hM22_8 := (fM22 _ (by omega)).trans hM21_8
  have hM22_9 := (fM22 _ (by omega)).trans hM21_9
  have hM22_10 := (fM22 _ (by omega)).trans hM21_10
  have hM22_11 := (fM22 _ (by omega)).trans hM21_11
  have hM22_12 := (fM22 _ (by omega)).trans hM21_12
  have hM22_13 := (fM22 _ (by omega)).trans hM21_13
  have hM22_14 := (fM22 _ (by omega)).trans hM21_14
  have hM22_15 := (fM22 _ (by omega)).trans hM21_15
  have hM22_16 := (fM22 _ (by omega)).trans hM21_16
  refine m_iinc hC 0 dX7_init_102 rfl (by decide) rfl ?_
  refine m_goto (tgt := 88) hC dX7_init_105 (by decide) ?_
  refine m_lvs (lv2 := [(1, VI 3), (0, .ref b)]) [0, 1] rfl ?_
  refine m_wd (k := 16) (n := 95) (Nat.le_of_ble_eq_true rfl) (Nat.le_of_ble_eq_true rfl) ?_
  refine m_iload_n hC 0 dX7_init_88 rfl rfl ?_
  refine m_bipush hC dX7_init_89 (by decide) ?_
  refine m_icmp_ge (tgt := 108) hC dX7_init_91 (by decide) (by decide) (fun c => absurd c (by decide)) (fun c => ?_)
  refine m_aload_n hC 1 dX7_init_94 rfl rfl ?_
  refine m_getf hC dX7_init_95 kf_X7_9 hM22_0 rfl ?_
  refine m_iload_n hC 0 dX7_init_98 rfl rfl ?_
  refine m_bipush hC dX7_init_99 (by decide) ?_
  refine n_iast hC dX7_init_101 hM22 (by omega) (by decide) (by decide) (fun M23 zM23 hM23 fM23 => ?_)
  replace zM23 := zM23.trans zM22
  clear zM22
  have hM23_0 := (fM23 _ (by omega)).trans hM22_0
  have hM23_2 := (fM23 _ (by omega)).trans hM22_2
  have hM23_3 := (fM23 _ (by omega)).trans hM22_3
  have hM23_4 := (fM23 _ (by omega)).trans hM22_4
  have hM23_5 := (fM23 _ (by omega)).trans hM22_5
  have hM23_6 := (fM23 _ (by omega)).trans hM22_6
  have hM23_7 := (fM23 _ (by omega)).trans hM22_7
  have hM23_8 := (fM23 _ (by omega)).trans hM22_8
  have hM23_9 := (fM23 _ (by omega)).trans hM22_9
  have hM23_10 := (fM23 _ (by omega)).trans hM22_10
  have hM23_11 := (fM23 _ (by omega)).trans hM22_11
  have hM23_12 := (fM23 _ (by omega)).trans hM22_12
  have hM23_13 := (fM23 _ (by omega)).trans hM22_13
  have hM23_14 := (fM23 _ (by omega)).trans hM22_14
  have hM23_15 := (fM23 _ (by omega)).trans hM22_15
  have hM23_16 := (fM23 _ (by omega)).trans hM22_16
  refine m_iinc hC 0 dX7_init_102 rfl (by decide) rfl ?_
  refine m_goto (tgt := 88) hC dX7_init_105 (by decide) ?_
  refine m_lvs (lv2 := [(1, VI 4), (0, .ref b)]) [0, 1] rfl ?_
  refine m_wd (k := 16) (n := 95) (Nat.le_of_ble_eq_true rfl) (Nat.le_of_ble_eq_true rfl) ?_
  refine m_iload_n hC 0 dX7_init_88 rfl rfl ?_
  refine m_bipush hC dX7_init_89 (by decide) ?_
  refine m_icmp_ge (tgt := 108) hC dX7_init_91 (by decide) (by decide) (fun c => absurd c (by decide)) (fun c => ?_)
  refine m_aload_n hC 1 dX7_init_94 rfl rfl ?_
  refine m_getf hC dX7_init_95 kf_X7_9 hM23_0 rfl ?_
  refine m_iload_n hC 0 dX7_init_98 rfl rfl ?_
  refine m_bipush hC dX7_init_99 (by decide) ?_
  refine n_iast hC dX7_init_101 hM23 (by omega) (by decide) (by decide) (fun M24 zM24 hM24 fM24 => ?_)
  replace zM24 := zM24.trans zM23
  clear zM23
  have hM24_0 := (fM24 _ (by omega)).trans hM23_0
  have hM24_2 := (fM24 _ (by omega)).trans hM23_2
  have hM24_3 := (fM24 _ (by omega)).trans hM23_3
  have hM24_4 := (fM24 _ (by omega)).trans hM23_4
  have hM24_5 := (fM24 _ (by omega)).trans hM23_5
  have hM24_6 := (fM24 _ (by omega)).trans hM23_6
  have hM24_7 := (fM24 _ (by omega)).trans hM23_7
  have hM24_8 := (fM24 _ (by omega)).trans hM23_8
  have hM24_9 := (fM24 _ (by omega)).trans hM23_9
  have hM24_10 := (fM24 _ (by omega)).trans hM23_10
  have hM24_11 := (fM24 _ (by omega)).trans hM23_11
  have hM24_12 := (fM24 _ (by omega)).trans hM23_12
  have hM24_13 := (fM24 _ (by omega)).trans hM23_13
  have hM24_14 := (fM24 _ (by omega)).trans hM23_14
  have hM24_15 := (fM24 _ (by omega)).trans hM23_15
  have hM24_16 := (fM24 _ (by omega)).trans hM23_16
  refine m_iinc hC 0 dX7_init_102 rfl (by decide) rfl ?_
  refine m_goto (tgt := 88) hC dX7_init_105 (by decide) ?_
  refine m_lvs (lv2 := [(1, VI 5), (0, .ref b)]) [0, 1] rfl ?_
  refine m_wd (k := 16) (n := 95) (Nat.le_of_ble_eq_true rfl) (Nat.le_of_ble_eq_true rfl) ?_
  refine m_iload_n hC 0 dX7_init_88 rfl rfl ?_
  refine m_bipush hC dX7_init_89 (by decide) ?_
  refine m_icmp_ge (tgt := 108) hC dX7_init_91 (by decide) (by decide) (fun c => absurd c (by decide)) (fun c => ?_)
  refine m_aload_n hC 1 dX7_init_94 rfl rfl ?_
  refine m_getf hC dX7_init_95 kf_X7_9 hM24_0 rfl ?_
  refine m_iload_n hC 0 dX7_init_98 rfl rfl ?_
  refine m_bipush hC dX7_init_99 (by decide) ?_
  refine n_iast hC dX7_init_101 hM24 (by omega) (by decide) (by decide) (fun M25 zM25 hM25 fM25 => ?_)
  replace zM25 := zM25.trans zM24
  clear zM24
  have hM25_0 := (fM25 _ (by omega)).trans hM24_0
  have hM25_2 := (fM25 _ (by omega)).trans hM24_2
  have hM25_3 := (fM25 _ (by omega)).trans hM24_3
  have hM25_4 := (fM25 _ (by omega)).trans hM24_4
  have hM25_5 := (fM25 _ (by omega)).trans hM24_5
  have hM25_6 := (fM25 _ (by omega)).trans hM24_6
  have hM25_7 := (fM25 _ (by omega)).trans hM24_7
  have hM25_8 := (fM25 _ (by omega)).trans hM24_8
  have hM25_9 := (fM25 _ (by omega)).trans hM24_9
  have hM25_10 := (fM25 _ (by omega)).trans hM24_10
  have hM25_11 := (fM25 _ (by omega)).trans hM24_11
  have hM25_12 := (fM25 _ (by omega)).trans hM24_12
  have hM25_13 := (fM25 _ (by omega)).trans hM24_13
  have hM25_14 := (fM25 _ (by omega)).trans hM24_14
  have hM25_15 := (fM25 _ (by omega)).trans hM24_15
  have hM25_16 := (fM25 _ (by omega)).trans hM24_16
  refine m_iinc hC 0 dX7_init_102 rfl (by decide) rfl ?_
  refine m_goto (tgt := 88) hC dX7_init_105 (by decide) ?_
  refine m_lvs (lv2 := [(1, VI 6), (0, .ref b)]) [0, 1] rfl ?_
  refine m_wd (k := 16) (n := 95) (Nat.le_of_ble_eq_true rfl) (Nat.le_of_ble_eq_true rfl) ?_
  refine m_iload_n hC 0 dX7_init_88 rfl rfl ?_
  refine m_bipush hC dX7_init_89 (by decide) ?_
  refine m_icmp_ge (tgt := 108) hC dX7_init_91 (by decide) (by decide) (fun c => ?_) (fun c => absurd c (by decide))
  refine n_norm hM25 (n_ia (g2 := h_0 1) (fun j hj => by have hj9 : j = 0 ∨ j = 1 ∨ j = 2 ∨ j = 3 ∨ j = 4 ∨ j = 5 := (by omega); rcases hj9 with rfl | rfl | rfl | rfl | rfl | rfl <;> rfl)) (fun M26 zM26 hM26 fM26 => ?_)
  replace zM26 := zM26.trans zM25
  clear zM25
  have hM26_0 := (fM26 _ (by omega)).trans hM25_0
  have hM26_2 := (fM26 _ (by omega)).trans hM25_2
  have hM26_3 := (fM26 _ (by omega)).trans hM25_3
  have hM26_4 := (fM26 _ (by omega)).trans hM25_4
  have hM26_5 := (fM26 _ (by omega)).trans hM25_5
  have hM26_6 := (fM26 _ (by omega)).trans hM25_6
  have hM26_7 := (fM26 _ (by omega)).trans hM25_7
  have hM26_8 := (fM26 _ (by omega)).trans hM25_8
  have hM26_9 := (fM26 _ (by omega)).trans hM25_9
  have hM26_10 := (fM26 _ (by omega)).trans hM25_10
  have hM26_11 := (fM26 _ (by omega)).trans hM25_11
  have hM26_12 := (fM26 _ (by omega)).trans hM25_12
  have hM26_13 := (fM26 _ (by omega)).trans hM25_13
  have hM26_14 := (fM26 _ (by omega)).trans hM25_14
  have hM26_15 := (fM26 _ (by omega)).trans hM25_15
  have hM26_16 := (fM26 _ (by omega)).trans hM25_16
  exact m_vret hC dX7_init_108 hr (Nat.le_of_ble_eq_true rfl) (Nat.le_of_ble_eq_true rfl) ⟨rfl, by omega, ⟨hM26_0, hM26, ⟨hM26_2, hM26_3, hM26_4⟩, ⟨hM26_5, hM26_6, hM26_7, hM26_8, hM26_9, hM26_10⟩, ⟨hM26_11, hM26_12, hM26_13, hM26_14, hM26_15, hM26_16⟩⟩, (fun q hq => by rw [fM26 q (by omega)]; rw [fM25 q (by omega)]; rw [fM24 q (by omega)]; rw [fM23 q (by omega)]; rw [fM22 q (by omega)]; rw [fM21 q (by omega)]; rw [fM20 q (by omega)]; rw [fM19 q (by omega)]; rw [fM18 q (by omega)]; rw [fM17 q (by omega)]; rw [fM16 q (by omega)]; rw [fM15 q (by omega)]; rw [fM14 q (by omega)]; rw [fM13 q (by omega)]; rw [fM12 q (by omega)]; rw [fM11 q (by omega)]; rw [fM10 q (by omega)]; rw [fM9 q (by omega)]; rw [fM8 q (by omega)]; rw [fM7 q (by omega)]; rw [fM6 q (by omega)]; rw [fM5 q (by omega)]; rw [fM4 q (by omega)]; rw [fM3 q (by omega)]; rw [fM2 q (by omega)]; rw [fM1 q (by omega)])⟩

theorem h_0_bit : h_bit h_0 := fun i => ⟨Or.inl rfl, Or.inl rfl⟩
theorem hhP.hhR0 {b : Nat} {M : m_M} (h : hhP b h_0 M) : hhR b h_0 M := ⟨h_0, h, h_eq.rf, h_0_bit⟩

