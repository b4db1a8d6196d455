def g_q0 : Int → Int := fun j => if j < 2 then 0 else -1
theorem sbT.nil {z0 a : Nat} {M : m_M} (h1 : M.2 a = some (m_ob 1 [.ref (a + 1), VI 0, VI 0, VI 0])) (h2 : M.2 (a + 1) = some (m_ia 2 16 (fun _ => 0))) (ha : z0 ≤ a) (hs : a + 1 < M.1) : sbT z0 a (a + 1) 16 [] M :=
  ⟨0, fun _ => 0, ⟨h1, h2⟩, fun i hi => absurd hi (Nat.not_lt_zero _), fun _ => ⟨Int.le_refl _, (by decide : (0 : Int) < 128)⟩, ⟨by omega, hs, by omega, ha, by omega⟩, by decide⟩

set_option maxHeartbeats 4000000 in
set_option maxRecDepth 100000 in
theorem t_X9_init {D : va_G} {aC : Nat → ClassId} {s0 : State} {l : Launch} (hF : m_F D aC s0) (hl : l.stackTraces = false) {fo ks vs : Nat → Nat} {fA sA dO dT : Nat} (hJ : m_J s0 fo ks vs fA sA dO dT) (hAO : m_AO s0) {b : Nat} {M : m_M} (hsz : M.1 = b + 1) (hb : s0.heap.size ≤ b) (hM : M.2 b = some (m_ob 11 [.null, .null, .null, .null, .null, .null, .null, VI 0, VI 0, VI 0])) : m_Met D aC s0 l yX9_init cX9_init 1 none 5 (237) (1520) [.ref b] M (fun v M' => v = none ∧ M'.1 = b + 238 ∧ (∀ (w : Nat) (M2 : m_M), b + 238 ≤ w → w ≤ M2.1 → (∀ q : Nat, b ≤ q → q < b + 238 → M2.2 q = M'.2 q) → ghP s0.heap.size fo b w h_0 h_0 (fun _ => h_0) g_q0 [] [] M2) ∧ (∀ q : Nat, q < b → M'.2 q = M.2 q)) m_nx := by
  refine m_entry (lv := [(0, .ref b)]) (by decide +kernel) (Nat.le_of_ble_eq_true rfl) rfl hF hl ?_
  intro p e s m args below meth c hC hr hno hnm
  change m_C D aC s0 RX9 _ _ _ _ _ _ _ _ _ at hC
  refine m_aload_n hC 0 dX9_init_0 rfl rfl ?_
  refine m_obji hC dX9_init_1 ko_X9_3 ko_inst ko_code (by decide) (by decide) ?_
  refine m_aload_n hC 0 dX9_init_4 rfl rfl ?_
  refine n_new (a := b + 1) (ci := 9) (fs := [.null, .null, .null, .null, VI 0, VI 0, VI 0, VI 0, VI 0, VI 0, VI 0, VI 0]) hC dX9_init_5 rfl tyX7_ok inX7 kk_X9_9 kn_X7 ki_X7 (fun j hj => match j, hj with | 0, _ => rfl | 1, _ => rfl | 2, _ => rfl | 3, _ => rfl | 4, _ => rfl | 5, _ => rfl | 6, _ => rfl | 7, _ => rfl | 8, _ => rfl | 9, _ => rfl | 10, _ => rfl | 11, _ => rfl | _ + 12, h => absurd h (by omega)) (Nat.le_of_ble_eq_true rfl) (Nat.le_of_ble_eq_true rfl) (by omega) (fun M1 zM1 hM1 fM1 => ?_)
  have hM1_0 := (fM1 _ (by omega)).trans hM
  clear hsz
  refine m_dup hC dX9_init_8 rfl ?_
  refine m_callI hC (t_X7_init hF hl (b := b + 1) (by omega) (by omega) hM1) dX9_init_9 kc_X7_init kI_X9_11 rfl rfl (Nat.le_of_ble_eq_true rfl) (by decide) ⟨Nat.le_of_ble_eq_true rfl, Nat.le_of_ble_eq_true rfl⟩ m_nox (fun v9 M2 h9 => ?_)
  obtain ⟨rfl, zM2, gM2, fM2⟩ := h9
  have hM2_0 := (fM2 _ (by omega)).trans hM1_0
  clear zM1
  refine n_putF hC dX9_init_12 kf_X9_12 kw_11_0 (hnm.trans rfl) hM2_0 (by omega) (Nat.le_of_ble_eq_true rfl) rfl rfl (fun M3 zM3 hM3 fM3 => ?_)
  change M3.2 _ = some (m_ob 11 [.ref (b + 1), .null, .null, .null, .null, .null, .null, VI 0, VI 0, VI 0]) at hM3
  replace zM3 := zM3.trans zM2
  clear zM2
  have hM3_1 := (fM3 _ (by omega)).trans gM2.1
  refine m_aload_n hC 0 dX9_init_15 rfl rfl ?_
  refine n_new (a := b + 18) (ci := 9) (fs := [.null, .null, .null, .null, VI 0, VI 0, VI 0, VI 0, VI 0, VI 0, VI 0, VI 0]) hC dX9_init_16 rfl tyX7_ok inX7 kk_X9_9 kn_X7 ki_X7 (fun j hj => match j, hj with | 0, _ => rfl | 1, _ => rfl | 2, _ => rfl | 3, _ => rfl | 4, _ => rfl | 5, _ => rfl | 6, _ => rfl | 7, _ => rfl | 8, _ => rfl | 9, _ => rfl | 10, _ => rfl | 11, _ => rfl | _ + 12, h => absurd h (by omega)) (Nat.le_of_ble_eq_true rfl) (Nat.le_of_ble_eq_true rfl) (by omega) (fun M4 zM4 hM4 fM4 => ?_)
  have hM4_0 := (fM4 _ (by omega)).trans hM3
  have hM4_1 := (fM4 _ (by omega)).trans hM3_1
  clear zM3
  refine m_dup hC dX9_init_19 rfl ?_
  refine m_callI hC (t_X7_init hF hl (b := b + 18) (by omega) (by omega) hM4) dX9_init_20 kc_X7_init kI_X9_11 rfl rfl (Nat.le_of_ble_eq_true rfl) (by decide) ⟨Nat.le_of_ble_eq_true rfl, Nat.le_of_ble_eq_true rfl⟩ m_nox (fun v9 M5 h9 => ?_)
  obtain ⟨rfl, zM5, gM5, fM5⟩ := h9
  have hM5_0 := (fM5 _ (by omega)).trans hM4_0
  have hM5_1 := (fM5 _ (by omega)).trans hM4_1
  clear zM4
  refine n_putF hC dX9_init_23 kf_X9_16 kw_11_1 (hnm.trans rfl) hM5_0 (by omega) (Nat.le_of_ble_eq_true rfl) rfl rfl (fun M6 zM6 hM6 fM6 => ?_)
  change M6.2 _ = some (m_ob 11 [.ref (b + 1), .ref (b + 18), .null, .null, .null, .null, .null, VI 0, VI 0, VI 0]) at hM6
  replace zM6 := zM6.trans zM5
  clear zM5
  have hM6_1 := (fM6 _ (by omega)).trans hM5_1
  have hM6_18 := (fM6 _ (by omega)).trans gM5.1
  refine m_aload_n hC 0 dX9_init_26 rfl rfl ?_
  refine n_new (a := b + 35) (ci := 9) (fs := [.null, .null, .null, .null, VI 0, VI 0, VI 0, VI 0, VI 0, VI 0, VI 0, VI 0]) hC dX9_init_27 rfl tyX7_ok inX7 kk_X9_9 kn_X7 ki_X7 (fun j hj => match j, hj with | 0, _ => rfl | 1, _ => rfl | 2, _ => rfl | 3, _ => rfl | 4, _ => rfl | 5, _ => rfl | 6, _ => rfl | 7, _ => rfl | 8, _ => rfl | 9, _ => rfl | 10, _ => rfl | 11, _ => rfl | _ + 12, h => absurd h (by omega)) (Nat.le_of_ble_eq_true rfl) (Nat.le_of_ble_eq_true rfl) (by omega) (fun M7 zM7 hM7 fM7 => ?_)
  have hM7_0 := (fM7 _ (by omega)).trans hM6
  have hM7_1 := (fM7 _ (by omega)).trans hM6_1
  have hM7_18 := (fM7 _ (by omega)).trans hM6_18
  clear zM6
  refine m_dup hC dX9_init_30 rfl ?_
  refine m_callI hC (t_X7_init hF hl (b := b + 35) (by omega) (by omega) hM7) dX9_init_31 kc_X7_init kI_X9_11 rfl rfl (Nat.le_of_ble_eq_true rfl) (by decide) ⟨Nat.le_of_ble_eq_true rfl, Nat.le_of_ble_eq_true rfl⟩ m_nox (fun v9 M8 h9 => ?_)
  obtain ⟨rfl, zM8, gM8, fM8⟩ := h9
  have hM8_0 := (fM8 _ (by omega)).trans hM7_0
  have hM8_1 := (fM8 _ (by omega)).trans hM7_1
  have hM8_18 := (fM8 _ (by omega)).trans hM7_18
  clear zM7
  refine n_putF hC dX9_init_34 kf_X9_19 kw_11_2 (hnm.trans rfl) hM8_0 (by omega) (Nat.le_of_ble_eq_true rfl) rfl rfl (fun M9 zM9 hM9 fM9 => ?_)
  change M9.2 _ = some (m_ob 11 [.ref (b + 1), .ref (b + 18), .ref (b + 35), .null, .null, .null, .null, VI 0, VI 0, VI 0]) at hM9
  replace zM9 := zM9.trans zM8
  clear zM8
  have hM9_1 := (fM9 _ (by omega)).trans hM8_1
  have hM9_18 := (fM9 _ (by omega)).trans hM8_18
  have hM9_35 := (fM9 _ (by omega)).trans gM8.1
  refine m_aload_n hC 0 dX9_init_37 rfl rfl ?_
  refine n_new (a := b + 52) (ci := 8) (fs := [.null, VI 0]) hC dX9_init_38 rfl tyX6_ok inX6 kk_X9_22 kn_X6 ki_X6 (fun j hj => match j, hj with | 0, _ => rfl | 1, _ => rfl | _ + 2, h => absurd h (by omega)) (Nat.le_of_ble_eq_true rfl) (Nat.le_of_ble_eq_true rfl) (by omega) (fun M10 zM10 hM10 fM10 => ?_)
  have hM10_0 := (fM10 _ (by omega)).trans hM9
  have hM10_1 := (fM10 _ (by omega)).trans hM9_1
  have hM10_18 := (fM10 _ (by omega)).trans hM9_18
  have hM10_35 := (fM10 _ (by omega)).trans hM9_35
  clear zM9
  refine m_dup hC dX9_init_41 rfl ?_
  refine m_callI hC (t_X6_init hF hl hAO (b := b + 52) (by omega) (by omega) hM10) dX9_init_42 kc_X6_init kI_X9_24 rfl rfl (Nat.le_of_ble_eq_true rfl) (by decide) ⟨Nat.le_of_ble_eq_true rfl, Nat.le_of_ble_eq_true rfl⟩ m_nox (fun v9 M11 h9 => ?_)
  obtain ⟨rfl, zM11, gM11, fM11⟩ := h9
  have hM11_0 := (fM11 _ (by omega)).trans hM10_0
  have hM11_1 := (fM11 _ (by omega)).trans hM10_1
  have hM11_18 := (fM11 _ (by omega)).trans hM10_18
  have hM11_35 := (fM11 _ (by omega)).trans hM10_35
  clear zM10
  refine n_putF hC dX9_init_45 kf_X9_25 kw_11_3 (hnm.trans rfl) hM11_0 (by omega) (Nat.le_of_ble_eq_true rfl) rfl rfl (fun M12 zM12 hM12 fM12 => ?_)
  change M12.2 _ = some (m_ob 11 [.ref (b + 1), .ref (b + 18), .ref (b + 35), .ref (b + 52), .null, .null, .null, VI 0, VI 0, VI 0]) at hM12
  replace zM12 := zM12.trans zM11
  clear zM11
  have hM12_1 := (fM12 _ (by omega)).trans hM11_1
  have hM12_18 := (fM12 _ (by omega)).trans hM11_18
  have hM12_35 := (fM12 _ (by omega)).trans hM11_35
  have hM12_52 := (fM12 _ (by omega)).trans gM11.1.1
  refine m_aload_n hC 0 dX9_init_48 rfl rfl ?_
  refine n_new (a := b + 207) (ci := 10) (fs := [.null, .null, VI 0, VI 0]) hC dX9_init_49 rfl tyX8_ok inX8 kk_X9_29 kn_X8 ki_X8 (fun j hj => match j, hj with | 0, _ => rfl | 1, _ => rfl | 2, _ => rfl | 3, _ => rfl | _ + 4, h => absurd h (by omega)) (Nat.le_of_ble_eq_true rfl) (Nat.le_of_ble_eq_true rfl) (by omega) (fun M13 zM13 hM13 fM13 => ?_)
  have hM13_0 := (fM13 _ (by omega)).trans hM12
  have hM13_1 := (fM13 _ (by omega)).trans hM12_1
  have hM13_18 := (fM13 _ (by omega)).trans hM12_18
  have hM13_35 := (fM13 _ (by omega)).trans hM12_35
  have hM13_52 := (fM13 _ (by omega)).trans hM12_52
  clear zM12
  refine m_dup hC dX9_init_52 rfl ?_
  refine m_callI hC (t_X8_init hF hl hJ hAO (b := b + 207) (by omega) (by omega) hM13) dX9_init_53 kc_X8_init kI_X9_31 rfl rfl (Nat.le_of_ble_eq_true rfl) (by decide) ⟨Nat.le_of_ble_eq_true rfl, Nat.le_of_ble_eq_true rfl⟩ m_nox (fun v9 M14 h9 => ?_)
  obtain ⟨rfl, zM14, gM14, fM14⟩ := h9
  have hM14_0 := (fM14 _ (by omega)).trans hM13_0
  have hM14_1 := (fM14 _ (by omega)).trans hM13_1
  have hM14_18 := (fM14 _ (by omega)).trans hM13_18
  have hM14_35 := (fM14 _ (by omega)).trans hM13_35
  have hM14_52 := (fM14 _ (by omega)).trans hM13_52
  clear zM13
  refine n_putF hC dX9_init_56 kf_X9_32 kw_11_4 (hnm.trans rfl) hM14_0 (by omega) (Nat.le_of_ble_eq_true rfl) rfl rfl (fun M15 zM15 hM15 fM15 => ?_)
  change M15.2 _ = some (m_ob 11 [.ref (b + 1), .ref (b + 18), .ref (b + 35), .ref (b + 52), .ref (b + 207), .null, .null, VI 0, VI 0, VI 0]) at hM15
  replace zM15 := zM15.trans zM14
  clear zM14
  have hM15_1 := (fM15 _ (by omega)).trans hM14_1
  have hM15_18 := (fM15 _ (by omega)).trans hM14_18
  have hM15_35 := (fM15 _ (by omega)).trans hM14_35
  have hM15_52 := (fM15 _ (by omega)).trans hM14_52
  have hM15_207 := (fM15 _ (by omega)).trans gM14.1.1
  refine m_aload_n hC 0 dX9_init_59 rfl rfl ?_
  refine n_new (a := b + 235) (ci := 1) (fs := [.null, VI 0, VI 0, VI 0]) hC dX9_init_60 rfl tyJ4_ok inJ4 kk_X9_36 kn_J4 ki_J4 (fun j hj => match j, hj with | 0, _ => rfl | 1, _ => rfl | 2, _ => rfl | 3, _ => rfl | _ + 4, h => absurd h (by omega)) (Nat.le_of_ble_eq_true rfl) (Nat.le_of_ble_eq_true rfl) (by omega) (fun M16 zM16 hM16 fM16 => ?_)
  have hM16_0 := (fM16 _ (by omega)).trans hM15
  have hM16_1 := (fM16 _ (by omega)).trans hM15_1
  have hM16_18 := (fM16 _ (by omega)).trans hM15_18
  have hM16_35 := (fM16 _ (by omega)).trans hM15_35
  have hM16_52 := (fM16 _ (by omega)).trans hM15_52
  have hM16_207 := (fM16 _ (by omega)).trans hM15_207
  clear zM15
  refine m_dup hC dX9_init_63 rfl ?_
  refine m_callI hC (t_J4_init_da8c8 hF hl hJ (b := b + 235) (by omega) (by omega) hM16) dX9_init_64 kc_J4_init_da8c8 kI_X9_38 rfl rfl (Nat.le_of_ble_eq_true rfl) (by decide) ⟨Nat.le_of_ble_eq_true rfl, Nat.le_of_ble_eq_true rfl⟩ m_nox (fun v9 M17 h9 => ?_)
  obtain ⟨rfl, zM17, gM17, fM17⟩ := h9
  have hM17_0 := (fM17 _ (by omega)).trans hM16_0
  have hM17_1 := (fM17 _ (by omega)).trans hM16_1
  have hM17_18 := (fM17 _ (by omega)).trans hM16_18
  have hM17_35 := (fM17 _ (by omega)).trans hM16_35
  have hM17_52 := (fM17 _ (by omega)).trans hM16_52
  have hM17_207 := (fM17 _ (by omega)).trans hM16_207
  clear zM16
  refine n_putF hC dX9_init_67 kf_X9_39 kw_11_5 (hnm.trans rfl) hM17_0 (by omega) (Nat.le_of_ble_eq_true rfl) rfl rfl (fun M18 zM18 hM18 fM18 => ?_)
  change M18.2 _ = some (m_ob 11 [.ref (b + 1), .ref (b + 18), .ref (b + 35), .ref (b + 52), .ref (b + 207), .ref (b + 235), .null, VI 0, VI 0, VI 0]) at hM18
  replace zM18 := zM18.trans zM17
  clear zM17
  have hM18_1 := (fM18 _ (by omega)).trans hM17_1
  have hM18_18 := (fM18 _ (by omega)).trans hM17_18
  have hM18_35 := (fM18 _ (by omega)).trans hM17_35
  have hM18_52 := (fM18 _ (by omega)).trans hM17_52
  have hM18_207 := (fM18 _ (by omega)).trans hM17_207
  have hM18_235 := (fM18 _ (by omega)).trans gM17.1
  have hM18_236 := (fM18 _ (by omega)).trans gM17.2
  refine m_aload_n hC 0 dX9_init_70 rfl rfl ?_
  refine m_bipush hC dX9_init_71 (by decide) ?_
  refine n_newa (a := b + 237) (k := 0) (n := 46) hC dX9_init_73 (by decide) rfl rfl ka_int (fun _ => Iff.rfl) rfl (by decide) (by decide) (Nat.le_of_ble_eq_true rfl) (Nat.le_of_ble_eq_true rfl) (by omega) (fun M19 zM19 hM19 fM19 => ?_)
  have hM19_0 := (fM19 _ (by omega)).trans hM18
  have hM19_1 := (fM19 _ (by omega)).trans hM18_1
  have hM19_18 := (fM19 _ (by omega)).trans hM18_18
  have hM19_35 := (fM19 _ (by omega)).trans hM18_35
  have hM19_52 := (fM19 _ (by omega)).trans hM18_52
  have hM19_207 := (fM19 _ (by omega)).trans hM18_207
  have hM19_235 := (fM19 _ (by omega)).trans hM18_235
  have hM19_236 := (fM19 _ (by omega)).trans hM18_236
  clear zM18
  refine n_putF hC dX9_init_75 kf_X9_43 kw_11_6 (hnm.trans rfl) hM19_0 (by omega) (Nat.le_of_ble_eq_true rfl) rfl rfl (fun M20 zM20 hM20 fM20 => ?_)
  change M20.2 _ = some (m_ob 11 [.ref (b + 1), .ref (b + 18), .ref (b + 35), .ref (b + 52), .ref (b + 207), .ref (b + 235), .ref (b + 237), VI 0, VI 0, VI 0]) at hM20
  replace zM20 := zM20.trans zM19
  clear zM19
  have hM20_1 := (fM20 _ (by omega)).trans hM19_1
  have hM20_18 := (fM20 _ (by omega)).trans hM19_18
  have hM20_35 := (fM20 _ (by omega)).trans hM19_35
  have hM20_52 := (fM20 _ (by omega)).trans hM19_52
  have hM20_207 := (fM20 _ (by omega)).trans hM19_207
  have hM20_235 := (fM20 _ (by omega)).trans hM19_235
  have hM20_236 := (fM20 _ (by omega)).trans hM19_236
  have hM20_237 := (fM20 _ (by omega)).trans hM19
  refine m_aload_n hC 0 dX9_init_78 rfl rfl ?_
  refine m_iconst hC dX9_init_79 ?_
  refine n_putf hC dX9_init_80 kf_X9_47 kw_11_7 hM20 (by omega) (Nat.le_of_ble_eq_true rfl) rfl rfl (fun M21 zM21 hM21 fM21 => ?_)
  change M21.2 _ = some (m_ob 11 [.ref (b + 1), .ref (b + 18), .ref (b + 35), .ref (b + 52), .ref (b + 207), .ref (b + 235), .ref (b + 237), VI 0, VI 0, VI 0]) at hM21
  replace zM21 := zM21.trans zM20
  clear zM20
  have hM21_1 := (fM21 _ (by omega)).trans hM20_1
  have hM21_18 := (fM21 _ (by omega)).trans hM20_18
  have hM21_35 := (fM21 _ (by omega)).trans hM20_35
  have hM21_52 := (fM21 _ (by omega)).trans hM20_52
  have hM21_207 := (fM21 _ (by omega)).trans hM20_207
  have hM21_235 := (fM21 _ (by omega)).trans hM20_235
  have hM21_236 := (fM21 _ (by omega)).trans hM20_236
  have hM21_237 := (fM21 _ (by omega)).trans hM20_237
  refine m_aload_n hC 0 dX9_init_83 rfl rfl ?_
  refine m_iconst hC dX9_init_84 ?_
  refine n_putf hC dX9_init_85 kf_X9_51 kw_11_8 hM21 (by omega) (Nat.le_of_ble_eq_true rfl) rfl rfl (fun M22 zM22 hM22 fM22 => ?_)
  change M22.2 _ = some (m_ob 11 [.ref (b + 1), .ref (b + 18), .ref (b + 35), .ref (b + 52), .ref (b + 207), .ref (b + 235), .ref (b + 237), VI 0, VI (-1), VI 0]) at hM22
  replace zM22 := zM22.trans zM21
  clear zM21
  have hM22_1 := (fM22 _ (by omega)).trans hM21_1
  have hM22_18 := (fM22 _ (by omega)).trans hM21_18
  have hM22_35 := (fM22 _ (by omega)).trans hM21_35
  have hM22_52 := (fM22 _ (by omega)).trans hM21_52
  have hM22_207 := (fM22 _ (by omega)).trans hM21_207
  have hM22_235 := (fM22 _ (by omega)).trans hM21_235
  have hM22_236 := (fM22 _ (by omega)).trans hM21_236
  have hM22_237 := (fM22 _ (by omega)).trans hM21_237
  refine m_aload_n hC 0 dX9_init_88 rfl rfl ?_
  refine m_iconst hC dX9_init_89 ?_
  refine n_putf hC dX9_init_90 kf_X9_55 kw_11_9 hM22 (by omega) (Nat.le_of_ble_eq_true rfl) rfl rfl (fun M23 zM23 hM23 fM23 => ?_)
  change M23.2 _ = some (m_ob 11 [.ref (b + 1), .ref (b + 18), .ref (b + 35), .ref (b + 52), .ref (b + 207), .ref (b + 235), .ref (b + 237), VI 0, VI (-1), VI (-1)]) at hM23
  replace zM23 := zM23.trans zM22
  clear zM22
  have hM23_1 := (fM23 _ (by omega)).trans hM22_1
  have hM23_18 := (fM23 _ (by omega)).trans hM22_18
  have hM23_35 := (fM23 _ (by omega)).trans hM22_35
  have hM23_52 := (fM23 _ (by omega)).trans hM22_52
  have hM23_207 := (fM23 _ (by omega)).trans hM22_207
  have hM23_235 := (fM23 _ (by omega)).trans hM22_235
  have hM23_236 := (fM23 _ (by omega)).trans hM22_236
  have hM23_237 := (fM23 _ (by omega)).trans hM22_237
  have hh_1 : hhP (b + 1) h_0 M23 := gM2.keep (fun q hq1 hq2 => by rw [fM23 q (by omega)]; rw [fM22 q (by omega)]; rw [fM21 q (by omega)]; rw [fM20 q (by omega)]; rw [fM19 q (by omega)]; rw [fM18 q (by omega)]; rw [fM17 q (by omega)]; rw [fM16 q (by omega)]; rw [fM15 q (by omega)]; rw [fM14 q (by omega)]; rw [fM13 q (by omega)]; rw [fM12 q (by omega)]; rw [fM11 q (by omega)]; rw [fM10 q (by omega)]; rw [fM9 q (by omega)]; rw [fM8 q (by omega)]; rw [fM7 q (by omega)]; rw [fM6 q (by omega)]; rw [fM5 q (by omega)]; rw [fM4 q (by omega)]; rw [fM3 q (by omega)])
  have hh_18 : hhP (b + 18) h_0 M23 := gM5.keep (fun q hq1 hq2 => by rw [fM23 q (by omega)]; rw [fM22 q (by omega)]; rw [fM21 q (by omega)]; rw [fM20 q (by omega)]; rw [fM19 q (by omega)]; rw [fM18 q (by omega)]; rw [fM17 q (by omega)]; rw [fM16 q (by omega)]; rw [fM15 q (by omega)]; rw [fM14 q (by omega)]; rw [fM13 q (by omega)]; rw [fM12 q (by omega)]; rw [fM11 q (by omega)]; rw [fM10 q (by omega)]; rw [fM9 q (by omega)]; rw [fM8 q (by omega)]; rw [fM7 q (by omega)]; rw [fM6 q (by omega)])
  have hh_35 : hhP (b + 35) h_0 M23 := gM8.keep (fun q hq1 hq2 => by rw [fM23 q (by omega)]; rw [fM22 q (by omega)]; rw [fM21 q (by omega)]; rw [fM20 q (by omega)]; rw [fM19 q (by omega)]; rw [fM18 q (by omega)]; rw [fM17 q (by omega)]; rw [fM16 q (by omega)]; rw [fM15 q (by omega)]; rw [fM14 q (by omega)]; rw [fM13 q (by omega)]; rw [fM12 q (by omega)]; rw [fM11 q (by omega)]; rw [fM10 q (by omega)]; rw [fM9 q (by omega)])
  have k6 : ∀ q : Nat, b + 52 ≤ q → q < b + 207 → M23.2 q = M11.2 q := fun q hq1 hq2 => by rw [fM23 q (by omega)]; rw [fM22 q (by omega)]; rw [fM21 q (by omega)]; rw [fM20 q (by omega)]; rw [fM19 q (by omega)]; rw [fM18 q (by omega)]; rw [fM17 q (by omega)]; rw [fM16 q (by omega)]; rw [fM15 q (by omega)]; rw [fM14 q (by omega)]; rw [fM13 q (by omega)]; rw [fM12 q (by omega)]
  have k8 : ∀ q : Nat, b + 207 ≤ q → q < b + 235 → M23.2 q = M14.2 q := fun q hq1 hq2 => by rw [fM23 q (by omega)]; rw [fM22 q (by omega)]; rw [fM21 q (by omega)]; rw [fM20 q (by omega)]; rw [fM19 q (by omega)]; rw [fM18 q (by omega)]; rw [fM17 q (by omega)]; rw [fM16 q (by omega)]; rw [fM15 q (by omega)]
  have hall : ∀ (w : Nat) (M2 : m_M), b + 238 ≤ w → w ≤ M2.1 → (∀ q : Nat, b ≤ q → q < b + 238 → M2.2 q = M23.2 q) → ghP s0.heap.size fo b w h_0 h_0 (fun _ => h_0) g_q0 [] [] M2 := by
    intro w M2 hw1 hw2 hq
    refine ⟨⟨hw1, hw2, hb⟩, (hq _ (by omega) (by omega)).trans hM23, (hh_1.keep (fun q z1 z2 => hq q (by omega) (by omega))).hhR0, ⟨h_0, (hh_18.keep (fun q z1 z2 => hq q (by omega) (by omega))).hhR0⟩, ⟨h_0, (hh_35.keep (fun q z1 z2 => hq q (by omega) (by omega))).hhR0, fun _ => rfl⟩, ⟨fun _ => h_0, ⟨fun i => i, ⟨⟨(hq _ (by omega) (by omega)).trans ((k6 _ (by omega) (by omega)).trans gM11.1.1), (hq _ (by omega) (by omega)).trans ((k6 _ (by omega) (by omega)).trans gM11.1.2)⟩, fun i hi => hi, fun i j _ _ h => h, fun i hi => ((gM11.2 i hi).keep (fun q z1 z2 => (hq q (by omega) (by omega)).trans (k6 q (by omega) (by omega)))).hhR0⟩⟩, fun i hi => rfl⟩, ⟨fun _ => 0, (hq _ (by omega) (by omega)).trans hM23_237⟩, b + 209, 16, b + 236, 16, 0, 0, fun _ => (11, []), ⟨?_, ?_, ?_, ?_, Or.inl rfl⟩, sbT.nil ((hq _ (by omega) (by omega)).trans hM23_235) ((hq _ (by omega) (by omega)).trans hM23_236) (by omega) (by omega), Or.inl rfl, Or.inl rfl, by omega⟩
    · exact (hq _ (by omega) (by omega)).trans ((k8 _ (by omega) (by omega)).trans gM14.1.1)
    · exact sbT.nil ((hq _ (by omega) (by omega)).trans ((k8 _ (by omega) (by omega)).trans gM14.1.2.1)) ((hq _ (by omega) (by omega)).trans ((k8 _ (by omega) (by omega)).trans gM14.1.2.2.1)) (by omega) (by omega)
    · exact (hq _ (by omega) (by omega)).trans ((k8 _ (by omega) (by omega)).trans gM14.1.2.2.2)
    · exact fun j hj => ⟨⟨Nat.zero_le _, fun _ => 0, ⟨(hq _ (by omega) (by omega)).trans ((k8 _ (by omega) (by omega)).trans (gM14.2 j hj).1), (hq _ (by omega) (by omega)).trans ((k8 _ (by omega) (by omega)).trans (gM14.2 j hj).2)⟩, fun i hi => absurd hi (Nat.not_lt_zero _)⟩, by show 11 < 13; decide⟩
  exact m_vret hC dX9_init_93 hr (Nat.le_of_ble_eq_true rfl) (Nat.le_of_ble_eq_true rfl) ⟨rfl, by omega, hall, (fun q hq => by rw [fM23 q (by omega)]; rw [fM22 q (by omega)]; rw [fM21 q (by omega)]; rw [fM20 q (by omega)]; rw [fM19 q (by omega)]; rw [fM18 q (by omega)]; rw [fM17 q (by omega)]; rw [fM16 q (by omega)]; rw [fM15 q (by omega)]; rw [fM14 q (by omega)]; rw [fM13 q (by omega)]; rw [fM12 q (by omega)]; rw [fM11 q (by omega)]; rw [fM10 q (by omega)]; rw [fM9 q (by omega)]; rw [fM8 q (by omega)]; rw [fM7 q (by omega)]; rw [fM6 q (by omega)]; rw [fM5 q (by omega)]; rw [fM4 q (by omega)]; rw [fM3 q (by omega)]; rw [fM2 q (by omega)]; rw [fM1 q (by omega)])⟩

