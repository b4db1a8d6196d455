set_option maxHeartbeats 4000000 in
set_option maxRecDepth 100000 in
theorem t_X6_init {D : va_G} {aC : Nat → ClassId} {s0 : State} {l : Launch} (hF : m_F D aC s0) (hl : l.stackTraces = false) (hAO : m_AO s0) {b : Nat} {M : m_M} (hsz : M.1 = b + 1) (hb : s0.heap.size ≤ b) (hM : M.2 b = some (m_ob 8 [.null, VI 0])) : m_Met D aC s0 l yX6_init cX6_init 2 none 3 (154) (972) [.ref b] M (fun v M' => v = none ∧ M'.1 = b + 155 ∧ ((M'.2 b = some (m_ob 8 [.ref (b + 1), VI 0]) ∧ M'.2 (b + 1) = some (m_va 5 9 (fun i => .ref (b + 2 + 17 * i)))) ∧ ∀ i : Nat, i < 9 → hhP (b + 2 + 17 * i) h_0 M') ∧ (∀ q : Nat, q < b → M'.2 q = M.2 q)) m_nx := by
  refine m_entry (lv := [(0, .ref b)]) (by decide +kernel) (Nat.le_of_ble_eq_true rfl) rfl hF hl ?_
  intro p e s m args below meth c hC hr hno hnm
  change m_C D aC s0 RX6 _ _ _ _ _ _ _ _ _ at hC
  refine m_aload_n hC 0 dX6_init_0 rfl rfl ?_
  refine m_obji hC dX6_init_1 ko_X6_3 ko_inst ko_code (by decide) (by decide) ?_
  refine m_aload_n hC 0 dX6_init_4 rfl rfl ?_
  refine m_bipush hC dX6_init_5 (by decide) ?_
  refine n_anew (a := b + 1) (k := 5) (n := 9) hC hAO.1 dX6_init_7 kk_X6_9 (by decide) rfl rfl (by decide) (Nat.le_of_ble_eq_true rfl) (Nat.le_of_ble_eq_true rfl) (by omega) (fun M1 zM1 hM1 fM1 => ?_)
  have hM1_0 := (fM1 _ (by omega)).trans hM
  rw [c_fi_0 (s := 2) (t := 17) (b := b)] at hM1
  clear hsz
  refine n_putF hC dX6_init_10 kf_X6_11 kw_8_0 (hnm.trans rfl) hM1_0 (by omega) (Nat.le_of_ble_eq_true rfl) rfl rfl (fun M2 zM2 hM2 fM2 => ?_)
  change M2.2 _ = some (m_ob 8 [.ref (b + 1), VI 0]) at hM2
  replace zM2 := zM2.trans zM1
  clear zM1
  have hM2_1 := (fM2 _ (by omega)).trans hM1
  refine m_aload_n hC 0 dX6_init_13 rfl rfl ?_
  refine m_iconst hC dX6_init_14 ?_
  refine n_putf hC dX6_init_15 kf_X6_17 kw_8_1 hM2 (by omega) (Nat.le_of_ble_eq_true rfl) rfl rfl (fun M3 zM3 hM3 fM3 => ?_)
  change M3.2 _ = some (m_ob 8 [.ref (b + 1), VI 0]) at hM3
  replace zM3 := zM3.trans zM2
  clear zM2
  have hM3_1 := (fM3 _ (by omega)).trans hM2_1
  refine m_iconst hC dX6_init_18 ?_
  refine m_istore_n hC dX6_init_19 rfl (by decide) rfl ?_
  refine m_iload_n hC 0 dX6_init_20 rfl rfl ?_
  refine m_aload_n hC 1 dX6_init_21 rfl rfl ?_
  refine m_getf hC dX6_init_22 kf_X6_11 hM3 rfl ?_
  refine m_alenV hC dX6_init_25 hM3_1 (by decide) ?_
  refine m_icmp_ge (tgt := 48) hC dX6_init_26 (by decide) (by decide) (fun c => absurd c (by decide)) (fun c => ?_)
  refine m_aload_n hC 1 dX6_init_29 rfl rfl ?_
  refine m_getf hC dX6_init_30 kf_X6_11 hM3 rfl ?_
  refine m_iload_n hC 0 dX6_init_33 rfl rfl ?_
  refine n_new (a := b + 2) (ci := 9) (fs := [.null, .null, .null, .null, VI 0, VI 0, VI 0, VI 0, VI 0, VI 0, VI 0, VI 0]) hC dX6_init_34 rfl tyX7_ok inX7 kk_X6_9 kn_X7 ki_X7 (fun j hj => match j, hj with | 0, _ => rfl | 1, _ => rfl | 2, _ => rfl | 3, _ => rfl | 4, _ => rfl | 5, _ => rfl | 6, _ => rfl | 7, _ => rfl | 8, _ => rfl | 9, _ => rfl | 10, _ => rfl | 11, _ => rfl | _ + 12, h => absurd h (by omega)) (Nat.le_of_ble_eq_true rfl) (Nat.le_of_ble_eq_true rfl) (by omega) (fun M4 zM4 hM4 fM4 => ?_)
  have hM4_0 := (fM4 _ (by omega)).trans hM3
  have hM4_1 := (fM4 _ (by omega)).trans hM3_1
  clear zM3
  refine m_dup hC dX6_init_37 rfl ?_
  refine m_callI hC (t_X7_init hF hl (b := b + 2) (by omega) (by omega) hM4) dX6_init_38 kc_X7_init kI_X6_21 rfl rfl (Nat.le_of_ble_eq_true rfl) (by decide) ⟨Nat.le_of_ble_eq_true rfl, Nat.le_of_ble_eq_true rfl⟩ m_nox (fun v9 M5 h9 => ?_)
  obtain ⟨rfl, zM5, gM5, fM5⟩ := h9
  have hM5_0 := (fM5 _ (by omega)).trans hM4_0
  have hM5_1 := (fM5 _ (by omega)).trans hM4_1
  clear zM4
  refine n_aast hC dX6_init_41 hM5_1 (by decide) rfl gM5.1 rfl (by omega) (by decide) (by decide) (fun M6 zM6 hM6 fM6 => ?_)
  replace zM6 := zM6.trans zM5
  clear zM5
  have hM6_0 := (fM6 _ (by omega)).trans hM5_0
  have kM6 : M6.2 (b + 1) = some (m_va 5 9 (c_fi 2 17 b 1)) := hM6.trans (congrArg (fun f => some (m_va 5 9 f)) (c_fi_s (k := 0) (by omega)))
  refine m_iinc hC 0 dX6_init_42 rfl (by decide) rfl ?_
  refine m_goto (tgt := 20) hC dX6_init_45 (by decide) ?_
  refine m_lvs (lv2 := [(1, VI 1), (0, .ref b)]) [0, 1] rfl ?_
  refine m_wd (k := 18) (n := 116) (Nat.le_of_ble_eq_true rfl) (Nat.le_of_ble_eq_true rfl) ?_
  refine m_iload_n hC 0 dX6_init_20 rfl rfl ?_
  refine m_aload_n hC 1 dX6_init_21 rfl rfl ?_
  refine m_getf hC dX6_init_22 kf_X6_11 hM6_0 rfl ?_
  refine m_alenV hC dX6_init_25 kM6 (by decide) ?_
  refine m_icmp_ge (tgt := 48) hC dX6_init_26 (by decide) (by decide) (fun c => absurd c (by decide)) (fun c => ?_)
  refine m_aload_n hC 1 dX6_init_29 rfl rfl ?_
  refine m_getf hC dX6_init_30 kf_X6_11 hM6_0 rfl ?_
  refine m_iload_n hC 0 dX6_init_33 rfl rfl ?_
  refine n_new (a := b + 19) (ci := 9) (fs := [.null, .null, .null, .null, VI 0, VI 0, VI 0, VI 0, VI 0, VI 0, VI 0, VI 0]) hC dX6_init_34 rfl tyX7_ok inX7 kk_X6_9 kn_X7 ki_X7 (fun j hj => match j, hj with | 0, _ => rfl | 1, _ => rfl | 2, _ => rfl | 3, _ => rfl | 4, _ => rfl | 5, _ => rfl | 6, _ => rfl | 7, _ => rfl | 8, _ => rfl | 9, _ => rfl | 10, _ => rfl | 11, _ => rfl | _ + 12, h => absurd h (by omega)) (Nat.le_of_ble_eq_true rfl) (Nat.le_of_ble_eq_true rfl) (by omega) (fun M7 zM7 hM7 fM7 => ?_)
  have hM7_0 := (fM7 _ (by omega)).trans hM6_0
  have hM7_1 := (fM7 _ (by omega)).trans kM6
  clear zM6
  refine m_dup hC dX6_init_37 rfl ?_
  refine m_callI hC (t_X7_init hF hl (b := b + 19) (by omega) (by omega) hM7) dX6_init_38 kc_X7_init kI_X6_21 rfl rfl (Nat.le_of_ble_eq_true rfl) (by decide) ⟨Nat.le_of_ble_eq_true rfl, Nat.le_of_ble_eq_true rfl⟩ m_nox (fun v9 M8 h9 => ?_)
  obtain ⟨rfl, zM8, gM8, fM8⟩ := h9
  have hM8_0 := (fM8 _ (by omega)).trans hM7_0
  have hM8_1 := (fM8 _ (by omega)).trans hM7_1
  clear zM7
  refine n_aast hC dX6_init_41 hM8_1 (by decide) rfl gM8.1 rfl (by omega) (by decide) (by decide) (fun M9 zM9 hM9 fM9 => ?_)
  replace zM9 := zM9.trans zM8
  clear zM8
  have hM9_0 := (fM9 _ (by omega)).trans hM8_0
  have kM9 : M9.2 (b + 1) = some (m_va 5 9 (c_fi 2 17 b 2)) := hM9.trans (congrArg (fun f => some (m_va 5 9 f)) (c_fi_s (k := 1) (by omega)))
  refine m_iinc hC 0 dX6_init_42 rfl (by decide) rfl ?_
  refine m_goto (tgt := 20) hC dX6_init_45 (by decide) ?_
  refine m_lvs (lv2 := [(1, VI 2), (0, .ref b)]) [0, 1] rfl ?_
  refine m_wd (k := 35) (n := 223) (Nat.le_of_ble_eq_true rfl) (Nat.le_of_ble_eq_true rfl) ?_
  refine m_iload_n hC 0 dX6_init_20 rfl rfl ?_
  refine m_aload_n hC 1 dX6_init_21 rfl rfl ?_
  refine m_getf hC dX6_init_22 kf_X6_11 hM9_0 rfl ?_
  refine m_alenV hC dX6_init_25 kM9 (by decide) ?_
  refine m_icmp_ge (tgt := 48) hC dX6_init_26 (by decide) (by decide) (fun c => absurd c (by decide)) (fun c => ?_)
  refine m_aload_n hC 1 dX6_init_29 rfl rfl ?_
  refine m_getf hC dX6_init_30 kf_X6_11 hM9_0 rfl ?_
  refine m_iload_n hC 0 dX6_init_33 rfl rfl ?_
  refine n_new (a := b + 36) (ci := 9) (fs := [.null, .null, .null, .null, VI 0, VI 0, VI 0, VI 0, VI 0, VI 0, VI 0, VI 0]) hC dX6_init_34 rfl tyX7_ok inX7 kk_X6_9 kn_X7 ki_X7 (fun j hj => match j, hj with | 0, _ => rfl | 1, _ => rfl | 2, _ => rfl | 3, _ => rfl | 4, _ => rfl | 5, _ => rfl | 6, _ => rfl | 7, _ => rfl | 8, _ => rfl | 9, _ => rfl | 10, _ => rfl | 11, _ => rfl | _ + 12, h => absurd h (by omega)) (Nat.le_of_ble_eq_true rfl) (Nat.le_of_ble_eq_true rfl) (by omega) (fun M10 zM10 hM10 fM10 => ?_)
  have hM10_0 := (fM10 _ (by omega)).trans hM9_0
  have hM10_1 := (fM10 _ (by omega)).trans kM9
  clear zM9
  refine m_dup hC dX6_init_37 rfl ?_
  refine m_callI hC (t_X7_init hF hl (b := b + 36) (by omega) (by omega) hM10) dX6_init_38 kc_X7_init kI_X6_21 rfl rfl (Nat.le_of_ble_eq_true rfl) (by decide) ⟨Nat.le_of_ble_eq_true rfl, Nat.le_of_ble_eq_true rfl⟩ m_nox (fun v9 M11 h9 => ?_)
  obtain ⟨rfl, zM11, gM11, fM11⟩ := h9
  have hM11_0 := (fM11 _ (by omega)).trans hM10_0
  have hM11_1 := (fM11 _ (by omega)).trans hM10_1
  clear zM10
  refine n_aast hC dX6_init_41 hM11_1 (by decide) rfl gM11.1 rfl (by omega) (by decide) (by decide) (fun M12 zM12 hM12 fM12 => ?_)
  replace zM12 := zM12.trans zM11
  clear zM11
  have hM12_0 := (fM12 _ (by omega)).trans hM11_0
  have kM12 : M12.2 (b + 1) = some (m_va 5 9 (c_fi 2 17 b 3)) := hM12.trans (congrArg (fun f => some (m_va 5 9 f)) (c_fi_s (k := 2) (by omega)))
  refine m_iinc hC 0 dX6_init_42 rfl (by decide) rfl ?_
  refine m_goto (tgt := 20) hC dX6_init_45 (by decide) ?_
  refine m_lvs (lv2 := [(1, VI 3), (0, .ref b)]) [0, 1] rfl ?_
  refine m_wd (k := 52) (n := 330) (Nat.le_of_ble_eq_true rfl) (Nat.le_of_ble_eq_true rfl) ?_
  refine m_iload_n hC 0 dX6_init_20 rfl rfl ?_
  refine m_aload_n hC 1 dX6_init_21 rfl rfl ?_
  refine m_getf hC dX6_init_22 kf_X6_11 hM12_0 rfl ?_
  refine m_alenV hC dX6_init_25 kM12 (by decide) ?_
  refine m_icmp_ge (tgt := 48) hC dX6_init_26 (by decide) (by decide) (fun c => absurd c (by decide)) (fun c => ?_)
  refine m_aload_n hC 1 dX6_init_29 rfl rfl ?_
  refine m_getf hC dX6_init_30 kf_X6_11 hM12_0 rfl ?_
  refine m_iload_n hC 0 dX6_init_33 rfl rfl ?_
  refine n_new (a := b + 53) (ci := 9) (fs := [.null, .null, .null, .null, VI 0, VI 0, VI 0, VI 0, VI 0, VI 0, VI 0, VI 0]) hC dX6_init_34 rfl tyX7_ok inX7 kk_X6_9 kn_X7 ki_X7 (fun j hj => match j, hj with | 0, _ => rfl | 1, _ => rfl | 2, _ => rfl | 3, _ => rfl | 4, _ => rfl | 5, _ => rfl | 6, _ => rfl | 7, _ => rfl | 8, _ => rfl | 9, _ => rfl | 10, _ => rfl | 11, _ => rfl | _ + 12, h => absurd h (by omega)) (Nat.le_of_ble_eq_true rfl) (Nat.le_of_ble_eq_true rfl) (by omega) (fun M13 zM13 hM13 fM13 => ?_)
  have hM13_0 := (fM13 _ (by omega)).trans hM12_0
  have hM13_1 := (fM13 _ (by omega)).trans kM12
  clear zM12
  refine m_dup hC dX6_init_37 rfl ?_
  refine m_callI hC (t_X7_init hF hl (b := b + 53) (by omega) (by omega) hM13) dX6_init_38 kc_X7_init kI_X6_21 rfl rfl (Nat.le_of_ble_eq_true rfl) (by decide) ⟨Nat.le_of_ble_eq_true rfl, Nat.le_of_ble_eq_true rfl⟩ m_nox (fun v9 M14 h9 => ?_)
  obtain ⟨rfl, zM14, gM14, fM14⟩ := h9
  have hM14_0 := (fM14 _ (by omega)).trans hM13_0
  have hM14_1 := (fM14 _ (by omega)).trans hM13_1
  clear zM13
  refine n_aast hC dX6_init_41 hM14_1 (by decide) rfl gM14.1 rfl (by omega) (by decide) (by decide) (fun M15 zM15 hM15 fM15 => ?_)
  replace zM15 := zM15.trans zM14
  clear zM14
  have hM15_0 := (fM15 _ (by omega)).trans hM14_0
  have kM15 : M15.2 (b + 1) = some (m_va 5 9 (c_fi 2 17 b 4)) := hM15.trans (congrArg (fun f => some (m_va 5 9 f)) (c_fi_s (k := 3) (by omega)))
  refine m_iinc hC 0 dX6_init_42 rfl (by decide) rfl ?_
  refine m_goto (tgt := 20) hC dX6_init_45 (by decide) ?_
  refine m_lvs (lv2 := [(1, VI 4), (0, .ref b)]) [0, 1] rfl ?_
  refine m_wd (k := 69) (n := 437) (Nat.le_of_ble_eq_true rfl) (Nat.le_of_ble_eq_true rfl) ?_
  refine m_iload_n hC 0 dX6_init_20 rfl rfl ?_
  refine m_aload_n hC 1 dX6_init_21 rfl rfl ?_
  refine m_getf hC dX6_init_22 kf_X6_11 hM15_0 rfl ?_
  refine m_alenV hC dX6_init_25 kM15 (by decide) ?_
  refine m_icmp_ge (tgt := 48) hC dX6_init_26 (by decide) (by decide) (fun c => absurd c (by decide)) (fun c => ?_)
  refine m_aload_n hC 1 dX6_init_29 rfl rfl ?_
  refine m_getf hC dX6_init_30 kf_X6_11 hM15_0 rfl ?_
  refine m_iload_n hC 0 dX6_init_33 rfl rfl ?_
  refine n_new (a := b + 70) (ci := 9) (fs := [.null, .null, .null, .null, VI 0, VI 0, VI 0, VI 0, VI 0, VI 0, VI 0, VI 0]) hC dX6_init_34 rfl tyX7_ok inX7 kk_X6_9 kn_X7 ki_X7 (fun j hj => match j, hj with | 0, _ => rfl | 1, _ => rfl | 2, _ => rfl | 3, _ => rfl | 4, _ => rfl | 5, _ => rfl | 6, _ => rfl | 7, _ => rfl | 8, _ => rfl | 9, _ => rfl | 10, _ => rfl | 11, _ => rfl | _ + 12, h => absurd h (by omega)) (Nat.le_of_ble_eq_true rfl) (Nat.le_of_ble_eq_true rfl) (by omega) (fun M16 zM16 hM16 fM16 => ?_)
  have hM16_0 := (fM16 _ (by omega)).trans hM15_0
  have hM16_1 := (fM16 _ (by omega)).trans kM15
  clear zM15
  refine m_dup hC dX6_init_37 rfl ?_
  refine m_callI hC (t_X7_init hF hl (b := b + 70) (by omega) (by omega) hM16) dX6_init_38 kc_X7_init kI_X6_21 rfl rfl (Nat.le_of_ble_eq_true rfl) (by decide) ⟨Nat.le_of_ble_eq_true rfl, Nat.le_of_ble_eq_true rfl⟩ m_nox (fun v9 M17 h9 => ?_)
  obtain ⟨rfl, zM17, gM17, fM17⟩ := h9
  have hM17_0 := (fM17 _ (by omega)).trans hM16_0
  have hM17_1 := (fM17 _ (by omega)).trans hM16_1
  clear zM16
  refine n_aast hC dX6_init_41 hM17_1 (by decide) rfl gM17.1 rfl (by omega) (by decide) (by decide) (fun M18 zM18 hM18 fM18 => ?_)
  replace zM18 := zM18.trans zM17
  clear zM17
  have hM18_0 := (fM18 _ (by omega)).trans hM17_0
  have kM18 : M18.2 (b + 1) = some (m_va 5 9 (c_fi 2 17 b 5)) := hM18.trans (congrArg (fun f => some (m_va 5 9 f)) (c_fi_s (k := 4) (by omega)))
  refine m_iinc hC 0 dX6_init_42 rfl (by decide) rfl ?_
  refine m_goto (tgt := 20) hC dX6_init_45 (by decide) ?_
  refine m_lvs (lv2 := [(1, VI 5), (0, .ref b)]) [0, 1] rfl ?_
  refine m_wd (k := 86) (n := 544) (Nat.le_of_ble_eq_true rfl) (Nat.le_of_ble_eq_true rfl) ?_
  refine m_iload_n hC 0 dX6_init_20 rfl rfl ?_
  refine m_aload_n hC 1 dX6_init_21 rfl rfl ?_
  refine m_getf hC dX6_init_22 kf_X6_11 hM18_0 rfl ?_
  refine m_alenV hC dX6_init_25 kM18 (by decide) ?_
  refine m_icmp_ge (tgt := 48) hC dX6_init_26 (by decide) (by decide) (fun c => absurd c (by decide)) (fun c => ?_)
  refine m_aload_n hC 1 dX6_init_29 rfl rfl ?_
  refine m_getf hC dX6_init_30 kf_X6_11 hM18_0 rfl ?_
  refine m_iload_n hC 0 dX6_init_33 rfl rfl ?_
  refine n_new (a := b + 87) (ci := 9) (fs := [.null, .null, .null, .null, VI 0, VI 0, VI 0, VI 0, VI 0, VI 0, VI 0, VI 0]) hC dX6_init_34 rfl tyX7_ok inX7 kk_X6_9 kn_X7 ki_X7 (fun j hj => match j, hj with | 0, _ => rfl | 1, _ => rfl | 2, _ => rfl | 3, _ => rfl | 4, _ => rfl | 5, _ => rfl | 6, _ => rfl | 7, _ => rfl | 8, _ => rfl | 9, _ => rfl | 10, _ => rfl | 11, _ => rfl | _ + 12, h => absurd h (by omega)) (Nat.le_of_ble_eq_true rfl) (Nat.le_of_ble_eq_true rfl) (by omega) (fun M19 zM19 hM19 fM19 => ?_)
  have hM19_0 := (fM19 _ (by omega)).trans hM18_0
  have hM19_1 := (fM19 _ (by omega)).trans kM18
  clear zM18
  refine m_dup hC dX6_init_37 rfl ?_
  refine m_callI hC (t_X7_init hF hl (b := b + 87) (by omega) (by omega) hM19) dX6_init_38 kc_X7_init kI_X6_21 rfl rfl (Nat.le_of_ble_eq_true rfl) (by decide) ⟨Nat.le_of_ble_eq_true rfl, Nat.le_of_ble_eq_true rfl⟩ m_nox (fun v9 M20 h9 => ?_)
  obtain ⟨rfl, zM20, gM20, fM20⟩ := h9
  have hM20_0 := (fM20 _ (by omega)).trans hM19_0
  have hM20_1 := (fM20 _ (by omega)).trans hM19_1
  clear zM19
  refine n_aast hC dX6_init_41 hM20_1 (by decide) rfl gM20.1 rfl (by omega) (by decide) (by decide) (fun M21 zM21 hM21 fM21 => ?_)
  replace zM21 := zM21.trans zM20
  clear zM20
  have hM21_0 := (fM21 _ (by omega)).trans hM20_0
  have kM21 : M21.2 (b + 1) = some (m_va 5 9 (c_fi 2 17 b 6)) := hM21.trans (congrArg (fun f => some (m_va 5 9 f)) (c_fi_s (k := 5) (by omega)))
  refine m_iinc hC 0 dX6_init_42 rfl (by decide) rfl ?_
  refine m_goto (tgt := 20) hC dX6_init_45 (by decide) ?_
  refine m_lvs (lv2 := [(1, VI 6), (0, .ref b)]) [0, 1] rfl ?_
  refine m_wd (k := 103) (n := 651) (Nat.le_of_ble_eq_true rfl) (Nat.le_of_ble_eq_true rfl) ?_
  refine m_iload_n hC 0 dX6_init_20 rfl rfl ?_
  refine m_aload_n hC 1 dX6_init_21 rfl rfl ?_
  refine m_getf hC dX6_init_22 kf_X6_11 hM21_0 rfl ?_
  refine m_alenV hC dX6_init_25 kM21 (by decide) ?_
  refine m_icmp_ge (tgt := 48) hC dX6_init_26 (by decide) (by decide) (fun c => absurd c (by decide)) (fun c => ?_)
  refine m_aload_n hC 1 dX6_init_29 rfl rfl ?_
  refine m_getf hC dX6_init_30 kf_X6_11 hM21_0 rfl ?_
  refine m_iload_n hC 0 dX6_init_33 rfl rfl ?_
  refine n_new (a := b + 104) (ci := 9) (fs := [.null, .null, .null, .null, VI 0, VI 0, VI 0, VI 0, VI 0, VI 0, VI 0, VI 0]) hC dX6_init_34 rfl tyX7_ok inX7 kk_X6_9 kn_X7 ki_X7 (fun j hj => match j, hj with | 0, _ => rfl | 1, _ => rfl | 2, _ => rfl | 3, _ => rfl | 4, _ => rfl | 5, _ => rfl | 6, _ => rfl | 7, _ => rfl | 8, _ => rfl | 9, _ => rfl | 10, _ => rfl | 11, _ => rfl | _ + 12, h => absurd h (by omega)) (Nat.le_of_ble_eq_true rfl) (Nat.le_of_ble_eq_true rfl) (by omega) (fun M22 zM22 hM22 fM22 => ?_)
  have hM22_0 := (fM22 _ (by omega)).trans hM21_0
  have hM22_1 := (fM22 _ (by omega)).trans kM21
  clear zM21
  refine m_dup hC dX6_init_37 rfl ?_
  refine m_callI hC (t_X7_init hF hl (b := b + 104) (by omega) (by omega) hM22) dX6_init_38 kc_X7_init kI_X6_21 rfl rfl (Nat.le_of_ble_eq_true rfl) (by decide) ⟨Nat.le_of_ble_eq_true rfl, Nat.le_of_ble_eq_true rfl⟩ m_nox (fun v9 M23 h9 => ?_)
  obtain ⟨rfl, zM23, gM23, fM23⟩ := h9
  have hM23_0 := (fM23 _ (by omega)).trans hM22_0
  have hM23_1 := (fM23 _ (by omega)).trans hM22_1
  clear zM22
  refine n_aast hC dX6_init_41 hM23_1 (by decide) rfl gM23.1 rfl (by omega) (by decide) (by decide) (fun M24 zM24 hM24 fM24 => ?_)
  replace zM24 := zM24.trans zM23
  clear zM23
  have hM24_0 := (fM24 _ (by omega)).trans hM23_0
  have kM24 : M24.2 (b + 1) = some (m_va 5 9 (c_fi 2 17 b 7)) := hM24.trans (congrArg (fun f => some (m_va 5 9 f)) (c_fi_s (k := 6) (by omega)))
  refine m_iinc hC 0 dX6_init_42 rfl (by decide) rfl ?_
  refine m_goto (tgt := 20) hC dX6_init_45 (by decide) ?_
  refine m_lvs (lv2 := [(1, VI 7), (0, .ref b)]) [0, 1] rfl ?_
  refine m_wd (k := 120) (n := 758) (Nat.le_of_ble_eq_true rfl) (Nat.le_of_ble_eq_true rfl) ?_
  refine m_iload_n hC 0 dX6_init_20 rfl rfl ?_
  refine m_aload_n hC 1 dX6_init_21 rfl rfl ?_
  refine m_getf hC dX6_init_22 kf_X6_11 hM24_0 rfl ?_
  refine m_alenV hC dX6_init_25 kM24 (by decide) ?_
  refine m_icmp_ge (tgt := 48) hC dX6_init_26 (by decide) (by decide) (fun c => absurd c (by decide)) (fun c => ?_)
  refine m_aload_n hC 1 dX6_init_29 rfl rfl ?_
  refine m_getf hC dX6_init_30 kf_X6_11 hM24_0 rfl ?_
  refine m_iload_n hC 0 dX6_init_33 rfl rfl ?_
  refine n_new (a := b + 121) (ci := 9) (fs := [.null, .null, .null, .null, VI 0, VI 0, VI 0, VI 0, VI 0, VI 0, VI 0, VI 0]) hC dX6_init_34 rfl tyX7_ok inX7 kk_X6_9 kn_X7 ki_X7 (fun j hj => match j, hj with | 0, _ => rfl | 1, _ => rfl | 2, _ => rfl | 3, _ => rfl | 4, _ => rfl | 5, _ => rfl | 6, _ => rfl | 7, _ => rfl | 8, _ => rfl | 9, _ => rfl | 10, _ => rfl | 11, _ => rfl | _ + 12, h => absurd h (by omega)) (Nat.le_of_ble_eq_true rfl) (Nat.le_of_ble_eq_true rfl) (by omega) (fun M25 zM25 hM25 fM25 => ?_)
  have hM25_0 := (fM25 _ (by omega)).trans hM24_0
  have hM25_1 := (fM25 _ (by omega)).trans kM24
  clear zM24
  refine m_dup hC dX6_init_37 rfl ?_
  refine m_callI hC (t_X7_init hF hl (b := b + 121) (by omega) (by omega) hM25) dX6_init_38 kc_X7_init kI_X6_21 rfl rfl (Nat.le_of_ble_eq_true rfl) (by decide) ⟨Nat.le_of_ble_eq_true rfl, Nat.le_of_ble_eq_true rfl⟩ m_nox (fun v9 M26 h9 => ?_)
  obtain ⟨rfl, zM26, gM26, fM26⟩ := h9
  have hM26_0 := (fM26 _ (by omega)).trans hM25_0
  have hM26_1 := (fM26 _ (by omega)).trans hM25_1
  clear zM25
  refine n_aast hC dX6_init_41 hM26_1 (by decide) rfl gM26.1 rfl (by omega) (by decide) (by decide) (fun M27 zM27 hM27 fM27 => ?_)
  replace zM27 := zM27.trans zM26
  clear zM26
  have hM27_0 := (fM27 _ (by omega)).trans hM26_0
  have kM27 : M27.2 (b + 1) = some (m_va 5 9 (c_fi 2 17 b 8)) := hM27.trans (congrArg (fun f => some (m_va 5 9 f)) (c_fi_s (k := 7) (by omega)))
  refine m_iinc hC 0 dX6_init_42 rfl (by decide) rfl ?_
  refine m_goto (tgt := 20) hC dX6_init_45 (by decide) ?_
  refine m_lvs (lv2 := [(1, VI 8), (0, .ref b)]) [0, 1] rfl ?_
  refine m_wd (k := 137) (n := 865) (Nat.le_of_ble_eq_true rfl) (Nat.le_of_ble_eq_true rfl) ?_
  refine m_iload_n hC 0 dX6_init_20 rfl rfl ?_
  refine m_aload_n hC 1 dX6_init_21 rfl rfl ?_
  refine m_getf hC dX6_init_22 kf_X6_11 hM27_0 rfl ?_
  refine m_alenV hC dX6_init_25 kM27 (by decide) ?_
  refine m_icmp_ge (tgt := 48) hC dX6_init_26 (by decide) (by decide) (fun c => absurd c (by decide)) (fun c => ?_)
  refine m_aload_n hC 1 dX6_init_29 rfl rfl ?_
  refine m_getf hC dX6_init_30 kf_X6_11 hM27_0 rfl ?_
  refine m_iload_n hC 0 dX6_init_33 rfl rfl ?_
  refine n_new (a := b + 138) (ci := 9) (fs := [.null, .null, .null, .null, VI 0, VI 0, VI 0, VI 0, VI 0, VI 0, VI 0, VI 0]) hC dX6_init_34 rfl tyX7_ok inX7 kk_X6_9 kn_X7 ki_X7 (fun j hj => match j, hj with | 0, _ => rfl | 1, _ => rfl | 2, _ => rfl | 3, _ => rfl | 4, _ => rfl | 5, _ => rfl | 6, _ => rfl | 7, _ => rfl | 8, _ => rfl | 9, _ => rfl | 10, _ => rfl | 11, _ => rfl | _ + 12, h => absurd h (by omega)) (Nat.le_of_ble_eq_true rfl) (Nat.le_of_ble_eq_true rfl) (by omega) (fun M28 zM28 hM28 fM28 => ?_)
  have hM28_0 := (fM28 _ (by omega)).trans hM27_0
  have hM28_1 := (fM28 _ (by omega)).trans kM27
  clear zM27
  refine m_dup hC dX6_init_37 rfl ?_
  refine m_callI hC (t_X7_init hF hl (b := b + 138) (by omega) (by omega) hM28) dX6_init_38 kc_X7_init kI_X6_21 rfl rfl (Nat.le_of_ble_eq_true rfl) (by decide) ⟨Nat.le_of_ble_eq_true rfl, Nat.le_of_ble_eq_true rfl⟩ m_nox (fun v9 M29 h9 => ?_)
  obtain ⟨rfl, zM29, gM29, fM29⟩ := h9
  have hM29_0 := (fM29 _ (by omega)).trans hM28_0
  have hM29_1 := (fM29 _ (by omega)).trans hM28_1
  clear zM28
  refine n_aast hC dX6_init_41 hM29_1 (by decide) rfl gM29.1 rfl (by omega) (by decide) (by decide) (fun M30 zM30 hM30 fM30 => ?_)
  replace zM30 := zM30.trans zM29
  clear zM29
  have hM30_0 := (fM30 _ (by omega)).trans hM29_0
  have kM30 : M30.2 (b + 1) = some (m_va 5 9 (c_fi 2 17 b 9)) := hM30.trans (congrArg (fun f => some (m_va 5 9 f)) (c_fi_s (k := 8) (by omega)))
  refine m_iinc hC 0 dX6_init_42 rfl (by decide) rfl ?_
  refine m_goto (tgt := 20) hC dX6_init_45 (by decide) ?_
  refine m_lvs (lv2 := [(1, VI 9), (0, .ref b)]) [0, 1] rfl ?_
  refine m_wd (k := 154) (n := 972) (Nat.le_of_ble_eq_true rfl) (Nat.le_of_ble_eq_true rfl) ?_
  refine m_iload_n hC 0 dX6_init_20 rfl rfl ?_
  refine m_aload_n hC 1 dX6_init_21 rfl rfl ?_
  refine m_getf hC dX6_init_22 kf_X6_11 hM30_0 rfl ?_
  refine m_alenV hC dX6_init_25 kM30 (by decide) ?_
  refine m_icmp_ge (tgt := 48) hC dX6_init_26 (by decide) (by decide) (fun c => ?_) (fun c => absurd c (by decide))
  refine n_norm kM30 (n_va (f2 := fun i => .ref (b + 2 + 17 * i)) (fun j hj => if_pos hj)) (fun M31 zM31 hM31 fM31 => ?_)
  replace zM31 := zM31.trans zM30
  clear zM30
  have hM31_0 := (fM31 _ (by omega)).trans hM30_0
  have hh_2 : hhP (b + 2) h_0 M31 := gM5.keep (fun q hq1 hq2 => by rw [fM31 q (by omega)]; rw [fM30 q (by omega)]; rw [fM29 q (by omega)]; rw [fM28 q (by omega)]; rw [fM27 q (by omega)]; rw [fM26 q (by omega)]; rw [fM25 q (by omega)]; rw [fM24 q (by omega)]; rw [fM23 q (by omega)]; rw [fM22 q (by omega)]; rw [fM21 q (by omega)]; rw [fM20 q (by omega)]; rw [fM19 q (by omega)]; rw [fM18 q (by omega)]; rw [fM17 q (by omega)]; rw [fM16 q (by omega)]; rw [fM15 q (by omega)]; rw [fM14 q (by omega)]; rw [fM13 q (by omega)]; rw [fM12 q (by omega)]; rw [fM11 q (by omega)]; rw [fM10 q (by omega)]; rw [fM9 q (by omega)]; rw [fM8 q (by omega)]; rw [fM7 q (by omega)]; rw [fM6 q (by omega)])
  have hh_19 : hhP (b + 19) h_0 M31 := gM8.keep (fun q hq1 hq2 => by rw [fM31 q (by omega)]; rw [fM30 q (by omega)]; rw [fM29 q (by omega)]; rw [fM28 q (by omega)]; rw [fM27 q (by omega)]; rw [fM26 q (by omega)]; rw [fM25 q (by omega)]; rw [fM24 q (by omega)]; rw [fM23 q (by omega)]; rw [fM22 q (by omega)]; rw [fM21 q (by omega)]; rw [fM20 q (by omega)]; rw [fM19 q (by omega)]; rw [fM18 q (by omega)]; rw [fM17 q (by omega)]; rw [fM16 q (by omega)]; rw [fM15 q (by omega)]; rw [fM14 q (by omega)]; rw [fM13 q (by omega)]; rw [fM12 q (by omega)]; rw [fM11 q (by omega)]; rw [fM10 q (by omega)]; rw [fM9 q (by omega)])
  have hh_36 : hhP (b + 36) h_0 M31 := gM11.keep (fun q hq1 hq2 => by rw [fM31 q (by omega)]; rw [fM30 q (by omega)]; rw [fM29 q (by omega)]; rw [fM28 q (by omega)]; rw [fM27 q (by omega)]; rw [fM26 q (by omega)]; rw [fM25 q (by omega)]; rw [fM24 q (by omega)]; rw [fM23 q (by omega)]; rw [fM22 q (by omega)]; rw [fM21 q (by omega)]; rw [fM20 q (by omega)]; rw [fM19 q (by omega)]; rw [fM18 q (by omega)]; rw [fM17 q (by omega)]; rw [fM16 q (by omega)]; rw [fM15 q (by omega)]; rw [fM14 q (by omega)]; rw [fM13 q (by omega)]; rw [fM12 q (by omega)])
  have hh_53 : hhP (b + 53) h_0 M31 := gM14.keep (fun q hq1 hq2 => by rw [fM31 q (by omega)]; rw [fM30 q (by omega)]; rw [fM29 q (by omega)]; rw [fM28 q (by omega)]; rw [fM27 q (by omega)]; rw [fM26 q (by omega)]; rw [fM25 q (by omega)]; rw [fM24 q (by omega)]; rw [fM23 q (by omega)]; rw [fM22 q (by omega)]; rw [fM21 q (by omega)]; rw [fM20 q (by omega)]; rw [fM19 q (by omega)]; rw [fM18 q (by omega)]; rw [fM17 q (by omega)]; rw [fM16 q (by omega)]; rw [fM15 q (by omega)])
  have hh_70 : hhP (b + 70) h_0 M31 := gM17.keep (fun q hq1 hq2 => by rw [fM31 q (by omega)]; rw [fM30 q (by omega)]; rw [fM29 q (by omega)]; rw [fM28 q (by omega)]; rw [fM27 q (by omega)]; rw [fM26 q (by omega)]; rw [fM25 q (by omega)]; rw [fM24 q (by omega)]; rw [fM23 q (by omega)]; rw [fM22 q (by omega)]; rw [fM21 q (by omega)]; rw [fM20 q (by omega)]; rw [fM19 q (by omega)]; rw [fM18 q (by omega)])
  have hh_87 : hhP (b + 87) h_0 M31 := gM20.keep (fun q hq1 hq2 => by rw [fM31 q (by omega)]; rw [fM30 q (by omega)]; rw [fM29 q (by omega)]; rw [fM28 q (by omega)]; rw [fM27 q (by omega)]; rw [fM26 q (by omega)]; rw [fM25 q (by omega)]; rw [fM24 q (by omega)]; rw [fM23 q (by omega)]; rw [fM22 q (by omega)]; rw [fM21 q (by omega)])
  have hh_104 : hhP (b + 104) h_0 M31 := gM23.keep (fun q hq1 hq2 => by rw [fM31 q (by omega)]; rw [fM30 q (by omega)]; rw [fM29 q (by omega)]; rw [fM28 q (by omega)]; rw [fM27 q (by omega)]; rw [fM26 q (by omega)]; rw [fM25 q (by omega)]; rw [fM24 q (by omega)])
  have hh_121 : hhP (b + 121) h_0 M31 := gM26.keep (fun q hq1 hq2 => by rw [fM31 q (by omega)]; rw [fM30 q (by omega)]; rw [fM29 q (by omega)]; rw [fM28 q (by omega)]; rw [fM27 q (by omega)])
  have hh_138 : hhP (b + 138) h_0 M31 := gM29.keep (fun q hq1 hq2 => by rw [fM31 q (by omega)]; rw [fM30 q (by omega)])
  have hall : ∀ i : Nat, i < 9 → hhP (b + 2 + 17 * i) h_0 M31 := fun i hi => by
    have hi9 : i = 0 ∨ i = 1 ∨ i = 2 ∨ i = 3 ∨ i = 4 ∨ i = 5 ∨ i = 6 ∨ i = 7 ∨ i = 8 := by omega
    rcases hi9 with rfl | rfl | rfl | rfl | rfl | rfl | rfl | rfl | rfl
    · rw [show b + 2 + 17 * 0 = b + 2 by omega]; exact hh_2
    · rw [show b + 2 + 17 * 1 = b + 19 by omega]; exact hh_19
    · rw [show b + 2 + 17 * 2 = b + 36 by omega]; exact hh_36
    · rw [show b + 2 + 17 * 3 = b + 53 by omega]; exact hh_53
    · rw [show b + 2 + 17 * 4 = b + 70 by omega]; exact hh_70
    · rw [show b + 2 + 17 * 5 = b + 87 by omega]; exact hh_87
    · rw [show b + 2 + 17 * 6 = b + 104 by omega]; exact hh_104
    · rw [show b + 2 + 17 * 7 = b + 121 by omega]; exact hh_121
    · rw [show b + 2 + 17 * 8 = b + 138 by omega]; exact hh_138
  exact m_vret hC dX6_init_48 hr (Nat.le_of_ble_eq_true rfl) (Nat.le_of_ble_eq_true rfl) ⟨rfl, by omega, ⟨⟨hM31_0, hM31⟩, hall⟩, (fun q hq => by rw [fM31 q (by omega)]; rw [fM30 q (by omega)]; rw [fM29 q (by omega)]; rw [fM28 q (by omega)]; rw [fM27 q (by omega)]; rw [fM26 q (by omega)]; rw [fM25 q (by omega)]; rw [fM24 q (by omega)]; rw [fM23 q (by omega)]; rw [fM22 q (by omega)]; rw [fM21 q (by omega)]; rw [fM20 q (by omega)]; rw [fM19 q (by omega)]; rw [fM18 q (by omega)]; rw [fM17 q (by omega)]; rw [fM16 q (by omega)]; rw [fM15 q (by omega)]; rw [fM14 q (by omega)]; rw [fM13 q (by omega)]; rw [fM12 q (by omega)]; rw [fM11 q (by omega)]; rw [fM10 q (by omega)]; rw [fM9 q (by omega)]; rw [fM8 q (by omega)]; rw [fM7 q (by omega)]; rw [fM6 q (by omega)]; rw [fM5 q (by omega)]; rw [fM4 q (by omega)]; rw [fM3 q (by omega)]; rw [fM2 q (by omega)]; rw [fM1 q (by omega)])⟩

