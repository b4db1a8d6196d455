def hN : Int → Int := fun j => if j = 1 then 100 else if 12 ≤ j ∧ j < 18 then 20 else 0
def w_0 : h_T := fun c i => if c = 0 ∧ (i = 7 ∨ i = 8) then -1 else 0
theorem hN_eq : h_eq (tA hN) h_0 := by
  have key : ∀ (c : Nat) (i : Int), c ≤ 13 → 0 ≤ i ∧ i < h_len c → tA hN c i = h_0 c i := by
    intro c i hc hi
    unfold tA hN h_0
    have hl : (fl c i = 1 ↔ c = 0 ∧ i = 1) ∧ ((12 ≤ fl c i ∧ fl c i < 18) ↔ c = 1) := by
      unfold fl
      unfold h_len at hi
      (repeat' split at hi) <;> (repeat' split) <;> omega
    (repeat' split) <;> first | rfl | omega
  refine ⟨fun k hk => key 0 k (by omega) (by unfold h_len; simpa using hk), fun c i hc hi => key c i hc.2 ?_⟩
  unfold h_n h_0 at hi
  unfold h_len
  simp at hi
  (repeat' split at hi) <;> (repeat' split) <;> omega
set_option maxHeartbeats 4000000 in
set_option maxRecDepth 100000 in
theorem t_X10_init {D : va_G} {aC : Nat → ClassId} {s0 : State} {l : Launch} (hF : m_F D aC s0) (hl : l.stackTraces = false) {b : Nat} {M : m_M} (hsz : M.1 = b + 1) (hb : s0.heap.size ≤ b) (hM : M.2 b = some (m_ob 12 [.null, .null, .null, .null, .null, VI 0, VI 0, VI 0, VI 0, .null, .null, VI 0, .null, VI 0, VI 0, VI 0, VI 0, VI 0, VI 0, .null])) : m_Met D aC s0 l yX10_init cX10_init 2 none 1 (9) (1692) [.ref b] M (fun v M' => v = none ∧ M'.1 = b + 10 ∧ mmV b w_0 h_0 M' ∧ (∀ q : Nat, q < b → M'.2 q = M.2 q)) m_nx := by
  refine m_entry (lv := [(0, .ref b)]) (by decide +kernel) (Nat.le_of_ble_eq_true rfl) rfl hF hl ?_
  intro p e s m args below meth c hC hr hno hnm
  change m_C D aC s0 RX10 _ _ _ _ _ _ _ _ _ at hC
  refine m_aload_n hC 0 dX10_init_0 rfl rfl ?_
  refine m_obji hC dX10_init_1 ko_X10_3 ko_inst ko_code (by decide) (by decide) ?_
  refine m_aload_n hC 0 dX10_init_4 rfl rfl ?_
  refine m_bipush hC dX10_init_5 (by decide) ?_
  refine n_newa (a := b + 1) (k := 0) (n := 91) hC dX10_init_7 (by decide) rfl rfl ka_int (fun _ => Iff.rfl) rfl (by decide) (by decide) (Nat.le_of_ble_eq_true rfl) (Nat.le_of_ble_eq_true rfl) (by omega) (fun M1 zM1 hM1 fM1 => ?_)
  have hM1_0 := (fM1 _ (by omega)).trans hM
  clear hsz
  refine n_putF hC dX10_init_9 kf_X10_9 kw_12_0 (hnm.trans rfl) hM1_0 (by omega) (Nat.le_of_ble_eq_true rfl) rfl rfl (fun M2 zM2 hM2 fM2 => ?_)
  change M2.2 _ = some (m_ob 12 [.ref (b + 1), .null, .null, .null, .null, VI 0, VI 0, VI 0, VI 0, .null, .null, VI 0, .null, VI 0, VI 0, VI 0, VI 0, VI 0, VI 0, .null]) at hM2
  replace zM2 := zM2.trans zM1
  clear zM1
  have hM2_1 := (fM2 _ (by omega)).trans hM1
  refine m_aload_n hC 0 dX10_init_12 rfl rfl ?_
  refine m_bipush hC dX10_init_13 (by decide) ?_
  refine n_newa (a := b + 2) (k := 0) (n := 91) hC dX10_init_15 (by decide) rfl rfl ka_int (fun _ => Iff.rfl) rfl (by decide) (by decide) (Nat.le_of_ble_eq_true rfl) (Nat.le_of_ble_eq_true rfl) (by omega) (fun M3 zM3 hM3 fM3 => ?_)
  have hM3_0 := (fM3 _ (by omega)).trans hM2
  have hM3_1 := (fM3 _ (by omega)).trans hM2_1
  clear zM2
  refine n_putF hC dX10_init_17 kf_X10_13 kw_12_1 (hnm.trans rfl) hM3_0 (by omega) (Nat.le_of_ble_eq_true rfl) rfl rfl (fun M4 zM4 hM4 fM4 => ?_)
  change M4.2 _ = some (m_ob 12 [.ref (b + 1), .ref (b + 2), .null, .null, .null, VI 0, VI 0, VI 0, VI 0, .null, .null, VI 0, .null, VI 0, VI 0, VI 0, VI 0, VI 0, VI 0, .null]) at hM4
  replace zM4 := zM4.trans zM3
  clear zM3
  have hM4_1 := (fM4 _ (by omega)).trans hM3_1
  have hM4_2 := (fM4 _ (by omega)).trans hM3
  refine m_aload_n hC 0 dX10_init_20 rfl rfl ?_
  refine m_bipush hC dX10_init_21 (by decide) ?_
  refine n_newa (a := b + 3) (k := 0) (n := 91) hC dX10_init_23 (by decide) rfl rfl ka_int (fun _ => Iff.rfl) rfl (by decide) (by decide) (Nat.le_of_ble_eq_true rfl) (Nat.le_of_ble_eq_true rfl) (by omega) (fun M5 zM5 hM5 fM5 => ?_)
  have hM5_0 := (fM5 _ (by omega)).trans hM4
  have hM5_1 := (fM5 _ (by omega)).trans hM4_1
  have hM5_2 := (fM5 _ (by omega)).trans hM4_2
  clear zM4
  refine n_putF hC dX10_init_25 kf_X10_16 kw_12_2 (hnm.trans rfl) hM5_0 (by omega) (Nat.le_of_ble_eq_true rfl) rfl rfl (fun M6 zM6 hM6 fM6 => ?_)
  change M6.2 _ = some (m_ob 12 [.ref (b + 1), .ref (b + 2), .ref (b + 3), .null, .null, VI 0, VI 0, VI 0, VI 0, .null, .null, VI 0, .null, VI 0, VI 0, VI 0, VI 0, VI 0, VI 0, .null]) at hM6
  replace zM6 := zM6.trans zM5
  clear zM5
  have hM6_1 := (fM6 _ (by omega)).trans hM5_1
  have hM6_2 := (fM6 _ (by omega)).trans hM5_2
  have hM6_3 := (fM6 _ (by omega)).trans hM5
  refine m_aload_n hC 0 dX10_init_28 rfl rfl ?_
  refine m_bipush hC dX10_init_29 (by decide) ?_
  refine n_newa (a := b + 4) (k := 0) (n := 91) hC dX10_init_31 (by decide) rfl rfl ka_int (fun _ => Iff.rfl) rfl (by decide) (by decide) (Nat.le_of_ble_eq_true rfl) (Nat.le_of_ble_eq_true rfl) (by omega) (fun M7 zM7 hM7 fM7 => ?_)
  have hM7_0 := (fM7 _ (by omega)).trans hM6
  have hM7_1 := (fM7 _ (by omega)).trans hM6_1
  have hM7_2 := (fM7 _ (by omega)).trans hM6_2
  have hM7_3 := (fM7 _ (by omega)).trans hM6_3
  clear zM6
  refine n_putF hC dX10_init_33 kf_X10_19 kw_12_3 (hnm.trans rfl) hM7_0 (by omega) (Nat.le_of_ble_eq_true rfl) rfl rfl (fun M8 zM8 hM8 fM8 => ?_)
  change M8.2 _ = some (m_ob 12 [.ref (b + 1), .ref (b + 2), .ref (b + 3), .ref (b + 4), .null, VI 0, VI 0, VI 0, VI 0, .null, .null, VI 0, .null, VI 0, VI 0, VI 0, VI 0, VI 0, VI 0, .null]) at hM8
  replace zM8 := zM8.trans zM7
  clear zM7
  have hM8_1 := (fM8 _ (by omega)).trans hM7_1
  have hM8_2 := (fM8 _ (by omega)).trans hM7_2
  have hM8_3 := (fM8 _ (by omega)).trans hM7_3
  have hM8_4 := (fM8 _ (by omega)).trans hM7
  refine m_aload_n hC 0 dX10_init_36 rfl rfl ?_
  refine m_sipush hC dX10_init_37 (by decide) ?_
  refine n_newa (a := b + 5) (k := 0) (n := 728) hC dX10_init_40 (by decide) rfl rfl ka_int (fun _ => Iff.rfl) rfl (by decide) (by decide) (Nat.le_of_ble_eq_true rfl) (Nat.le_of_ble_eq_true rfl) (by omega) (fun M9 zM9 hM9 fM9 => ?_)
  have hM9_0 := (fM9 _ (by omega)).trans hM8
  have hM9_1 := (fM9 _ (by omega)).trans hM8_1
  have hM9_2 := (fM9 _ (by omega)).trans hM8_2
  have hM9_3 := (fM9 _ (by omega)).trans hM8_3
  have hM9_4 := (fM9 _ (by omega)).trans hM8_4
  clear zM8
  refine n_putF hC dX10_init_42 kf_X10_22 kw_12_4 (hnm.trans rfl) hM9_0 (by omega) (Nat.le_of_ble_eq_true rfl) rfl rfl (fun M10 zM10 hM10 fM10 => ?_)
  change M10.2 _ = some (m_ob 12 [.ref (b + 1), .ref (b + 2), .ref (b + 3), .ref (b + 4), .ref (b + 5), VI 0, VI 0, VI 0, VI 0, .null, .null, VI 0, .null, VI 0, VI 0, VI 0, VI 0, VI 0, VI 0, .null]) at hM10
  replace zM10 := zM10.trans zM9
  clear zM9
  have hM10_1 := (fM10 _ (by omega)).trans hM9_1
  have hM10_2 := (fM10 _ (by omega)).trans hM9_2
  have hM10_3 := (fM10 _ (by omega)).trans hM9_3
  have hM10_4 := (fM10 _ (by omega)).trans hM9_4
  have hM10_5 := (fM10 _ (by omega)).trans hM9
  refine m_aload_n hC 0 dX10_init_45 rfl rfl ?_
  refine m_iconst hC dX10_init_46 ?_
  refine n_putf hC dX10_init_47 kf_X10_25 kw_12_7 hM10 (by omega) (Nat.le_of_ble_eq_true rfl) rfl rfl (fun M11 zM11 hM11 fM11 => ?_)
  change M11.2 _ = some (m_ob 12 [.ref (b + 1), .ref (b + 2), .ref (b + 3), .ref (b + 4), .ref (b + 5), VI 0, VI 0, VI (-1), VI 0, .null, .null, VI 0, .null, VI 0, VI 0, VI 0, VI 0, VI 0, VI 0, .null]) at hM11
  replace zM11 := zM11.trans zM10
  clear zM10
  have hM11_1 := (fM11 _ (by omega)).trans hM10_1
  have hM11_2 := (fM11 _ (by omega)).trans hM10_2
  have hM11_3 := (fM11 _ (by omega)).trans hM10_3
  have hM11_4 := (fM11 _ (by omega)).trans hM10_4
  have hM11_5 := (fM11 _ (by omega)).trans hM10_5
  refine m_aload_n hC 0 dX10_init_50 rfl rfl ?_
  refine m_iconst hC dX10_init_51 ?_
  refine n_putf hC dX10_init_52 kf_X10_29 kw_12_8 hM11 (by omega) (Nat.le_of_ble_eq_true rfl) rfl rfl (fun M12 zM12 hM12 fM12 => ?_)
  change M12.2 _ = some (m_ob 12 [.ref (b + 1), .ref (b + 2), .ref (b + 3), .ref (b + 4), .ref (b + 5), VI 0, VI 0, VI (-1), VI (-1), .null, .null, VI 0, .null, VI 0, VI 0, VI 0, VI 0, VI 0, VI 0, .null]) at hM12
  replace zM12 := zM12.trans zM11
  clear zM11
  have hM12_1 := (fM12 _ (by omega)).trans hM11_1
  have hM12_2 := (fM12 _ (by omega)).trans hM11_2
  have hM12_3 := (fM12 _ (by omega)).trans hM11_3
  have hM12_4 := (fM12 _ (by omega)).trans hM11_4
  have hM12_5 := (fM12 _ (by omega)).trans hM11_5
  refine m_aload_n hC 0 dX10_init_55 rfl rfl ?_
  refine m_bipush hC dX10_init_56 (by decide) ?_
  refine n_newa (a := b + 6) (k := 0) (n := 60) hC dX10_init_58 (by decide) rfl rfl ka_int (fun _ => Iff.rfl) rfl (by decide) (by decide) (Nat.le_of_ble_eq_true rfl) (Nat.le_of_ble_eq_true rfl) (by omega) (fun M13 zM13 hM13 fM13 => ?_)
  have hM13_0 := (fM13 _ (by omega)).trans hM12
  have hM13_1 := (fM13 _ (by omega)).trans hM12_1
  have hM13_2 := (fM13 _ (by omega)).trans hM12_2
  have hM13_3 := (fM13 _ (by omega)).trans hM12_3
  have hM13_4 := (fM13 _ (by omega)).trans hM12_4
  have hM13_5 := (fM13 _ (by omega)).trans hM12_5
  clear zM12
  refine n_putF hC dX10_init_60 kf_X10_32 kw_12_9 (hnm.trans rfl) hM13_0 (by omega) (Nat.le_of_ble_eq_true rfl) rfl rfl (fun M14 zM14 hM14 fM14 => ?_)
  change M14.2 _ = some (m_ob 12 [.ref (b + 1), .ref (b + 2), .ref (b + 3), .ref (b + 4), .ref (b + 5), VI 0, VI 0, VI (-1), VI (-1), .ref (b + 6), .null, VI 0, .null, VI 0, VI 0, VI 0, VI 0, VI 0, VI 0, .null]) at hM14
  replace zM14 := zM14.trans zM13
  clear zM13
  have hM14_1 := (fM14 _ (by omega)).trans hM13_1
  have hM14_2 := (fM14 _ (by omega)).trans hM13_2
  have hM14_3 := (fM14 _ (by omega)).trans hM13_3
  have hM14_4 := (fM14 _ (by omega)).trans hM13_4
  have hM14_5 := (fM14 _ (by omega)).trans hM13_5
  have hM14_6 := (fM14 _ (by omega)).trans hM13
  refine m_aload_n hC 0 dX10_init_63 rfl rfl ?_
  refine m_bipush hC dX10_init_64 (by decide) ?_
  refine n_newa (a := b + 7) (k := 0) (n := 60) hC dX10_init_66 (by decide) rfl rfl ka_int (fun _ => Iff.rfl) rfl (by decide) (by decide) (Nat.le_of_ble_eq_true rfl) (Nat.le_of_ble_eq_true rfl) (by omega) (fun M15 zM15 hM15 fM15 => ?_)
  have hM15_0 := (fM15 _ (by omega)).trans hM14
  have hM15_1 := (fM15 _ (by omega)).trans hM14_1
  have hM15_2 := (fM15 _ (by omega)).trans hM14_2
  have hM15_3 := (fM15 _ (by omega)).trans hM14_3
  have hM15_4 := (fM15 _ (by omega)).trans hM14_4
  have hM15_5 := (fM15 _ (by omega)).trans hM14_5
  have hM15_6 := (fM15 _ (by omega)).trans hM14_6
  clear zM14
  refine n_putF hC dX10_init_68 kf_X10_35 kw_12_10 (hnm.trans rfl) hM15_0 (by omega) (Nat.le_of_ble_eq_true rfl) rfl rfl (fun M16 zM16 hM16 fM16 => ?_)
  change M16.2 _ = some (m_ob 12 [.ref (b + 1), .ref (b + 2), .ref (b + 3), .ref (b + 4), .ref (b + 5), VI 0, VI 0, VI (-1), VI (-1), .ref (b + 6), .ref (b + 7), VI 0, .null, VI 0, VI 0, VI 0, VI 0, VI 0, VI 0, .null]) at hM16
  replace zM16 := zM16.trans zM15
  clear zM15
  have hM16_1 := (fM16 _ (by omega)).trans hM15_1
  have hM16_2 := (fM16 _ (by omega)).trans hM15_2
  have hM16_3 := (fM16 _ (by omega)).trans hM15_3
  have hM16_4 := (fM16 _ (by omega)).trans hM15_4
  have hM16_5 := (fM16 _ (by omega)).trans hM15_5
  have hM16_6 := (fM16 _ (by omega)).trans hM15_6
  have hM16_7 := (fM16 _ (by omega)).trans hM15
  refine m_aload_n hC 0 dX10_init_71 rfl rfl ?_
  refine m_sipush hC dX10_init_72 (by decide) ?_
  refine n_newa (a := b + 8) (k := 0) (n := 240) hC dX10_init_75 (by decide) rfl rfl ka_int (fun _ => Iff.rfl) rfl (by decide) (by decide) (Nat.le_of_ble_eq_true rfl) (Nat.le_of_ble_eq_true rfl) (by omega) (fun M17 zM17 hM17 fM17 => ?_)
  have hM17_0 := (fM17 _ (by omega)).trans hM16
  have hM17_1 := (fM17 _ (by omega)).trans hM16_1
  have hM17_2 := (fM17 _ (by omega)).trans hM16_2
  have hM17_3 := (fM17 _ (by omega)).trans hM16_3
  have hM17_4 := (fM17 _ (by omega)).trans hM16_4
  have hM17_5 := (fM17 _ (by omega)).trans hM16_5
  have hM17_6 := (fM17 _ (by omega)).trans hM16_6
  have hM17_7 := (fM17 _ (by omega)).trans hM16_7
  clear zM16
  refine n_putF hC dX10_init_77 kf_X10_38 kw_12_12 (hnm.trans rfl) hM17_0 (by omega) (Nat.le_of_ble_eq_true rfl) rfl rfl (fun M18 zM18 hM18 fM18 => ?_)
  change M18.2 _ = some (m_ob 12 [.ref (b + 1), .ref (b + 2), .ref (b + 3), .ref (b + 4), .ref (b + 5), VI 0, VI 0, VI (-1), VI (-1), .ref (b + 6), .ref (b + 7), VI 0, .ref (b + 8), VI 0, VI 0, VI 0, VI 0, VI 0, VI 0, .null]) at hM18
  replace zM18 := zM18.trans zM17
  clear zM17
  have hM18_1 := (fM18 _ (by omega)).trans hM17_1
  have hM18_2 := (fM18 _ (by omega)).trans hM17_2
  have hM18_3 := (fM18 _ (by omega)).trans hM17_3
  have hM18_4 := (fM18 _ (by omega)).trans hM17_4
  have hM18_5 := (fM18 _ (by omega)).trans hM17_5
  have hM18_6 := (fM18 _ (by omega)).trans hM17_6
  have hM18_7 := (fM18 _ (by omega)).trans hM17_7
  have hM18_8 := (fM18 _ (by omega)).trans hM17
  refine m_aload_n hC 0 dX10_init_80 rfl rfl ?_
  refine m_sipush hC dX10_init_81 (by decide) ?_
  refine n_newa (a := b + 9) (k := 0) (n := 150) hC dX10_init_84 (by decide) rfl rfl ka_int (fun _ => Iff.rfl) rfl (by decide) (by decide) (Nat.le_of_ble_eq_true rfl) (Nat.le_of_ble_eq_true rfl) (by omega) (fun M19 zM19 hM19 fM19 => ?_)
  have hM19_0 := (fM19 _ (by omega)).trans hM18
  have hM19_1 := (fM19 _ (by omega)).trans hM18_1
  have hM19_2 := (fM19 _ (by omega)).trans hM18_2
  have hM19_3 := (fM19 _ (by omega)).trans hM18_3
  have hM19_4 := (fM19 _ (by omega)).trans hM18_4
  have hM19_5 := (fM19 _ (by omega)).trans hM18_5
  have hM19_6 := (fM19 _ (by omega)).trans hM18_6
  have hM19_7 := (fM19 _ (by omega)).trans hM18_7
  have hM19_8 := (fM19 _ (by omega)).trans hM18_8
  clear zM18
  refine n_putF hC dX10_init_86 kf_X10_41 kw_12_19 (hnm.trans rfl) hM19_0 (by omega) (Nat.le_of_ble_eq_true rfl) rfl rfl (fun M20 zM20 hM20 fM20 => ?_)
  change M20.2 _ = some (m_ob 12 [.ref (b + 1), .ref (b + 2), .ref (b + 3), .ref (b + 4), .ref (b + 5), VI 0, VI 0, VI (-1), VI (-1), .ref (b + 6), .ref (b + 7), VI 0, .ref (b + 8), VI 0, VI 0, VI 0, VI 0, VI 0, VI 0, .ref (b + 9)]) at hM20
  replace zM20 := zM20.trans zM19
  clear zM19
  have hM20_1 := (fM20 _ (by omega)).trans hM19_1
  have hM20_2 := (fM20 _ (by omega)).trans hM19_2
  have hM20_3 := (fM20 _ (by omega)).trans hM19_3
  have hM20_4 := (fM20 _ (by omega)).trans hM19_4
  have hM20_5 := (fM20 _ (by omega)).trans hM19_5
  have hM20_6 := (fM20 _ (by omega)).trans hM19_6
  have hM20_7 := (fM20 _ (by omega)).trans hM19_7
  have hM20_8 := (fM20 _ (by omega)).trans hM19_8
  have hM20_9 := (fM20 _ (by omega)).trans hM19
  refine m_aload_n hC 0 dX10_init_89 rfl rfl ?_
  refine m_getf hC dX10_init_90 kf_X10_9 hM20 rfl ?_
  refine m_iconst hC dX10_init_93 ?_
  refine m_bipush hC dX10_init_94 (by decide) ?_
  refine n_iast hC dX10_init_96 hM20_1 (by omega) (by decide) (by decide) (fun M21 zM21 hM21 fM21 => ?_)
  replace zM21 := zM21.trans zM20
  clear zM20
  have hM21_0 := (fM21 _ (by omega)).trans hM20
  have hM21_2 := (fM21 _ (by omega)).trans hM20_2
  have hM21_3 := (fM21 _ (by omega)).trans hM20_3
  have hM21_4 := (fM21 _ (by omega)).trans hM20_4
  have hM21_5 := (fM21 _ (by omega)).trans hM20_5
  have hM21_6 := (fM21 _ (by omega)).trans hM20_6
  have hM21_7 := (fM21 _ (by omega)).trans hM20_7
  have hM21_8 := (fM21 _ (by omega)).trans hM20_8
  have hM21_9 := (fM21 _ (by omega)).trans hM20_9
  refine m_iconst hC dX10_init_97 ?_
  refine m_istore_n hC dX10_init_98 rfl (by decide) rfl ?_
  refine m_iload_n hC 0 dX10_init_99 rfl rfl ?_
  refine m_bipush hC dX10_init_100 (by decide) ?_
  refine m_icmp_ge (tgt := 122) hC dX10_init_102 (by decide) (by decide) (fun c => absurd c (by decide)) (fun c => ?_)
  refine m_aload_n hC 1 dX10_init_105 rfl rfl ?_
  refine m_getf hC dX10_init_106 kf_X10_9 hM21_0 rfl ?_
  refine m_bipush hC dX10_init_109 (by decide) ?_
  refine m_iload_n hC 0 dX10_init_111 rfl rfl ?_
  refine m_iadd hC dX10_init_112 ?_
  refine m_bipush hC dX10_init_113 (by decide) ?_
  refine n_iast hC dX10_init_115 hM21 (by omega) (by decide) (by decide) (fun M22 zM22 hM22 fM22 => ?_)
  replace zM22 := zM22.trans zM21
  clear zM21
  have hM22_0 := (fM22 _ (by omega)).trans hM21_0
  have hM22_2 := (fM22 _ (by omega)).trans hM21_2
  have hM22_3 := (fM22 _ (by omega)).trans hM21_3
  have hM22_4 := (fM22 _ (by omega)).trans hM21_4
  have hM22_5 := (fM22 _ (by omega)).trans hM21_5
  have hM22_6 := (fM22 _ (by omega)).trans hM21_6
  have hM22_7 := (fM22 _ (by omega)).trans hM21_7
  have hM22_8 := (fM22 _ (by omega)).trans hM21_8
  have hM22_9 := (fM22 _ (by omega)).trans hM21_9
  refine m_iinc hC 0 dX10_init_116 rfl (by decide) rfl ?_
  refine m_goto (tgt := 99) hC dX10_init_119 (by decide) ?_
  refine m_lvs (lv2 := [(1, VI 1), (0, .ref b)]) [0, 1] rfl ?_
  refine m_wd (k := 9) (n := 1602) (Nat.le_of_ble_eq_true rfl) (Nat.le_of_ble_eq_true rfl) ?_
  refine m_iload_n hC 0 dX10_init_99 rfl rfl ?_
  refine m_bipush hC dX10_init_100 (by decide) ?_
  refine m_icmp_ge (tgt := 122) hC dX10_init_102 (by decide) (by decide) (fun c => absurd c (by decide)) (fun c => ?_)
  refine m_aload_n hC 1 dX10_init_105 rfl rfl ?_
  refine m_getf hC dX10_init_106 kf_X10_9 hM22_0 rfl ?_
  refine m_bipush hC dX10_init_109 (by decide) ?_
  refine m_iload_n hC 0 dX10_init_111 rfl rfl ?_
  refine m_iadd hC dX10_init_112 ?_
  refine m_bipush hC dX10_init_113 (by decide) ?_
  refine n_iast hC dX10_init_115 hM22 (by omega) (by decide) (by decide) (fun M23 zM23 hM23 fM23 => ?_)
  replace zM23 := zM23.trans zM22
  clear zM22
  have hM23_0 := (fM23 _ (by omega)).trans hM22_0
  have hM23_2 := (fM23 _ (by omega)).trans hM22_2
  have hM23_3 := (fM23 _ (by omega)).trans hM22_3
  have hM23_4 := (fM23 _ (by omega)).trans hM22_4
  have hM23_5 := (fM23 _ (by omega)).trans hM22_5
  have hM23_6 := (fM23 _ (by omega)).trans hM22_6
  have hM23_7 := (fM23 _ (by omega)).trans hM22_7
  have hM23_8 := (fM23 _ (by omega)).trans hM22_8
  have hM23_9 := (fM23 _ (by omega)).trans hM22_9
  refine m_iinc hC 0 dX10_init_116 rfl (by decide) rfl ?_
  refine m_goto (tgt := 99) hC dX10_init_119 (by decide) ?_
  refine m_lvs (lv2 := [(1, VI 2), (0, .ref b)]) [0, 1] rfl ?_
  refine m_wd (k := 9) (n := 1602) (Nat.le_of_ble_eq_true rfl) (Nat.le_of_ble_eq_true rfl) ?_
  refine m_iload_n hC 0 dX10_init_99 rfl rfl ?_
  refine m_bipush hC dX10_init_100 (by decide) ?_
  refine m_icmp_ge (tgt := 122) hC dX10_init_102 (by decide) (by decide) (fun c => absurd c (by decide)) (fun c => ?_)
  refine m_aload_n hC 1 dX10_init_105 rfl rfl ?_
  refine m_getf hC dX10_init_106 kf_X10_9 hM23_0 rfl ?_
  refine m_bipush hC dX10_init_109 (by decide) ?_
  refine m_iload_n hC 0 dX10_init_111 rfl rfl ?_
  refine m_iadd hC dX10_init_112 ?_
  refine m_bipush hC dX10_init_113 (by decide) ?_
  refine n_iast hC dX10_init_115 hM23 (by omega) (by decide) (by decide) (fun M24 zM24 hM24 fM24 => ?_)
  replace zM24 := zM24.trans zM23
  clear zM23
  have hM24_0 := (fM24 _ (by omega)).trans hM23_0
  have hM24_2 := (fM24 _ (by omega)).trans hM23_2
  have hM24_3 := (fM24 _ (by omega)).trans hM23_3
  have hM24_4 := (fM24 _ (by omega)).trans hM23_4
  have hM24_5 := (fM24 _ (by omega)).trans hM23_5
  have hM24_6 := (fM24 _ (by omega)).trans hM23_6
  have hM24_7 := (fM24 _ (by omega)).trans hM23_7
  have hM24_8 := (fM24 _ (by omega)).trans hM23_8
  have hM24_9 := (fM24 _ (by omega)).trans hM23_9
  refine m_iinc hC 0 dX10_init_116 rfl (by decide) rfl ?_
  refine m_goto (tgt := 99) hC dX10_init_119 (by decide) ?_
  refine m_lvs (lv2 := [(1, VI 3), (0, .ref b)]) [0, 1] rfl ?_
  refine m_wd (k := 9) (n := 1602) (Nat.le_of_ble_eq_true rfl) (Nat.le_of_ble_eq_true rfl) ?_
  refine m_iload_n hC 0 dX10_init_99 rfl rfl ?_
  refine m_bipush hC dX10_init_100 (by decide) ?_
  refine m_icmp_ge (tgt := 122) hC dX10_init_102 (by decide) (by decide) (fun c => absurd c (by decide)) (fun c => ?_)
  refine m_aload_n hC 1 dX10_init_105 rfl rfl ?_
  refine m_getf hC dX10_init_106 kf_X10_9 hM24_0 rfl ?_
  refine m_bipush hC dX10_init_109 (by decide) ?_
  refine m_iload_n hC 0 dX10_init_111 rfl rfl ?_
  refine m_iadd hC dX10_init_112 ?_
  refine m_bipush hC dX10_init_113 (by decide) ?_
  refine n_iast hC dX10_init_115 hM24 (by omega) (by decide) (by decide) (fun M25 zM25 hM25 fM25 => ?_)
  replace zM25 := zM25.trans zM24
  clear zM24
  have hM25_0 := (fM25 _ (by omega)).trans hM24_0
  have hM25_2 := (fM25 _ (by omega)).trans hM24_2
  have hM25_3 := (fM25 _ (by omega)).trans hM24_3
  have hM25_4 := (fM25 _ (by omega)).trans hM24_4
  have hM25_5 := (fM25 _ (by omega)).trans hM24_5
  have hM25_6 := (fM25 _ (by omega)).trans hM24_6
  have hM25_7 := (fM25 _ (by omega)).trans hM24_7
  have hM25_8 := (fM25 _ (by omega)).trans hM24_8
  have hM25_9 := (fM25 _ (by omega)).trans hM24_9
  refine m_iinc hC 0 dX10_init_116 rfl (by decide) rfl ?_
  refine m_goto (tgt := 99) hC dX10_init_119 (by decide) ?_
  refine m_lvs (lv2 := [(1, VI 4), (0, .ref b)]) [0, 1] rfl ?_
  refine m_wd (k := 9) (n := 1602) (Nat.le_of_ble_eq_true rfl) (Nat.le_of_ble_eq_true rfl) ?_
  refine m_iload_n hC 0 dX10_init_99 rfl rfl ?_
  refine m_bipush hC dX10_init_100 (by decide) ?_
  refine m_icmp_ge (tgt := 122) hC dX10_init_102 (by decide) (by decide) (fun c => absurd c (by decide)) (fun c => ?_)
  refine m_aload_n hC 1 dX10_init_105 rfl rfl ?_
  refine m_getf hC dX10_init_106 kf_X10_9 hM25_0 rfl ?_
  refine m_bipush hC dX10_init_109 (by decide) ?_
  refine m_iload_n hC 0 dX10_init_111 rfl rfl ?_
  refine m_iadd hC dX10_init_112 ?_
  refine m_bipush hC dX10_init_113 (by decide) ?_
  refine n_iast hC dX10_init_115 hM25 (by omega) (by decide) (by decide) (fun M26 zM26 hM26 fM26 => ?_)
  replace zM26 := zM26.trans zM25
  clear zM25
  have hM26_0 := (fM26 _ (by omega)).trans hM25_0
  have hM26_2 := (fM26 _ (by omega)).trans hM25_2
  have hM26_3 := (fM26 _ (by omega)).trans hM25_3
  have hM26_4 := (fM26 _ (by omega)).trans hM25_4
  have hM26_5 := (fM26 _ (by omega)).trans hM25_5
  have hM26_6 := (fM26 _ (by omega)).trans hM25_6
  have hM26_7 := (fM26 _ (by omega)).trans hM25_7
  have hM26_8 := (fM26 _ (by omega)).trans hM25_8
  have hM26_9 := (fM26 _ (by omega)).trans hM25_9
  refine m_iinc hC 0 dX10_init_116 rfl (by decide) rfl ?_
  refine m_goto (tgt := 99) hC dX10_init_119 (by decide) ?_
  refine m_lvs (lv2 := [(1, VI 5), (0, .ref b)]) [0, 1] rfl ?_
  refine m_wd (k := 9) (n := 1602) (Nat.le_of_ble_eq_true rfl) (Nat.le_of_ble_eq_true rfl) ?_
  refine m_iload_n hC 0 dX10_init_99 rfl rfl ?_
  refine m_bipush hC dX10_init_100 (by decide) ?_
  refine m_icmp_ge (tgt := 122) hC dX10_init_102 (by decide) (by decide) (fun c => absurd c (by decide)) (fun c => ?_)
  refine m_aload_n hC 1 dX10_init_105 rfl rfl ?_
  refine m_getf hC dX10_init_106 kf_X10_9 hM26_0 rfl ?_
  refine m_bipush hC dX10_init_109 (by decide) ?_
  refine m_iload_n hC 0 dX10_init_111 rfl rfl ?_
  refine m_iadd hC dX10_init_112 ?_
  refine m_bipush hC dX10_init_113 (by decide) ?_
  refine n_iast hC dX10_init_115 hM26 (by omega) (by decide) (by decide) (fun M27 zM27 hM27 fM27 => ?_)
  replace zM27 := zM27.trans zM26
  clear zM26
  have hM27_0 := (fM27 _ (by omega)).trans hM26_0
  have hM27_2 := (fM27 _ (by omega)).trans hM26_2
  have hM27_3 := (fM27 _ (by omega)).trans hM26_3
  have hM27_4 := (fM27 _ (by omega)).trans hM26_4
  have hM27_5 := (fM27 _ (by omega)).trans hM26_5
  have hM27_6 := (fM27 _ (by omega)).trans hM26_6
  have hM27_7 := (fM27 _ (by omega)).trans hM26_7
  have hM27_8 := (fM27 _ (by omega)).trans hM26_8
  have hM27_9 := (fM27 _ (by omega)).trans hM26_9
  refine m_iinc hC 0 dX10_init_116 rfl (by decide) rfl ?_
  refine m_goto (tgt := 99) hC dX10_init_119 (by decide) ?_
  refine m_lvs (lv2 := [(1, VI 6), (0, .ref b)]) [0, 1] rfl ?_
  refine m_wd (k := 9) (n := 1602) (Nat.le_of_ble_eq_true rfl) (Nat.le_of_ble_eq_true rfl) ?_
  refine m_iload_n hC 0 dX10_init_99 rfl rfl ?_
  refine m_bipush hC dX10_init_100 (by decide) ?_
  refine m_icmp_ge (tgt := 122) hC dX10_init_102 (by decide) (by decide) (fun c => ?_) (fun c => absurd c (by decide))
  refine n_norm hM27 (n_ia (g2 := hN) (fun j hj => by unfold hN; simp only [m_ug]; (repeat' split) <;> omega)) (fun M28 zM28 hM28 fM28 => ?_)
  replace zM28 := zM28.trans zM27
  clear zM27
  have hM28_0 := (fM28 _ (by omega)).trans hM27_0
  have hM28_2 := (fM28 _ (by omega)).trans hM27_2
  have hM28_3 := (fM28 _ (by omega)).trans hM27_3
  have hM28_4 := (fM28 _ (by omega)).trans hM27_4
  have hM28_5 := (fM28 _ (by omega)).trans hM27_5
  have hM28_6 := (fM28 _ (by omega)).trans hM27_6
  have hM28_7 := (fM28 _ (by omega)).trans hM27_7
  have hM28_8 := (fM28 _ (by omega)).trans hM27_8
  have hM28_9 := (fM28 _ (by omega)).trans hM27_9
  exact m_vret hC dX10_init_122 hr (Nat.le_of_ble_eq_true rfl) (Nat.le_of_ble_eq_true rfl) ⟨rfl, by omega, ⟨wc w_0 1 hN, ⟨hM28_0, hM28, hM28_2, hM28_3, hM28_4, hM28_5, hM28_6, hM28_7, hM28_8, hM28_9⟩, fun c q => wc_n q, hN_eq⟩, (fun q hq => by rw [fM28 q (by omega)]; rw [fM27 q (by omega)]; rw [fM26 q (by omega)]; rw [fM25 q (by omega)]; rw [fM24 q (by omega)]; rw [fM23 q (by omega)]; rw [fM22 q (by omega)]; rw [fM21 q (by omega)]; rw [fM20 q (by omega)]; rw [fM19 q (by omega)]; rw [fM18 q (by omega)]; rw [fM17 q (by omega)]; rw [fM16 q (by omega)]; rw [fM15 q (by omega)]; rw [fM14 q (by omega)]; rw [fM13 q (by omega)]; rw [fM12 q (by omega)]; rw [fM11 q (by omega)]; rw [fM10 q (by omega)]; rw [fM9 q (by omega)]; rw [fM8 q (by omega)]; rw [fM7 q (by omega)]; rw [fM6 q (by omega)]; rw [fM5 q (by omega)]; rw [fM4 q (by omega)]; rw [fM3 q (by omega)]; rw [fM2 q (by omega)]; rw [fM1 q (by omega)])⟩

