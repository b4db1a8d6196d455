set_option maxHeartbeats 4000000 in
set_option maxRecDepth 100000 in
theorem t_J5_init_d00df {D : va_G} {aC : Nat → ClassId} {s0 : State} {l : Launch} (hF : m_F D aC s0) (hl : l.stackTraces = false) {fo ks vs : Nat → Nat} {fA sA dO dT : Nat} (hJ : m_J s0 fo ks vs fA sA dO dT) {b : Nat} {M : m_M} (hsz : M.1 = b + 1) (hb : s0.heap.size ≤ b) (hM : M.2 b = some (m_ob 1 [.null, VI 0, VI 0, VI 0])) : m_Met D aC s0 l yJ5_init_d00df cJ5_init_d00df 2 none 1 (1) (16) [.ref b, VI 16] M (fun v M' => v = none ∧ M'.1 = b + 2 ∧ (M'.2 b = some (m_ob 1 [.ref (b + 1), VI 0, VI 0, VI 0]) ∧ M'.2 (b + 1) = some (m_ia 2 16 (fun _ => 0))) ∧ (∀ q : Nat, q < b → M'.2 q = M.2 q)) m_nx := by
  refine m_entry (lv := [(0, .ref b), (1, VI 16)]) (by decide +kernel) (Nat.le_of_ble_eq_true rfl) rfl hF hl ?_
  intro p e s m args below meth c hC hr hno hnm
  change m_C D aC s0 RJ5 _ _ _ _ _ _ _ _ _ at hC
  refine m_aload_n hC 0 dJ5_init_d00df_0 rfl rfl ?_
  refine m_obji hC dJ5_init_d00df_1 ko_J5_3 ko_inst ko_code (by decide) (by decide) ?_
  refine m_gets hC hJ.cZ kg_J5_18 dJ5_init_d00df_4 ?_
  refine m_if_eq (tgt := 25) hC dJ5_init_d00df_7 (by decide) (by decide) (fun c => absurd c (by decide)) (fun c => ?_)
  refine m_aload_n hC 0 dJ5_init_d00df_10 rfl rfl ?_
  refine m_iload_n hC 1 dJ5_init_d00df_11 rfl rfl ?_
  refine n_newa (a := b + 1) (k := 2) (n := 16) hC dJ5_init_d00df_12 (by decide) rfl rfl ka_byte (fun _ => Iff.rfl) rfl (by decide) (by decide) (Nat.le_of_ble_eq_true rfl) (Nat.le_of_ble_eq_true rfl) (by omega) (fun M1 zM1 hM1 fM1 => ?_)
  have hM1_0 := (fM1 _ (by omega)).trans hM
  clear hsz
  refine n_putf hC dJ5_init_d00df_14 kf_J5_15 kw_1_0 hM1_0 (by omega) (Nat.le_of_ble_eq_true rfl) rfl rfl (fun M2 zM2 hM2 fM2 => ?_)
  change M2.2 _ = some (m_ob 1 [.ref (b + 1), VI 0, VI 0, VI 0]) at hM2
  replace zM2 := zM2.trans zM1
  clear zM1
  have hM2_1 := (fM2 _ (by omega)).trans hM1
  refine m_aload_n hC 0 dJ5_init_d00df_17 rfl rfl ?_
  refine m_iconst hC dJ5_init_d00df_18 ?_
  refine n_putf hC dJ5_init_d00df_19 kf_J5_22 kw_1_1 hM2 (by omega) (Nat.le_of_ble_eq_true rfl) rfl rfl (fun M3 zM3 hM3 fM3 => ?_)
  change M3.2 _ = some (m_ob 1 [.ref (b + 1), VI 0, VI 0, VI 0]) at hM3
  replace zM3 := zM3.trans zM2
  clear zM2
  have hM3_1 := (fM3 _ (by omega)).trans hM2_1
  refine m_goto (tgt := 38) hC dJ5_init_d00df_22 (by decide) ?_
  refine m_lvs (lv2 := [(1, VI 16), (0, .ref b)]) [1, 0] rfl ?_
  refine m_wd (k := 1) (n := 16) (Nat.le_of_ble_eq_true rfl) (Nat.le_of_ble_eq_true rfl) ?_
  exact m_vret hC dJ5_init_d00df_38 hr (Nat.le_of_ble_eq_true rfl) (Nat.le_of_ble_eq_true rfl) ⟨rfl, by omega, ⟨hM3, hM3_1⟩, (fun q hq => by rw [fM3 q (by omega)]; rw [fM2 q (by omega)]; rw [fM1 q (by omega)])⟩

set_option maxHeartbeats 4000000 in
set_option maxRecDepth 100000 in
theorem t_J4_init_da8c8 {D : va_G} {aC : Nat → ClassId} {s0 : State} {l : Launch} (hF : m_F D aC s0) (hl : l.stackTraces = false) {fo ks vs : Nat → Nat} {fA sA dO dT : Nat} (hJ : m_J s0 fo ks vs fA sA dO dT) {b : Nat} {M : m_M} (hsz : M.1 = b + 1) (hb : s0.heap.size ≤ b) (hM : M.2 b = some (m_ob 1 [.null, VI 0, VI 0, VI 0])) : m_Met D aC s0 l yJ4_init_da8c8 cJ4_init_da8c8 1 none 2 (1) (16) [.ref b] M (fun v M' => v = none ∧ M'.1 = b + 2 ∧ (M'.2 b = some (m_ob 1 [.ref (b + 1), VI 0, VI 0, VI 0]) ∧ M'.2 (b + 1) = some (m_ia 2 16 (fun _ => 0))) ∧ (∀ q : Nat, q < b → M'.2 q = M.2 q)) m_nx := by
  refine m_entry (lv := [(0, .ref b)]) (by decide +kernel) (Nat.le_of_ble_eq_true rfl) rfl hF hl ?_
  intro p e s m args below meth c hC hr hno hnm
  change m_C D aC s0 RJ4 _ _ _ _ _ _ _ _ _ at hC
  refine m_aload_n hC 0 dJ4_init_da8c8_0 rfl rfl ?_
  refine m_bipush hC dJ4_init_da8c8_1 (by decide) ?_
  refine m_callI hC (t_J5_init_d00df hF hl hJ (b := b) (by omega) (by omega) hM) dJ4_init_da8c8_3 kc_J5_init_d00df kI_J4_1 rfl rfl (Nat.le_of_ble_eq_true rfl) (by decide) ⟨Nat.le_of_ble_eq_true rfl, Nat.le_of_ble_eq_true rfl⟩ m_nox (fun v9 M1 h9 => ?_)
  obtain ⟨rfl, zM1, gM1, fM1⟩ := h9
  clear hsz
  exact m_vret hC dJ4_init_da8c8_6 hr (Nat.le_of_ble_eq_true rfl) (Nat.le_of_ble_eq_true rfl) ⟨rfl, by omega, ⟨gM1.1, gM1.2⟩, (fun q hq => by rw [fM1 q (by omega)])⟩

set_option maxHeartbeats 4000000 in
set_option maxRecDepth 100000 in
theorem t_X2_init {D : va_G} {aC : Nat → ClassId} {s0 : State} {l : Launch} (hF : m_F D aC s0) (hl : l.stackTraces = false) {fo ks vs : Nat → Nat} {fA sA dO dT : Nat} (hJ : m_J s0 fo ks vs fA sA dO dT) {b : Nat} {M : m_M} (hsz : M.1 = b + 1) (hb : s0.heap.size ≤ b) (hM : M.2 b = some (m_ob 5 [.null, VI 0, .null])) : m_Met D aC s0 l yX2_init cX2_init 1 none 1 (1) (4) [.ref b] M (fun v M' => v = none ∧ M'.1 = b + 2 ∧ (M'.2 b = some (m_ob 5 [.ref (b + 1), VI 0, .ref (fo 11)]) ∧ M'.2 (b + 1) = some (m_ia 0 4 (fun _ => 0))) ∧ (∀ q : Nat, q < b → M'.2 q = M.2 q)) m_nx := by
  refine m_entry (lv := [(0, .ref b)]) (by decide +kernel) (Nat.le_of_ble_eq_true rfl) rfl hF hl ?_
  intro p e s m args below meth c hC hr hno hnm
  change m_C D aC s0 RX2 _ _ _ _ _ _ _ _ _ at hC
  refine m_aload_n hC 0 dX2_init_0 rfl rfl ?_
  refine m_obji hC dX2_init_1 ko_X2_3 ko_inst ko_code (by decide) (by decide) ?_
  refine m_aload_n hC 0 dX2_init_4 rfl rfl ?_
  refine m_iconst hC dX2_init_5 ?_
  refine n_newa (a := b + 1) (k := 0) (n := 4) hC dX2_init_6 (by decide) rfl rfl ka_int (fun _ => Iff.rfl) rfl (by decide) (by decide) (Nat.le_of_ble_eq_true rfl) (Nat.le_of_ble_eq_true rfl) (by omega) (fun M1 zM1 hM1 fM1 => ?_)
  have hM1_0 := (fM1 _ (by omega)).trans hM
  clear hsz
  refine n_putF hC dX2_init_8 kf_X2_9 kw_5_0 (hnm.trans rfl) hM1_0 (by omega) (Nat.le_of_ble_eq_true rfl) rfl rfl (fun M2 zM2 hM2 fM2 => ?_)
  change M2.2 _ = some (m_ob 5 [.ref (b + 1), VI 0, .null]) at hM2
  replace zM2 := zM2.trans zM1
  clear zM1
  have hM2_1 := (fM2 _ (by omega)).trans hM1
  refine m_aload_n hC 0 dX2_init_11 rfl rfl ?_
  refine m_iconst hC dX2_init_12 ?_
  refine n_putf hC dX2_init_13 kf_X2_15 kw_5_1 hM2 (by omega) (Nat.le_of_ble_eq_true rfl) rfl rfl (fun M3 zM3 hM3 fM3 => ?_)
  change M3.2 _ = some (m_ob 5 [.ref (b + 1), VI 0, .null]) at hM3
  replace zM3 := zM3.trans zM2
  clear zM2
  have hM3_1 := (fM3 _ (by omega)).trans hM2_1
  refine m_aload_n hC 0 dX2_init_16 rfl rfl ?_
  refine m_gets hC hJ.nZ kg_X2_19 dX2_init_17 ?_
  refine n_putf hC dX2_init_20 kf_X2_25 kw_5_2 hM3 (by omega) (Nat.le_of_ble_eq_true rfl) rfl rfl (fun M4 zM4 hM4 fM4 => ?_)
  change M4.2 _ = some (m_ob 5 [.ref (b + 1), VI 0, .ref (fo 11)]) at hM4
  replace zM4 := zM4.trans zM3
  clear zM3
  have hM4_1 := (fM4 _ (by omega)).trans hM3_1
  exact m_vret hC dX2_init_23 hr (Nat.le_of_ble_eq_true rfl) (Nat.le_of_ble_eq_true rfl) ⟨rfl, by omega, ⟨hM4, hM4_1⟩, (fun q hq => by rw [fM4 q (by omega)]; rw [fM3 q (by omega)]; rw [fM2 q (by omega)]; rw [fM1 q (by omega)])⟩

