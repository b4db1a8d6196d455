/-! the law's ways to do and to ask -/
set_option maxHeartbeats 2000000 in
theorem t_L_plain_addGoblin {D : va_G} {aC : Nat → ClassId} {s0 : State} {l : Launch} (hF : m_F D aC s0) (hl : l.stackTraces = false) {x : Nat} {fs : List Value} {a1 a2 a3 a4 : Int} {M : m_M} {r : Int × Int} {Es : List String} {A : m_M → Prop} (hO : M.2 x = some (m_ob 11 fs)) (hM : m_Met D aC s0 l yX9_addGoblin cX9_addGoblin 2 (some .int) 12 470 940 [.ref x, VI a1] M (g_pq r A) (g_pxq Es r A)) : m_Met D aC s0 l yL_plain cL_plain 6 (some .int) 13 470 940 [.ref x, VI 0, VI a1, VI a2, VI a3, VI a4] M (g_pq r A) (g_pxq Es r A) := by
  refine m_entry (lv := [(0, .ref x), (1, VI 0), (2, VI a1), (3, VI a2), (4, VI a3), (5, VI a4)]) (by decide +kernel) (Nat.le_of_ble_eq_true rfl) rfl hF hl ?_
  intro p e s m args below meth c hC hr hno hnm
  change m_C D aC s0 RL _ _ _ _ _ _ _ _ _ at hC
  refine m_iload_n hC 1 dL_plain_0 rfl rfl ?_
  refine m_tin (tgt := 64) hC dL_plain_1 (by decide) (by decide) rfl (by decide) ?_
  refine m_aload_n hC 0 dL_plain_64 rfl rfl ?_
  refine m_iload_n hC 2 dL_plain_65 rfl rfl ?_
  refine m_callV hC hM dL_plain_66 kc_X9_addGoblin kV_L_15 hO rfl rfl rfl rfl (Nat.le_of_ble_eq_true rfl) ⟨(Nat.le_of_ble_eq_true rfl), (Nat.le_of_ble_eq_true rfl)⟩ ⟨(Nat.le_of_ble_eq_true rfl), (Nat.le_of_ble_eq_true rfl)⟩ (m_out hC hno (Nat.le_of_ble_eq_true rfl) (Nat.le_of_ble_eq_true rfl) (fun E9 M9 h9 => h9)) (fun v9 M1 h9 => ?_)
  obtain ⟨h0, rfl, hA⟩ := h9
  exact m_iret hC dL_plain_69 hr (Nat.le_of_ble_eq_true rfl) (Nat.le_of_ble_eq_true rfl) ⟨h0, rfl, hA⟩
set_option maxHeartbeats 2000000 in
theorem t_L_plain_addBroom {D : va_G} {aC : Nat → ClassId} {s0 : State} {l : Launch} (hF : m_F D aC s0) (hl : l.stackTraces = false) {x : Nat} {fs : List Value} {a1 a2 a3 a4 : Int} {M : m_M} {r : Int × Int} {Es : List String} {A : m_M → Prop} (hO : M.2 x = some (m_ob 11 fs)) (hM : m_Met D aC s0 l yX9_addBroom cX9_addBroom 2 (some .int) 12 470 940 [.ref x, VI a1] M (g_pq r A) (g_pxq Es r A)) : m_Met D aC s0 l yL_plain cL_plain 6 (some .int) 13 470 940 [.ref x, VI 1, VI a1, VI a2, VI a3, VI a4] M (g_pq r A) (g_pxq Es r A) := by
  refine m_entry (lv := [(0, .ref x), (1, VI 1), (2, VI a1), (3, VI a2), (4, VI a3), (5, VI a4)]) (by decide +kernel) (Nat.le_of_ble_eq_true rfl) rfl hF hl ?_
  intro p e s m args below meth c hC hr hno hnm
  change m_C D aC s0 RL _ _ _ _ _ _ _ _ _ at hC
  refine m_iload_n hC 1 dL_plain_0 rfl rfl ?_
  refine m_tin (tgt := 70) hC dL_plain_1 (by decide) (by decide) rfl (by decide) ?_
  refine m_aload_n hC 0 dL_plain_70 rfl rfl ?_
  refine m_iload_n hC 2 dL_plain_71 rfl rfl ?_
  refine m_callV hC hM dL_plain_72 kc_X9_addBroom kV_L_21 hO rfl rfl rfl rfl (Nat.le_of_ble_eq_true rfl) ⟨(Nat.le_of_ble_eq_true rfl), (Nat.le_of_ble_eq_true rfl)⟩ ⟨(Nat.le_of_ble_eq_true rfl), (Nat.le_of_ble_eq_true rfl)⟩ (m_out hC hno (Nat.le_of_ble_eq_true rfl) (Nat.le_of_ble_eq_true rfl) (fun E9 M9 h9 => h9)) (fun v9 M1 h9 => ?_)
  obtain ⟨h0, rfl, hA⟩ := h9
  exact m_iret hC dL_plain_75 hr (Nat.le_of_ble_eq_true rfl) (Nat.le_of_ble_eq_true rfl) ⟨h0, rfl, hA⟩
set_option maxHeartbeats 2000000 in
theorem t_L_plain_banishBroom {D : va_G} {aC : Nat → ClassId} {s0 : State} {l : Launch} (hF : m_F D aC s0) (hl : l.stackTraces = false) {x : Nat} {fs : List Value} {a1 a2 a3 a4 : Int} {M : m_M} {r : Int × Int} {Es : List String} {A : m_M → Prop} (hO : M.2 x = some (m_ob 11 fs)) (hM : m_Met D aC s0 l yX9_banishBroom cX9_banishBroom 2 (some .int) 12 470 940 [.ref x, VI a1] M (g_pq r A) (g_pxq Es r A)) : m_Met D aC s0 l yL_plain cL_plain 6 (some .int) 13 470 940 [.ref x, VI 2, VI a1, VI a2, VI a3, VI a4] M (g_pq r A) (g_pxq Es r A) := by
  refine m_entry (lv := [(0, .ref x), (1, VI 2), (2, VI a1), (3, VI a2), (4, VI a3), (5, VI a4)]) (by decide +kernel) (Nat.le_of_ble_eq_true rfl) rfl hF hl ?_
  intro p e s m args below meth c hC hr hno hnm
  change m_C D aC s0 RL _ _ _ _ _ _ _ _ _ at hC
  refine m_iload_n hC 1 dL_plain_0 rfl rfl ?_
  refine m_tin (tgt := 76) hC dL_plain_1 (by decide) (by decide) rfl (by decide) ?_
  refine m_aload_n hC 0 dL_plain_76 rfl rfl ?_
  refine m_iload_n hC 2 dL_plain_77 rfl rfl ?_
  refine m_callV hC hM dL_plain_78 kc_X9_banishBroom kV_L_24 hO rfl rfl rfl rfl (Nat.le_of_ble_eq_true rfl) ⟨(Nat.le_of_ble_eq_true rfl), (Nat.le_of_ble_eq_true rfl)⟩ ⟨(Nat.le_of_ble_eq_true rfl), (Nat.le_of_ble_eq_true rfl)⟩ (m_out hC hno (Nat.le_of_ble_eq_true rfl) (Nat.le_of_ble_eq_true rfl) (fun E9 M9 h9 => h9)) (fun v9 M1 h9 => ?_)
  obtain ⟨h0, rfl, hA⟩ := h9
  exact m_iret hC dL_plain_81 hr (Nat.le_of_ble_eq_true rfl) (Nat.le_of_ble_eq_true rfl) ⟨h0, rfl, hA⟩
set_option maxHeartbeats 2000000 in
theorem t_L_plain_recallBroom {D : va_G} {aC : Nat → ClassId} {s0 : State} {l : Launch} (hF : m_F D aC s0) (hl : l.stackTraces = false) {x : Nat} {fs : List Value} {a1 a2 a3 a4 : Int} {M : m_M} {r : Int × Int} {Es : List String} {A : m_M → Prop} (hO : M.2 x = some (m_ob 11 fs)) (hM : m_Met D aC s0 l yX9_recallBroom cX9_recallBroom 2 (some .int) 12 470 940 [.ref x, VI a1] M (g_pq r A) (g_pxq Es r A)) : m_Met D aC s0 l yL_plain cL_plain 6 (some .int) 13 470 940 [.ref x, VI 3, VI a1, VI a2, VI a3, VI a4] M (g_pq r A) (g_pxq Es r A) := by
  refine m_entry (lv := [(0, .ref x), (1, VI 3), (2, VI a1), (3, VI a2), (4, VI a3), (5, VI a4)]) (by decide +kernel) (Nat.le_of_ble_eq_true rfl) rfl hF hl ?_
  intro p e s m args below meth c hC hr hno hnm
  change m_C D aC s0 RL _ _ _ _ _ _ _ _ _ at hC
  refine m_iload_n hC 1 dL_plain_0 rfl rfl ?_
  refine m_tin (tgt := 82) hC dL_plain_1 (by decide) (by decide) rfl (by decide) ?_
  refine m_aload_n hC 0 dL_plain_82 rfl rfl ?_
  refine m_iload_n hC 2 dL_plain_83 rfl rfl ?_
  refine m_callV hC hM dL_plain_84 kc_X9_recallBroom kV_L_27 hO rfl rfl rfl rfl (Nat.le_of_ble_eq_true rfl) ⟨(Nat.le_of_ble_eq_true rfl), (Nat.le_of_ble_eq_true rfl)⟩ ⟨(Nat.le_of_ble_eq_true rfl), (Nat.le_of_ble_eq_true rfl)⟩ (m_out hC hno (Nat.le_of_ble_eq_true rfl) (Nat.le_of_ble_eq_true rfl) (fun E9 M9 h9 => h9)) (fun v9 M1 h9 => ?_)
  obtain ⟨h0, rfl, hA⟩ := h9
  exact m_iret hC dL_plain_87 hr (Nat.le_of_ble_eq_true rfl) (Nat.le_of_ble_eq_true rfl) ⟨h0, rfl, hA⟩
set_option maxHeartbeats 2000000 in
theorem t_L_plain_hire {D : va_G} {aC : Nat → ClassId} {s0 : State} {l : Launch} (hF : m_F D aC s0) (hl : l.stackTraces = false) {x : Nat} {fs : List Value} {a1 a2 a3 a4 : Int} {M : m_M} {r : Int × Int} {Es : List String} {A : m_M → Prop} (hO : M.2 x = some (m_ob 11 fs)) (hM : m_Met D aC s0 l yX9_hire cX9_hire 5 (some .int) 12 470 940 [.ref x, VI a1, VI a2, VI a3, VI a4] M (g_pq r A) (g_pxq Es r A)) : m_Met D aC s0 l yL_plain cL_plain 6 (some .int) 13 470 940 [.ref x, VI 4, VI a1, VI a2, VI a3, VI a4] M (g_pq r A) (g_pxq Es r A) := by
  refine m_entry (lv := [(0, .ref x), (1, VI 4), (2, VI a1), (3, VI a2), (4, VI a3), (5, VI a4)]) (by decide +kernel) (Nat.le_of_ble_eq_true rfl) rfl hF hl ?_
  intro p e s m args below meth c hC hr hno hnm
  change m_C D aC s0 RL _ _ _ _ _ _ _ _ _ at hC
  refine m_iload_n hC 1 dL_plain_0 rfl rfl ?_
  refine m_tin (tgt := 88) hC dL_plain_1 (by decide) (by decide) rfl (by decide) ?_
  refine m_aload_n hC 0 dL_plain_88 rfl rfl ?_
  refine m_iload_n hC 2 dL_plain_89 rfl rfl ?_
  refine m_iload_n hC 3 dL_plain_90 rfl rfl ?_
  refine m_iload hC 4 dL_plain_91 rfl ?_
  refine m_iload hC 5 dL_plain_93 rfl ?_
  refine m_callV hC hM dL_plain_95 kc_X9_hire kV_L_30 hO rfl rfl rfl rfl (Nat.le_of_ble_eq_true rfl) ⟨(Nat.le_of_ble_eq_true rfl), (Nat.le_of_ble_eq_true rfl)⟩ ⟨(Nat.le_of_ble_eq_true rfl), (Nat.le_of_ble_eq_true rfl)⟩ (m_out hC hno (Nat.le_of_ble_eq_true rfl) (Nat.le_of_ble_eq_true rfl) (fun E9 M9 h9 => h9)) (fun v9 M1 h9 => ?_)
  obtain ⟨h0, rfl, hA⟩ := h9
  exact m_iret hC dL_plain_98 hr (Nat.le_of_ble_eq_true rfl) (Nat.le_of_ble_eq_true rfl) ⟨h0, rfl, hA⟩
set_option maxHeartbeats 2000000 in
theorem t_L_plain_cancelContract {D : va_G} {aC : Nat → ClassId} {s0 : State} {l : Launch} (hF : m_F D aC s0) (hl : l.stackTraces = false) {x : Nat} {fs : List Value} {a1 a2 a3 a4 : Int} {M : m_M} {r : Int × Int} {Es : List String} {A : m_M → Prop} (hO : M.2 x = some (m_ob 11 fs)) (hM : m_Met D aC s0 l yX9_cancelContract cX9_cancelContract 2 (some .int) 12 470 940 [.ref x, VI a1] M (g_pq r A) (g_pxq Es r A)) : m_Met D aC s0 l yL_plain cL_plain 6 (some .int) 13 470 940 [.ref x, VI 5, VI a1, VI a2, VI a3, VI a4] M (g_pq r A) (g_pxq Es r A) := by
  refine m_entry (lv := [(0, .ref x), (1, VI 5), (2, VI a1), (3, VI a2), (4, VI a3), (5, VI a4)]) (by decide +kernel) (Nat.le_of_ble_eq_true rfl) rfl hF hl ?_
  intro p e s m args below meth c hC hr hno hnm
  change m_C D aC s0 RL _ _ _ _ _ _ _ _ _ at hC
  refine m_iload_n hC 1 dL_plain_0 rfl rfl ?_
  refine m_tin (tgt := 99) hC dL_plain_1 (by decide) (by decide) rfl (by decide) ?_
  refine m_aload_n hC 0 dL_plain_99 rfl rfl ?_
  refine m_iload_n hC 2 dL_plain_100 rfl rfl ?_
  refine m_callV hC hM dL_plain_101 kc_X9_cancelContract kV_L_34 hO rfl rfl rfl rfl (Nat.le_of_ble_eq_true rfl) ⟨(Nat.le_of_ble_eq_true rfl), (Nat.le_of_ble_eq_true rfl)⟩ ⟨(Nat.le_of_ble_eq_true rfl), (Nat.le_of_ble_eq_true rfl)⟩ (m_out hC hno (Nat.le_of_ble_eq_true rfl) (Nat.le_of_ble_eq_true rfl) (fun E9 M9 h9 => h9)) (fun v9 M1 h9 => ?_)
  obtain ⟨h0, rfl, hA⟩ := h9
  exact m_iret hC dL_plain_104 hr (Nat.le_of_ble_eq_true rfl) (Nat.le_of_ble_eq_true rfl) ⟨h0, rfl, hA⟩
set_option maxHeartbeats 2000000 in
theorem t_L_plain_rest {D : va_G} {aC : Nat → ClassId} {s0 : State} {l : Launch} (hF : m_F D aC s0) (hl : l.stackTraces = false) {x : Nat} {fs : List Value} {a1 a2 a3 a4 : Int} {M : m_M} {r : Int × Int} {Es : List String} {A : m_M → Prop} (hO : M.2 x = some (m_ob 11 fs)) (hM : m_Met D aC s0 l yX9_rest cX9_rest 2 (some .int) 12 470 940 [.ref x, VI a1] M (g_pq r A) (g_pxq Es r A)) : m_Met D aC s0 l yL_plain cL_plain 6 (some .int) 13 470 940 [.ref x, VI 6, VI a1, VI a2, VI a3, VI a4] M (g_pq r A) (g_pxq Es r A) := by
  refine m_entry (lv := [(0, .ref x), (1, VI 6), (2, VI a1), (3, VI a2), (4, VI a3), (5, VI a4)]) (by decide +kernel) (Nat.le_of_ble_eq_true rfl) rfl hF hl ?_
  intro p e s m args below meth c hC hr hno hnm
  change m_C D aC s0 RL _ _ _ _ _ _ _ _ _ at hC
  refine m_iload_n hC 1 dL_plain_0 rfl rfl ?_
  refine m_tin (tgt := 105) hC dL_plain_1 (by decide) (by decide) rfl (by decide) ?_
  refine m_aload_n hC 0 dL_plain_105 rfl rfl ?_
  refine m_iload_n hC 2 dL_plain_106 rfl rfl ?_
  refine m_callV hC hM dL_plain_107 kc_X9_rest kV_L_37 hO rfl rfl rfl rfl (Nat.le_of_ble_eq_true rfl) ⟨(Nat.le_of_ble_eq_true rfl), (Nat.le_of_ble_eq_true rfl)⟩ ⟨(Nat.le_of_ble_eq_true rfl), (Nat.le_of_ble_eq_true rfl)⟩ (m_out hC hno (Nat.le_of_ble_eq_true rfl) (Nat.le_of_ble_eq_true rfl) (fun E9 M9 h9 => h9)) (fun v9 M1 h9 => ?_)
  obtain ⟨h0, rfl, hA⟩ := h9
  exact m_iret hC dL_plain_110 hr (Nat.le_of_ble_eq_true rfl) (Nat.le_of_ble_eq_true rfl) ⟨h0, rfl, hA⟩
set_option maxHeartbeats 2000000 in
theorem t_L_plain_wake {D : va_G} {aC : Nat → ClassId} {s0 : State} {l : Launch} (hF : m_F D aC s0) (hl : l.stackTraces = false) {x : Nat} {fs : List Value} {a1 a2 a3 a4 : Int} {M : m_M} {r : Int × Int} {Es : List String} {A : m_M → Prop} (hO : M.2 x = some (m_ob 11 fs)) (hM : m_Met D aC s0 l yX9_wake cX9_wake 2 (some .int) 12 470 940 [.ref x, VI a1] M (g_pq r A) (g_pxq Es r A)) : m_Met D aC s0 l yL_plain cL_plain 6 (some .int) 13 470 940 [.ref x, VI 7, VI a1, VI a2, VI a3, VI a4] M (g_pq r A) (g_pxq Es r A) := by
  refine m_entry (lv := [(0, .ref x), (1, VI 7), (2, VI a1), (3, VI a2), (4, VI a3), (5, VI a4)]) (by decide +kernel) (Nat.le_of_ble_eq_true rfl) rfl hF hl ?_
  intro p e s m args below meth c hC hr hno hnm
  change m_C D aC s0 RL _ _ _ _ _ _ _ _ _ at hC
  refine m_iload_n hC 1 dL_plain_0 rfl rfl ?_
  refine m_tin (tgt := 111) hC dL_plain_1 (by decide) (by decide) rfl (by decide) ?_
  refine m_aload_n hC 0 dL_plain_111 rfl rfl ?_
  refine m_iload_n hC 2 dL_plain_112 rfl rfl ?_
  refine m_callV hC hM dL_plain_113 kc_X9_wake kV_L_40 hO rfl rfl rfl rfl (Nat.le_of_ble_eq_true rfl) ⟨(Nat.le_of_ble_eq_true rfl), (Nat.le_of_ble_eq_true rfl)⟩ ⟨(Nat.le_of_ble_eq_true rfl), (Nat.le_of_ble_eq_true rfl)⟩ (m_out hC hno (Nat.le_of_ble_eq_true rfl) (Nat.le_of_ble_eq_true rfl) (fun E9 M9 h9 => h9)) (fun v9 M1 h9 => ?_)
  obtain ⟨h0, rfl, hA⟩ := h9
  exact m_iret hC dL_plain_116 hr (Nat.le_of_ble_eq_true rfl) (Nat.le_of_ble_eq_true rfl) ⟨h0, rfl, hA⟩
set_option maxHeartbeats 2000000 in
theorem t_L_plain_lend {D : va_G} {aC : Nat → ClassId} {s0 : State} {l : Launch} (hF : m_F D aC s0) (hl : l.stackTraces = false) {x : Nat} {fs : List Value} {a1 a2 a3 a4 : Int} {M : m_M} {r : Int × Int} {Es : List String} {A : m_M → Prop} (hO : M.2 x = some (m_ob 11 fs)) (hM : m_Met D aC s0 l yX9_lend cX9_lend 3 (some .int) 12 470 940 [.ref x, VI a1, VI a2] M (g_pq r A) (g_pxq Es r A)) : m_Met D aC s0 l yL_plain cL_plain 6 (some .int) 13 470 940 [.ref x, VI 8, VI a1, VI a2, VI a3, VI a4] M (g_pq r A) (g_pxq Es r A) := by
  refine m_entry (lv := [(0, .ref x), (1, VI 8), (2, VI a1), (3, VI a2), (4, VI a3), (5, VI a4)]) (by decide +kernel) (Nat.le_of_ble_eq_true rfl) rfl hF hl ?_
  intro p e s m args below meth c hC hr hno hnm
  change m_C D aC s0 RL _ _ _ _ _ _ _ _ _ at hC
  refine m_iload_n hC 1 dL_plain_0 rfl rfl ?_
  refine m_tin (tgt := 117) hC dL_plain_1 (by decide) (by decide) rfl (by decide) ?_
  refine m_aload_n hC 0 dL_plain_117 rfl rfl ?_
  refine m_iload_n hC 2 dL_plain_118 rfl rfl ?_
  refine m_iload_n hC 3 dL_plain_119 rfl rfl ?_
  refine m_callV hC hM dL_plain_120 kc_X9_lend kV_L_43 hO rfl rfl rfl rfl (Nat.le_of_ble_eq_true rfl) ⟨(Nat.le_of_ble_eq_true rfl), (Nat.le_of_ble_eq_true rfl)⟩ ⟨(Nat.le_of_ble_eq_true rfl), (Nat.le_of_ble_eq_true rfl)⟩ (m_out hC hno (Nat.le_of_ble_eq_true rfl) (Nat.le_of_ble_eq_true rfl) (fun E9 M9 h9 => h9)) (fun v9 M1 h9 => ?_)
  obtain ⟨h0, rfl, hA⟩ := h9
  exact m_iret hC dL_plain_123 hr (Nat.le_of_ble_eq_true rfl) (Nat.le_of_ble_eq_true rfl) ⟨h0, rfl, hA⟩
set_option maxHeartbeats 2000000 in
theorem t_L_plain_fund {D : va_G} {aC : Nat → ClassId} {s0 : State} {l : Launch} (hF : m_F D aC s0) (hl : l.stackTraces = false) {x : Nat} {fs : List Value} {a1 a2 a3 a4 : Int} {M : m_M} {r : Int × Int} {Es : List String} {A : m_M → Prop} (hO : M.2 x = some (m_ob 11 fs)) (hM : m_Met D aC s0 l yX9_fund cX9_fund 2 (some .int) 12 470 940 [.ref x, VI a1] M (g_pq r A) (g_pxq Es r A)) : m_Met D aC s0 l yL_plain cL_plain 6 (some .int) 13 470 940 [.ref x, VI 9, VI a1, VI a2, VI a3, VI a4] M (g_pq r A) (g_pxq Es r A) := by
  refine m_entry (lv := [(0, .ref x), (1, VI 9), (2, VI a1), (3, VI a2), (4, VI a3), (5, VI a4)]) (by decide +kernel) (Nat.le_of_ble_eq_true rfl) rfl hF hl ?_
  intro p e s m args below meth c hC hr hno hnm
  change m_C D aC s0 RL _ _ _ _ _ _ _ _ _ at hC
  refine m_iload_n hC 1 dL_plain_0 rfl rfl ?_
  refine m_tin (tgt := 124) hC dL_plain_1 (by decide) (by decide) rfl (by decide) ?_
  refine m_aload_n hC 0 dL_plain_124 rfl rfl ?_
  refine m_iload_n hC 2 dL_plain_125 rfl rfl ?_
  refine m_callV hC hM dL_plain_126 kc_X9_fund kV_L_47 hO rfl rfl rfl rfl (Nat.le_of_ble_eq_true rfl) ⟨(Nat.le_of_ble_eq_true rfl), (Nat.le_of_ble_eq_true rfl)⟩ ⟨(Nat.le_of_ble_eq_true rfl), (Nat.le_of_ble_eq_true rfl)⟩ (m_out hC hno (Nat.le_of_ble_eq_true rfl) (Nat.le_of_ble_eq_true rfl) (fun E9 M9 h9 => h9)) (fun v9 M1 h9 => ?_)
  obtain ⟨h0, rfl, hA⟩ := h9
  exact m_iret hC dL_plain_129 hr (Nat.le_of_ble_eq_true rfl) (Nat.le_of_ble_eq_true rfl) ⟨h0, rfl, hA⟩
set_option maxHeartbeats 2000000 in
theorem t_L_plain_spend {D : va_G} {aC : Nat → ClassId} {s0 : State} {l : Launch} (hF : m_F D aC s0) (hl : l.stackTraces = false) {x : Nat} {fs : List Value} {a1 a2 a3 a4 : Int} {M : m_M} {r : Int × Int} {Es : List String} {A : m_M → Prop} (hO : M.2 x = some (m_ob 11 fs)) (hM : m_Met D aC s0 l yX9_spend cX9_spend 2 (some .int) 12 470 940 [.ref x, VI a1] M (g_pq r A) (g_pxq Es r A)) : m_Met D aC s0 l yL_plain cL_plain 6 (some .int) 13 470 940 [.ref x, VI 10, VI a1, VI a2, VI a3, VI a4] M (g_pq r A) (g_pxq Es r A) := by
  refine m_entry (lv := [(0, .ref x), (1, VI 10), (2, VI a1), (3, VI a2), (4, VI a3), (5, VI a4)]) (by decide +kernel) (Nat.le_of_ble_eq_true rfl) rfl hF hl ?_
  intro p e s m args below meth c hC hr hno hnm
  change m_C D aC s0 RL _ _ _ _ _ _ _ _ _ at hC
  refine m_iload_n hC 1 dL_plain_0 rfl rfl ?_
  refine m_tin (tgt := 130) hC dL_plain_1 (by decide) (by decide) rfl (by decide) ?_
  refine m_aload_n hC 0 dL_plain_130 rfl rfl ?_
  refine m_iload_n hC 2 dL_plain_131 rfl rfl ?_
  refine m_callV hC hM dL_plain_132 kc_X9_spend kV_L_50 hO rfl rfl rfl rfl (Nat.le_of_ble_eq_true rfl) ⟨(Nat.le_of_ble_eq_true rfl), (Nat.le_of_ble_eq_true rfl)⟩ ⟨(Nat.le_of_ble_eq_true rfl), (Nat.le_of_ble_eq_true rfl)⟩ (m_out hC hno (Nat.le_of_ble_eq_true rfl) (Nat.le_of_ble_eq_true rfl) (fun E9 M9 h9 => h9)) (fun v9 M1 h9 => ?_)
  obtain ⟨h0, rfl, hA⟩ := h9
  exact m_iret hC dL_plain_135 hr (Nat.le_of_ble_eq_true rfl) (Nat.le_of_ble_eq_true rfl) ⟨h0, rfl, hA⟩
set_option maxHeartbeats 2000000 in
theorem t_L_plain_passNights {D : va_G} {aC : Nat → ClassId} {s0 : State} {l : Launch} (hF : m_F D aC s0) (hl : l.stackTraces = false) {x : Nat} {fs : List Value} {a1 a2 a3 a4 : Int} {M : m_M} {r : Int × Int} {Es : List String} {A : m_M → Prop} (hO : M.2 x = some (m_ob 11 fs)) (hM : m_Met D aC s0 l yX9_passNights cX9_passNights 2 (some .int) 12 470 940 [.ref x, VI a1] M (g_pq r A) (g_pxq Es r A)) : m_Met D aC s0 l yL_plain cL_plain 6 (some .int) 13 470 940 [.ref x, VI 11, VI a1, VI a2, VI a3, VI a4] M (g_pq r A) (g_pxq Es r A) := by
  refine m_entry (lv := [(0, .ref x), (1, VI 11), (2, VI a1), (3, VI a2), (4, VI a3), (5, VI a4)]) (by decide +kernel) (Nat.le_of_ble_eq_true rfl) rfl hF hl ?_
  intro p e s m args below meth c hC hr hno hnm
  change m_C D aC s0 RL _ _ _ _ _ _ _ _ _ at hC
  refine m_iload_n hC 1 dL_plain_0 rfl rfl ?_
  refine m_tin (tgt := 136) hC dL_plain_1 (by decide) (by decide) rfl (by decide) ?_
  refine m_aload_n hC 0 dL_plain_136 rfl rfl ?_
  refine m_iload_n hC 2 dL_plain_137 rfl rfl ?_
  refine m_callV hC hM dL_plain_138 kc_X9_passNights kV_L_53 hO rfl rfl rfl rfl (Nat.le_of_ble_eq_true rfl) ⟨(Nat.le_of_ble_eq_true rfl), (Nat.le_of_ble_eq_true rfl)⟩ ⟨(Nat.le_of_ble_eq_true rfl), (Nat.le_of_ble_eq_true rfl)⟩ (m_out hC hno (Nat.le_of_ble_eq_true rfl) (Nat.le_of_ble_eq_true rfl) (fun E9 M9 h9 => h9)) (fun v9 M1 h9 => ?_)
  obtain ⟨h0, rfl, hA⟩ := h9
  exact m_iret hC dL_plain_141 hr (Nat.le_of_ble_eq_true rfl) (Nat.le_of_ble_eq_true rfl) ⟨h0, rfl, hA⟩
set_option maxHeartbeats 2000000 in
theorem t_L_asked_dust {D : va_G} {aC : Nat → ClassId} {s0 : State} {l : Launch} (hF : m_F D aC s0) (hl : l.stackTraces = false) {x : Nat} {fs : List Value} {a1 a2 : Int} {M : m_M} {r : Int × Int} {Es : List String} {A : m_M → Prop} (hO : M.2 x = some (m_ob 11 fs)) (hM : m_Met D aC s0 l yX9_dust cX9_dust 2 (some .int) 12 470 940 [.ref x, VI a1] M (g_pq r A) (g_pxq Es r A)) : m_Met D aC s0 l yL_asked cL_asked 4 (some .int) 13 470 940 [.ref x, VI 0, VI a1, VI a2] M (g_pq r A) (g_pxq Es r A) := by
  refine m_entry (lv := [(0, .ref x), (1, VI 0), (2, VI a1), (3, VI a2)]) (by decide +kernel) (Nat.le_of_ble_eq_true rfl) rfl hF hl ?_
  intro p e s m args below meth c hC hr hno hnm
  change m_C D aC s0 RL _ _ _ _ _ _ _ _ _ at hC
  refine m_iload_n hC 1 dL_asked_0 rfl rfl ?_
  refine m_tin (tgt := 64) hC dL_asked_1 (by decide) (by decide) rfl (by decide) ?_
  refine m_aload_n hC 0 dL_asked_64 rfl rfl ?_
  refine m_iload_n hC 2 dL_asked_65 rfl rfl ?_
  refine m_callV hC hM dL_asked_66 kc_X9_dust kV_L_74 hO rfl rfl rfl rfl (Nat.le_of_ble_eq_true rfl) ⟨(Nat.le_of_ble_eq_true rfl), (Nat.le_of_ble_eq_true rfl)⟩ ⟨(Nat.le_of_ble_eq_true rfl), (Nat.le_of_ble_eq_true rfl)⟩ (m_out hC hno (Nat.le_of_ble_eq_true rfl) (Nat.le_of_ble_eq_true rfl) (fun E9 M9 h9 => h9)) (fun v9 M1 h9 => ?_)
  obtain ⟨h0, rfl, hA⟩ := h9
  exact m_iret hC dL_asked_69 hr (Nat.le_of_ble_eq_true rfl) (Nat.le_of_ble_eq_true rfl) ⟨h0, rfl, hA⟩
set_option maxHeartbeats 2000000 in
theorem t_L_asked_roomByDust {D : va_G} {aC : Nat → ClassId} {s0 : State} {l : Launch} (hF : m_F D aC s0) (hl : l.stackTraces = false) {x : Nat} {fs : List Value} {a1 a2 : Int} {M : m_M} {r : Int × Int} {Es : List String} {A : m_M → Prop} (hO : M.2 x = some (m_ob 11 fs)) (hM : m_Met D aC s0 l yX9_roomByDust cX9_roomByDust 3 (some .int) 12 470 940 [.ref x, VI a1] M (g_pq r A) (g_pxq Es r A)) : m_Met D aC s0 l yL_asked cL_asked 4 (some .int) 13 470 940 [.ref x, VI 1, VI a1, VI a2] M (g_pq r A) (g_pxq Es r A) := by
  refine m_entry (lv := [(0, .ref x), (1, VI 1), (2, VI a1), (3, VI a2)]) (by decide +kernel) (Nat.le_of_ble_eq_true rfl) rfl hF hl ?_
  intro p e s m args below meth c hC hr hno hnm
  change m_C D aC s0 RL _ _ _ _ _ _ _ _ _ at hC
  refine m_iload_n hC 1 dL_asked_0 rfl rfl ?_
  refine m_tin (tgt := 70) hC dL_asked_1 (by decide) (by decide) rfl (by decide) ?_
  refine m_aload_n hC 0 dL_asked_70 rfl rfl ?_
  refine m_iload_n hC 2 dL_asked_71 rfl rfl ?_
  refine m_callV hC hM dL_asked_72 kc_X9_roomByDust kV_L_77 hO rfl rfl rfl rfl (Nat.le_of_ble_eq_true rfl) ⟨(Nat.le_of_ble_eq_true rfl), (Nat.le_of_ble_eq_true rfl)⟩ ⟨(Nat.le_of_ble_eq_true rfl), (Nat.le_of_ble_eq_true rfl)⟩ (m_out hC hno (Nat.le_of_ble_eq_true rfl) (Nat.le_of_ble_eq_true rfl) (fun E9 M9 h9 => h9)) (fun v9 M1 h9 => ?_)
  obtain ⟨h0, rfl, hA⟩ := h9
  exact m_iret hC dL_asked_75 hr (Nat.le_of_ble_eq_true rfl) (Nat.le_of_ble_eq_true rfl) ⟨h0, rfl, hA⟩
set_option maxHeartbeats 2000000 in
theorem t_L_asked_energy {D : va_G} {aC : Nat → ClassId} {s0 : State} {l : Launch} (hF : m_F D aC s0) (hl : l.stackTraces = false) {x : Nat} {fs : List Value} {a1 a2 : Int} {M : m_M} {r : Int × Int} {Es : List String} {A : m_M → Prop} (hO : M.2 x = some (m_ob 11 fs)) (hM : m_Met D aC s0 l yX9_energy cX9_energy 2 (some .int) 12 470 940 [.ref x, VI a1] M (g_pq r A) (g_pxq Es r A)) : m_Met D aC s0 l yL_asked cL_asked 4 (some .int) 13 470 940 [.ref x, VI 2, VI a1, VI a2] M (g_pq r A) (g_pxq Es r A) := by
  refine m_entry (lv := [(0, .ref x), (1, VI 2), (2, VI a1), (3, VI a2)]) (by decide +kernel) (Nat.le_of_ble_eq_true rfl) rfl hF hl ?_
  intro p e s m args below meth c hC hr hno hnm
  change m_C D aC s0 RL _ _ _ _ _ _ _ _ _ at hC
  refine m_iload_n hC 1 dL_asked_0 rfl rfl ?_
  refine m_tin (tgt := 76) hC dL_asked_1 (by decide) (by decide) rfl (by decide) ?_
  refine m_aload_n hC 0 dL_asked_76 rfl rfl ?_
  refine m_iload_n hC 2 dL_asked_77 rfl rfl ?_
  refine m_callV hC hM dL_asked_78 kc_X9_energy kV_L_80 hO rfl rfl rfl rfl (Nat.le_of_ble_eq_true rfl) ⟨(Nat.le_of_ble_eq_true rfl), (Nat.le_of_ble_eq_true rfl)⟩ ⟨(Nat.le_of_ble_eq_true rfl), (Nat.le_of_ble_eq_true rfl)⟩ (m_out hC hno (Nat.le_of_ble_eq_true rfl) (Nat.le_of_ble_eq_true rfl) (fun E9 M9 h9 => h9)) (fun v9 M1 h9 => ?_)
  obtain ⟨h0, rfl, hA⟩ := h9
  exact m_iret hC dL_asked_81 hr (Nat.le_of_ble_eq_true rfl) (Nat.le_of_ble_eq_true rfl) ⟨h0, rfl, hA⟩
set_option maxHeartbeats 2000000 in
theorem t_L_asked_goblinByWealth {D : va_G} {aC : Nat → ClassId} {s0 : State} {l : Launch} (hF : m_F D aC s0) (hl : l.stackTraces = false) {x : Nat} {fs : List Value} {a1 a2 : Int} {M : m_M} {r : Int × Int} {Es : List String} {A : m_M → Prop} (hO : M.2 x = some (m_ob 11 fs)) (hM : m_Met D aC s0 l yX9_goblinByWealth cX9_goblinByWealth 3 (some .int) 12 470 940 [.ref x, VI a1] M (g_pq r A) (g_pxq Es r A)) : m_Met D aC s0 l yL_asked cL_asked 4 (some .int) 13 470 940 [.ref x, VI 3, VI a1, VI a2] M (g_pq r A) (g_pxq Es r A) := by
  refine m_entry (lv := [(0, .ref x), (1, VI 3), (2, VI a1), (3, VI a2)]) (by decide +kernel) (Nat.le_of_ble_eq_true rfl) rfl hF hl ?_
  intro p e s m args below meth c hC hr hno hnm
  change m_C D aC s0 RL _ _ _ _ _ _ _ _ _ at hC
  refine m_iload_n hC 1 dL_asked_0 rfl rfl ?_
  refine m_tin (tgt := 82) hC dL_asked_1 (by decide) (by decide) rfl (by decide) ?_
  refine m_aload_n hC 0 dL_asked_82 rfl rfl ?_
  refine m_iload_n hC 2 dL_asked_83 rfl rfl ?_
  refine m_callV hC hM dL_asked_84 kc_X9_goblinByWealth kV_L_83 hO rfl rfl rfl rfl (Nat.le_of_ble_eq_true rfl) ⟨(Nat.le_of_ble_eq_true rfl), (Nat.le_of_ble_eq_true rfl)⟩ ⟨(Nat.le_of_ble_eq_true rfl), (Nat.le_of_ble_eq_true rfl)⟩ (m_out hC hno (Nat.le_of_ble_eq_true rfl) (Nat.le_of_ble_eq_true rfl) (fun E9 M9 h9 => h9)) (fun v9 M1 h9 => ?_)
  obtain ⟨h0, rfl, hA⟩ := h9
  exact m_iret hC dL_asked_87 hr (Nat.le_of_ble_eq_true rfl) (Nat.le_of_ble_eq_true rfl) ⟨h0, rfl, hA⟩
set_option maxHeartbeats 2000000 in
theorem t_L_asked_bestWages {D : va_G} {aC : Nat → ClassId} {s0 : State} {l : Launch} (hF : m_F D aC s0) (hl : l.stackTraces = false) {x : Nat} {fs : List Value} {a1 a2 : Int} {M : m_M} {r : Int × Int} {Es : List String} {A : m_M → Prop} (hO : M.2 x = some (m_ob 11 fs)) (hM : m_Met D aC s0 l yX9_bestWages cX9_bestWages 2 (some .int) 12 470 940 [.ref x, VI a1] M (g_pq r A) (g_pxq Es r A)) : m_Met D aC s0 l yL_asked cL_asked 4 (some .int) 13 470 940 [.ref x, VI 4, VI a1, VI a2] M (g_pq r A) (g_pxq Es r A) := by
  refine m_entry (lv := [(0, .ref x), (1, VI 4), (2, VI a1), (3, VI a2)]) (by decide +kernel) (Nat.le_of_ble_eq_true rfl) rfl hF hl ?_
  intro p e s m args below meth c hC hr hno hnm
  change m_C D aC s0 RL _ _ _ _ _ _ _ _ _ at hC
  refine m_iload_n hC 1 dL_asked_0 rfl rfl ?_
  refine m_tin (tgt := 88) hC dL_asked_1 (by decide) (by decide) rfl (by decide) ?_
  refine m_aload_n hC 0 dL_asked_88 rfl rfl ?_
  refine m_iload_n hC 2 dL_asked_89 rfl rfl ?_
  refine m_callV hC hM dL_asked_90 kc_X9_bestWages kV_L_86 hO rfl rfl rfl rfl (Nat.le_of_ble_eq_true rfl) ⟨(Nat.le_of_ble_eq_true rfl), (Nat.le_of_ble_eq_true rfl)⟩ ⟨(Nat.le_of_ble_eq_true rfl), (Nat.le_of_ble_eq_true rfl)⟩ (m_out hC hno (Nat.le_of_ble_eq_true rfl) (Nat.le_of_ble_eq_true rfl) (fun E9 M9 h9 => h9)) (fun v9 M1 h9 => ?_)
  obtain ⟨h0, rfl, hA⟩ := h9
  exact m_iret hC dL_asked_93 hr (Nat.le_of_ble_eq_true rfl) (Nat.le_of_ble_eq_true rfl) ⟨h0, rfl, hA⟩
set_option maxHeartbeats 2000000 in
theorem t_L_asked_contractAt {D : va_G} {aC : Nat → ClassId} {s0 : State} {l : Launch} (hF : m_F D aC s0) (hl : l.stackTraces = false) {x : Nat} {fs : List Value} {a1 a2 : Int} {M : m_M} {r : Int × Int} {Es : List String} {A : m_M → Prop} (hO : M.2 x = some (m_ob 11 fs)) (hM : m_Met D aC s0 l yX9_contractAt cX9_contractAt 2 (some .int) 12 470 940 [.ref x, VI a1] M (g_pq r A) (g_pxq Es r A)) : m_Met D aC s0 l yL_asked cL_asked 4 (some .int) 13 470 940 [.ref x, VI 5, VI a1, VI a2] M (g_pq r A) (g_pxq Es r A) := by
  refine m_entry (lv := [(0, .ref x), (1, VI 5), (2, VI a1), (3, VI a2)]) (by decide +kernel) (Nat.le_of_ble_eq_true rfl) rfl hF hl ?_
  intro p e s m args below meth c hC hr hno hnm
  change m_C D aC s0 RL _ _ _ _ _ _ _ _ _ at hC
  refine m_iload_n hC 1 dL_asked_0 rfl rfl ?_
  refine m_tin (tgt := 94) hC dL_asked_1 (by decide) (by decide) rfl (by decide) ?_
  refine m_aload_n hC 0 dL_asked_94 rfl rfl ?_
  refine m_iload_n hC 2 dL_asked_95 rfl rfl ?_
  refine m_callV hC hM dL_asked_96 kc_X9_contractAt kV_L_89 hO rfl rfl rfl rfl (Nat.le_of_ble_eq_true rfl) ⟨(Nat.le_of_ble_eq_true rfl), (Nat.le_of_ble_eq_true rfl)⟩ ⟨(Nat.le_of_ble_eq_true rfl), (Nat.le_of_ble_eq_true rfl)⟩ (m_out hC hno (Nat.le_of_ble_eq_true rfl) (Nat.le_of_ble_eq_true rfl) (fun E9 M9 h9 => h9)) (fun v9 M1 h9 => ?_)
  obtain ⟨h0, rfl, hA⟩ := h9
  exact m_iret hC dL_asked_99 hr (Nat.le_of_ble_eq_true rfl) (Nat.le_of_ble_eq_true rfl) ⟨h0, rfl, hA⟩
set_option maxHeartbeats 2000000 in
theorem t_L_asked_wage {D : va_G} {aC : Nat → ClassId} {s0 : State} {l : Launch} (hF : m_F D aC s0) (hl : l.stackTraces = false) {x : Nat} {fs : List Value} {a1 a2 : Int} {M : m_M} {r : Int × Int} {Es : List String} {A : m_M → Prop} (hO : M.2 x = some (m_ob 11 fs)) (hM : m_Met D aC s0 l yX9_wage cX9_wage 2 (some .int) 12 470 940 [.ref x, VI a1] M (g_pq r A) (g_pxq Es r A)) : m_Met D aC s0 l yL_asked cL_asked 4 (some .int) 13 470 940 [.ref x, VI 6, VI a1, VI a2] M (g_pq r A) (g_pxq Es r A) := by
  refine m_entry (lv := [(0, .ref x), (1, VI 6), (2, VI a1), (3, VI a2)]) (by decide +kernel) (Nat.le_of_ble_eq_true rfl) rfl hF hl ?_
  intro p e s m args below meth c hC hr hno hnm
  change m_C D aC s0 RL _ _ _ _ _ _ _ _ _ at hC
  refine m_iload_n hC 1 dL_asked_0 rfl rfl ?_
  refine m_tin (tgt := 100) hC dL_asked_1 (by decide) (by decide) rfl (by decide) ?_
  refine m_aload_n hC 0 dL_asked_100 rfl rfl ?_
  refine m_iload_n hC 2 dL_asked_101 rfl rfl ?_
  refine m_callV hC hM dL_asked_102 kc_X9_wage kV_L_92 hO rfl rfl rfl rfl (Nat.le_of_ble_eq_true rfl) ⟨(Nat.le_of_ble_eq_true rfl), (Nat.le_of_ble_eq_true rfl)⟩ ⟨(Nat.le_of_ble_eq_true rfl), (Nat.le_of_ble_eq_true rfl)⟩ (m_out hC hno (Nat.le_of_ble_eq_true rfl) (Nat.le_of_ble_eq_true rfl) (fun E9 M9 h9 => h9)) (fun v9 M1 h9 => ?_)
  obtain ⟨h0, rfl, hA⟩ := h9
  exact m_iret hC dL_asked_105 hr (Nat.le_of_ble_eq_true rfl) (Nat.le_of_ble_eq_true rfl) ⟨h0, rfl, hA⟩
set_option maxHeartbeats 2000000 in
theorem t_L_asked_nightsUntilDone {D : va_G} {aC : Nat → ClassId} {s0 : State} {l : Launch} (hF : m_F D aC s0) (hl : l.stackTraces = false) {x : Nat} {fs : List Value} {a1 a2 : Int} {M : m_M} {r : Int × Int} {Es : List String} {A : m_M → Prop} (hO : M.2 x = some (m_ob 11 fs)) (hM : m_Met D aC s0 l yX9_nightsUntilDone cX9_nightsUntilDone 4 (some .int) 12 470 940 [.ref x, VI a1] M (g_pq r A) (g_pxq Es r A)) : m_Met D aC s0 l yL_asked cL_asked 4 (some .int) 13 470 940 [.ref x, VI 7, VI a1, VI a2] M (g_pq r A) (g_pxq Es r A) := by
  refine m_entry (lv := [(0, .ref x), (1, VI 7), (2, VI a1), (3, VI a2)]) (by decide +kernel) (Nat.le_of_ble_eq_true rfl) rfl hF hl ?_
  intro p e s m args below meth c hC hr hno hnm
  change m_C D aC s0 RL _ _ _ _ _ _ _ _ _ at hC
  refine m_iload_n hC 1 dL_asked_0 rfl rfl ?_
  refine m_tin (tgt := 106) hC dL_asked_1 (by decide) (by decide) rfl (by decide) ?_
  refine m_aload_n hC 0 dL_asked_106 rfl rfl ?_
  refine m_iload_n hC 2 dL_asked_107 rfl rfl ?_
  refine m_callV hC hM dL_asked_108 kc_X9_nightsUntilDone kV_L_95 hO rfl rfl rfl rfl (Nat.le_of_ble_eq_true rfl) ⟨(Nat.le_of_ble_eq_true rfl), (Nat.le_of_ble_eq_true rfl)⟩ ⟨(Nat.le_of_ble_eq_true rfl), (Nat.le_of_ble_eq_true rfl)⟩ (m_out hC hno (Nat.le_of_ble_eq_true rfl) (Nat.le_of_ble_eq_true rfl) (fun E9 M9 h9 => h9)) (fun v9 M1 h9 => ?_)
  obtain ⟨h0, rfl, hA⟩ := h9
  exact m_iret hC dL_asked_111 hr (Nat.le_of_ble_eq_true rfl) (Nat.le_of_ble_eq_true rfl) ⟨h0, rfl, hA⟩
set_option maxHeartbeats 2000000 in
theorem t_L_asked_chestAfter {D : va_G} {aC : Nat → ClassId} {s0 : State} {l : Launch} (hF : m_F D aC s0) (hl : l.stackTraces = false) {x : Nat} {fs : List Value} {a1 a2 : Int} {M : m_M} {r : Int × Int} {Es : List String} {A : m_M → Prop} (hO : M.2 x = some (m_ob 11 fs)) (hM : m_Met D aC s0 l yX9_chestAfter cX9_chestAfter 2 (some .int) 12 470 940 [.ref x, VI a1] M (g_pq r A) (g_pxq Es r A)) : m_Met D aC s0 l yL_asked cL_asked 4 (some .int) 13 470 940 [.ref x, VI 8, VI a1, VI a2] M (g_pq r A) (g_pxq Es r A) := by
  refine m_entry (lv := [(0, .ref x), (1, VI 8), (2, VI a1), (3, VI a2)]) (by decide +kernel) (Nat.le_of_ble_eq_true rfl) rfl hF hl ?_
  intro p e s m args below meth c hC hr hno hnm
  change m_C D aC s0 RL _ _ _ _ _ _ _ _ _ at hC
  refine m_iload_n hC 1 dL_asked_0 rfl rfl ?_
  refine m_tin (tgt := 112) hC dL_asked_1 (by decide) (by decide) rfl (by decide) ?_
  refine m_aload_n hC 0 dL_asked_112 rfl rfl ?_
  refine m_iload_n hC 2 dL_asked_113 rfl rfl ?_
  refine m_callV hC hM dL_asked_114 kc_X9_chestAfter kV_L_98 hO rfl rfl rfl rfl (Nat.le_of_ble_eq_true rfl) ⟨(Nat.le_of_ble_eq_true rfl), (Nat.le_of_ble_eq_true rfl)⟩ ⟨(Nat.le_of_ble_eq_true rfl), (Nat.le_of_ble_eq_true rfl)⟩ (m_out hC hno (Nat.le_of_ble_eq_true rfl) (Nat.le_of_ble_eq_true rfl) (fun E9 M9 h9 => h9)) (fun v9 M1 h9 => ?_)
  obtain ⟨h0, rfl, hA⟩ := h9
  exact m_iret hC dL_asked_117 hr (Nat.le_of_ble_eq_true rfl) (Nat.le_of_ble_eq_true rfl) ⟨h0, rfl, hA⟩
set_option maxHeartbeats 2000000 in
theorem t_L_asked_debtAfter {D : va_G} {aC : Nat → ClassId} {s0 : State} {l : Launch} (hF : m_F D aC s0) (hl : l.stackTraces = false) {x : Nat} {fs : List Value} {a1 a2 : Int} {M : m_M} {r : Int × Int} {Es : List String} {A : m_M → Prop} (hO : M.2 x = some (m_ob 11 fs)) (hM : m_Met D aC s0 l yX9_debtAfter cX9_debtAfter 3 (some .int) 12 470 940 [.ref x, VI a1, VI a2] M (g_pq r A) (g_pxq Es r A)) : m_Met D aC s0 l yL_asked cL_asked 4 (some .int) 13 470 940 [.ref x, VI 9, VI a1, VI a2] M (g_pq r A) (g_pxq Es r A) := by
  refine m_entry (lv := [(0, .ref x), (1, VI 9), (2, VI a1), (3, VI a2)]) (by decide +kernel) (Nat.le_of_ble_eq_true rfl) rfl hF hl ?_
  intro p e s m args below meth c hC hr hno hnm
  change m_C D aC s0 RL _ _ _ _ _ _ _ _ _ at hC
  refine m_iload_n hC 1 dL_asked_0 rfl rfl ?_
  refine m_tin (tgt := 118) hC dL_asked_1 (by decide) (by decide) rfl (by decide) ?_
  refine m_aload_n hC 0 dL_asked_118 rfl rfl ?_
  refine m_iload_n hC 2 dL_asked_119 rfl rfl ?_
  refine m_iload_n hC 3 dL_asked_120 rfl rfl ?_
  refine m_callV hC hM dL_asked_121 kc_X9_debtAfter kV_L_101 hO rfl rfl rfl rfl (Nat.le_of_ble_eq_true rfl) ⟨(Nat.le_of_ble_eq_true rfl), (Nat.le_of_ble_eq_true rfl)⟩ ⟨(Nat.le_of_ble_eq_true rfl), (Nat.le_of_ble_eq_true rfl)⟩ (m_out hC hno (Nat.le_of_ble_eq_true rfl) (Nat.le_of_ble_eq_true rfl) (fun E9 M9 h9 => h9)) (fun v9 M1 h9 => ?_)
  obtain ⟨h0, rfl, hA⟩ := h9
  exact m_iret hC dL_asked_124 hr (Nat.le_of_ble_eq_true rfl) (Nat.le_of_ble_eq_true rfl) ⟨h0, rfl, hA⟩
/-- what an answer or a refusal is worth to the law -/
def xc (E : String) : Int := if E = eI then -20002 else if E = eA then -20003 else if E = eS then -20005 else if E = eU then -20001 else -20004
def ansC (Es : List String) (r : Int × Int) : Int := if r.1 = 0 then r.2 else xc ((Es[(r.1 - 1).toNat]?).getD "")
theorem ansC_x {Es : List String} {r : Int × Int} {E : String} (h : 1 ≤ r.1 ∧ Es[(r.1 - 1).toNat]? = some E) : ansC Es r = xc E := by
  unfold ansC
  rw [if_neg (by omega), h.2]
  rfl
theorem ansC_0 {Es : List String} {r : Int × Int} (h : r.1 = 0) : ansC Es r = r.2 := if_pos h
theorem List.mem_of_ix {Es : List String} {i : Nat} {E : String} (h : Es[i]? = some E) : E ∈ Es := List.mem_of_getElem? h
def hh_deed : List (Nat × Nat × Nat × Nat) := [(0, 11, 12, 64), (0, 11, 18, 66), (0, 11, 24, 68), (0, 11, 30, 70), (0, 11, 36, 72)]
theorem kw_L_deed : m_cdW yL_deed cL_deed 7 (some .int) hh_deed 6 := ⟨lwg_of (List.mem_append_right _ (List.mem_of_getElem? (i := 342) (by decide +kernel))) rfl, lwg_of (List.mem_append_right _ (List.mem_of_getElem? (i := 0) (by decide +kernel))) rfl, by decide +kernel, by decide +kernel, by decide +kernel⟩
set_option maxHeartbeats 2000000 in
theorem t_L_deed {D : va_G} {aC : Nat → ClassId} {s0 : State} {l : Launch} (hF : m_F D aC s0) (hl : l.stackTraces = false) (hN : m_NC s0) {x : Nat} {a0 a1 a2 a3 a4 : Int} {M : m_M} {r : Int × Int} {Es : List String} {A : m_M → Prop} (hEs : ∀ E ∈ Es, E ∈ [eI, eA, eS, eU, eN]) (hM : m_Met D aC s0 l yL_plain cL_plain 6 (some .int) 13 470 940 [.ref x, VI a0, VI a1, VI a2, VI a3, VI a4] M (g_pq r A) (g_pxq Es r A)) : m_MetW D aC s0 l yL_deed cL_deed 7 (some .int) hh_deed 14 470 940 [.ref x, VI a0, VI a1, VI a2, VI a3, VI a4] M (fun v M' => v = some (VI (ansC Es r)) ∧ A M') := by
  refine m_entryW (lv := [(0, .ref x), (1, VI a0), (2, VI a1), (3, VI a2), (4, VI a3), (5, VI a4)]) (by decide +kernel) (Nat.le_of_ble_eq_true rfl) rfl hF hl ?_
  intro p e s m args below meth c hC hr ht
  change m_C D aC s0 RL _ _ _ _ _ _ _ _ _ at hC
  refine m_aload_n hC 0 dL_deed_0 rfl rfl ?_
  refine m_iload_n hC 1 dL_deed_1 rfl rfl ?_
  refine m_iload_n hC 2 dL_deed_2 rfl rfl ?_
  refine m_iload_n hC 3 dL_deed_3 rfl rfl ?_
  refine m_iload hC 4 dL_deed_4 rfl ?_
  refine m_iload hC 5 dL_deed_6 rfl ?_
  refine m_callS hC hM dL_deed_8 kc_L_plain kS_L_60 rfl rfl (Nat.le_of_ble_eq_true rfl) ⟨(Nat.le_of_ble_eq_true rfl), (Nat.le_of_ble_eq_true rfl)⟩ ⟨(Nat.le_of_ble_eq_true rfl), (Nat.le_of_ble_eq_true rfl)⟩ (fun E M1 ce q9 H1 locs1 ls h1 hx hH hS hce hcv hcl => ?_) (fun v9 M1 h9 => ?_)
  · obtain ⟨hr1, hA⟩ := hx
    have hE9 := hEs E (List.mem_of_ix hr1.2)
    have hv9 := ansC_x hr1
    simp only [List.mem_cons, List.not_mem_nil, or_false] at hE9
    rcases hE9 with rfl | rfl | rfl | rfl | rfl
    · refine m_catch hC hN (pre := []) (z := (0, 11, 12, 64)) (suf := [(0, 11, 18, 66), (0, 11, 24, 68), (0, 11, 30, 70), (0, 11, 36, 72)]) (E := eI) ht rfl ct_I (fun y hy => absurd hy List.not_mem_nil) ⟨by decide, by decide⟩ h1 hH hS hce hcv hcl ?_
      refine m_astore hC dL_deed_12 (by decide) rfl ?_
      refine m_sipush hC dL_deed_14 (by decide) ?_
      exact m_iret hC dL_deed_17 hr (Nat.le_of_ble_eq_true rfl) (Nat.le_of_ble_eq_true rfl) ⟨by rw [hv9]; rfl, hA⟩
    · refine m_catch hC hN (pre := [(0, 11, 12, 64)]) (z := (0, 11, 18, 66)) (suf := [(0, 11, 24, 68), (0, 11, 30, 70), (0, 11, 36, 72)]) (E := eA) ht rfl ct_A (List.forall_mem_cons.mpr ⟨⟨eI, ct_I, by decide⟩, (fun y hy => absurd hy List.not_mem_nil)⟩) ⟨by decide, by decide⟩ h1 hH hS hce hcv hcl ?_
      refine m_astore hC dL_deed_18 (by decide) rfl ?_
      refine m_sipush hC dL_deed_20 (by decide) ?_
      exact m_iret hC dL_deed_23 hr (Nat.le_of_ble_eq_true rfl) (Nat.le_of_ble_eq_true rfl) ⟨by rw [hv9]; rfl, hA⟩
    · refine m_catch hC hN (pre := [(0, 11, 12, 64), (0, 11, 18, 66)]) (z := (0, 11, 24, 68)) (suf := [(0, 11, 30, 70), (0, 11, 36, 72)]) (E := eS) ht rfl ct_S (List.forall_mem_cons.mpr ⟨⟨eI, ct_I, by decide⟩, (List.forall_mem_cons.mpr ⟨⟨eA, ct_A, by decide⟩, (fun y hy => absurd hy List.not_mem_nil)⟩)⟩) ⟨by decide, by decide⟩ h1 hH hS hce hcv hcl ?_
      refine m_astore hC dL_deed_24 (by decide) rfl ?_
      refine m_sipush hC dL_deed_26 (by decide) ?_
      exact m_iret hC dL_deed_29 hr (Nat.le_of_ble_eq_true rfl) (Nat.le_of_ble_eq_true rfl) ⟨by rw [hv9]; rfl, hA⟩
    · refine m_catch hC hN (pre := [(0, 11, 12, 64), (0, 11, 18, 66), (0, 11, 24, 68)]) (z := (0, 11, 30, 70)) (suf := [(0, 11, 36, 72)]) (E := eU) ht rfl ct_U (List.forall_mem_cons.mpr ⟨⟨eI, ct_I, by decide⟩, (List.forall_mem_cons.mpr ⟨⟨eA, ct_A, by decide⟩, (List.forall_mem_cons.mpr ⟨⟨eS, ct_S, by decide⟩, (fun y hy => absurd hy List.not_mem_nil)⟩)⟩)⟩) ⟨by decide, by decide⟩ h1 hH hS hce hcv hcl ?_
      refine m_astore hC dL_deed_30 (by decide) rfl ?_
      refine m_sipush hC dL_deed_32 (by decide) ?_
      exact m_iret hC dL_deed_35 hr (Nat.le_of_ble_eq_true rfl) (Nat.le_of_ble_eq_true rfl) ⟨by rw [hv9]; rfl, hA⟩
    · refine m_catch hC hN (pre := [(0, 11, 12, 64), (0, 11, 18, 66), (0, 11, 24, 68), (0, 11, 30, 70)]) (z := (0, 11, 36, 72)) (suf := []) (E := eN) ht rfl ct_N (List.forall_mem_cons.mpr ⟨⟨eI, ct_I, by decide⟩, (List.forall_mem_cons.mpr ⟨⟨eA, ct_A, by decide⟩, (List.forall_mem_cons.mpr ⟨⟨eS, ct_S, by decide⟩, (List.forall_mem_cons.mpr ⟨⟨eU, ct_U, by decide⟩, (fun y hy => absurd hy List.not_mem_nil)⟩)⟩)⟩)⟩) ⟨by decide, by decide⟩ h1 hH hS hce hcv hcl ?_
      refine m_astore hC dL_deed_36 (by decide) rfl ?_
      refine m_sipush hC dL_deed_38 (by decide) ?_
      exact m_iret hC dL_deed_41 hr (Nat.le_of_ble_eq_true rfl) (Nat.le_of_ble_eq_true rfl) ⟨by rw [hv9]; rfl, hA⟩
  · obtain ⟨h0, rfl, hA⟩ := h9
    exact m_iret hC dL_deed_11 hr (Nat.le_of_ble_eq_true rfl) (Nat.le_of_ble_eq_true rfl) ⟨by rw [ansC_0 h0], hA⟩
def hh_ask : List (Nat × Nat × Nat × Nat) := [(0, 7, 8, 64), (0, 7, 14, 66), (0, 7, 20, 68), (0, 7, 26, 72)]
theorem kw_L_ask : m_cdW yL_ask cL_ask 5 (some .int) hh_ask 4 := ⟨lwg_of (List.mem_append_right _ (List.mem_of_getElem? (i := 1087) (by decide +kernel))) rfl, lwg_of (List.mem_append_right _ (List.mem_of_getElem? (i := 0) (by decide +kernel))) rfl, by decide +kernel, by decide +kernel, by decide +kernel⟩
set_option maxHeartbeats 2000000 in
theorem t_L_ask {D : va_G} {aC : Nat → ClassId} {s0 : State} {l : Launch} (hF : m_F D aC s0) (hl : l.stackTraces = false) (hN : m_NC s0) {x : Nat} {a0 a1 a2 : Int} {M : m_M} {r : Int × Int} {Es : List String} {A : m_M → Prop} (hEs : ∀ E ∈ Es, E ∈ [eI, eA, eS, eN]) (hM : m_Met D aC s0 l yL_asked cL_asked 4 (some .int) 13 470 940 [.ref x, VI a0, VI a1, VI a2] M (g_pq r A) (g_pxq Es r A)) : m_MetW D aC s0 l yL_ask cL_ask 5 (some .int) hh_ask 14 470 940 [.ref x, VI a0, VI a1, VI a2] M (fun v M' => v = some (VI (ansC Es r)) ∧ A M') := by
  refine m_entryW (lv := [(0, .ref x), (1, VI a0), (2, VI a1), (3, VI a2)]) (by decide +kernel) (Nat.le_of_ble_eq_true rfl) rfl hF hl ?_
  intro p e s m args below meth c hC hr ht
  change m_C D aC s0 RL _ _ _ _ _ _ _ _ _ at hC
  refine m_aload_n hC 0 dL_ask_0 rfl rfl ?_
  refine m_iload_n hC 1 dL_ask_1 rfl rfl ?_
  refine m_iload_n hC 2 dL_ask_2 rfl rfl ?_
  refine m_iload_n hC 3 dL_ask_3 rfl rfl ?_
  refine m_callS hC hM dL_ask_4 kc_L_asked kS_L_113 rfl rfl (Nat.le_of_ble_eq_true rfl) ⟨(Nat.le_of_ble_eq_true rfl), (Nat.le_of_ble_eq_true rfl)⟩ ⟨(Nat.le_of_ble_eq_true rfl), (Nat.le_of_ble_eq_true rfl)⟩ (fun E M1 ce q9 H1 locs1 ls h1 hx hH hS hce hcv hcl => ?_) (fun v9 M1 h9 => ?_)
  · obtain ⟨hr1, hA⟩ := hx
    have hE9 := hEs E (List.mem_of_ix hr1.2)
    have hv9 := ansC_x hr1
    simp only [List.mem_cons, List.not_mem_nil, or_false] at hE9
    rcases hE9 with rfl | rfl | rfl | rfl
    · refine m_catch hC hN (pre := []) (z := (0, 7, 8, 64)) (suf := [(0, 7, 14, 66), (0, 7, 20, 68), (0, 7, 26, 72)]) (E := eI) ht rfl ct_I (fun y hy => absurd hy List.not_mem_nil) ⟨by decide, by decide⟩ h1 hH hS hce hcv hcl ?_
      refine m_astore hC dL_ask_8 (by decide) rfl ?_
      refine m_sipush hC dL_ask_10 (by decide) ?_
      exact m_iret hC dL_ask_13 hr (Nat.le_of_ble_eq_true rfl) (Nat.le_of_ble_eq_true rfl) ⟨by rw [hv9]; rfl, hA⟩
    · refine m_catch hC hN (pre := [(0, 7, 8, 64)]) (z := (0, 7, 14, 66)) (suf := [(0, 7, 20, 68), (0, 7, 26, 72)]) (E := eA) ht rfl ct_A (List.forall_mem_cons.mpr ⟨⟨eI, ct_I, by decide⟩, (fun y hy => absurd hy List.not_mem_nil)⟩) ⟨by decide, by decide⟩ h1 hH hS hce hcv hcl ?_
      refine m_astore hC dL_ask_14 (by decide) rfl ?_
      refine m_sipush hC dL_ask_16 (by decide) ?_
      exact m_iret hC dL_ask_19 hr (Nat.le_of_ble_eq_true rfl) (Nat.le_of_ble_eq_true rfl) ⟨by rw [hv9]; rfl, hA⟩
    · refine m_catch hC hN (pre := [(0, 7, 8, 64), (0, 7, 14, 66)]) (z := (0, 7, 20, 68)) (suf := [(0, 7, 26, 72)]) (E := eS) ht rfl ct_S (List.forall_mem_cons.mpr ⟨⟨eI, ct_I, by decide⟩, (List.forall_mem_cons.mpr ⟨⟨eA, ct_A, by decide⟩, (fun y hy => absurd hy List.not_mem_nil)⟩)⟩) ⟨by decide, by decide⟩ h1 hH hS hce hcv hcl ?_
      refine m_astore hC dL_ask_20 (by decide) rfl ?_
      refine m_sipush hC dL_ask_22 (by decide) ?_
      exact m_iret hC dL_ask_25 hr (Nat.le_of_ble_eq_true rfl) (Nat.le_of_ble_eq_true rfl) ⟨by rw [hv9]; rfl, hA⟩
    · refine m_catch hC hN (pre := [(0, 7, 8, 64), (0, 7, 14, 66), (0, 7, 20, 68)]) (z := (0, 7, 26, 72)) (suf := []) (E := eN) ht rfl ct_N (List.forall_mem_cons.mpr ⟨⟨eI, ct_I, by decide⟩, (List.forall_mem_cons.mpr ⟨⟨eA, ct_A, by decide⟩, (List.forall_mem_cons.mpr ⟨⟨eS, ct_S, by decide⟩, (fun y hy => absurd hy List.not_mem_nil)⟩)⟩)⟩) ⟨by decide, by decide⟩ h1 hH hS hce hcv hcl ?_
      refine m_astore hC dL_ask_26 (by decide) rfl ?_
      refine m_sipush hC dL_ask_28 (by decide) ?_
      exact m_iret hC dL_ask_31 hr (Nat.le_of_ble_eq_true rfl) (Nat.le_of_ble_eq_true rfl) ⟨by rw [hv9]; rfl, hA⟩
  · obtain ⟨h0, rfl, hA⟩ := h9
    exact m_iret hC dL_ask_7 hr (Nat.le_of_ble_eq_true rfl) (Nat.le_of_ble_eq_true rfl) ⟨by rw [ansC_0 h0], hA⟩
/-- a deed: some answer, some state behind it -/
def dQ (z0 : Nat) (fo : Nat → Nat) (x w : Nat) (K : Int) (M : m_M) : Option Value → m_M → Prop := fun v M' => ∃ (z : Int) (W' : gW), v = some (VI z) ∧ gIn z0 fo x w W' M' ∧ gFr x w M M' ∧ lI K W'
def iR4 (a b c d : Int) : Prop := iR a ∧ iR b ∧ iR c ∧ iR d
theorem m_MetW.mono {D : va_G} {aC : Nat → ClassId} {s0 : State} {l : Launch} {y : MethodName} {cc : ByteArray} {nL : Nat} {ret : Option FieldType} {hh : List (Nat × Nat × Nat × Nat)} {d mc ms : Nat} {As : List Value} {M : m_M} {post post2 : Option Value → m_M → Prop} (h : m_MetW D aC s0 l y cc nL ret hh d mc ms As M post) (h1 : ∀ v M', post v M' → post2 v M') : m_MetW D aC s0 l y cc nL ret hh d mc ms As M post2 := by
  have h9 : MetFree l y (headSpec (m_wsW y cc nL ret hh) (m_R d mc ms)) (m_Pc D aC s0 As M) (fun _ _ _ _ _ => True) (fun a st o t => m_Qc D aC s0 post a st o t ∧ ∃ L, FrameEnd st o t L mc ms ∧ ∀ q ∈ L, m_A s0 q.base) := h
  have h8 : MetFree l y (headSpec (m_wsW y cc nL ret hh) (m_R d mc ms)) (m_Pc D aC s0 As M) (fun _ _ _ _ _ => True) (fun a st o t => m_Qc D aC s0 post2 a st o t ∧ ∃ L, FrameEnd st o t L mc ms ∧ ∀ q ∈ L, m_A s0 q.base) := by
    refine MetFree.mono h9 (fun _ _ z => z) (fun _ _ _ _ _ z => z) (fun a s o s' _ hq => ?_)
    obtain ⟨⟨⟨v, M', ho, hp, hH⟩, hF⟩, hL⟩ := hq
    exact ⟨⟨⟨v, M', ho, h1 _ _ hp, hH⟩, hF⟩, hL⟩
  exact h8
theorem d_addGoblin {D : va_G} {aC : Nat → ClassId} {s0 : State} {l : Launch} (hF : m_F D aC s0) (hl : l.stackTraces = false) {fo ks vs : Nat → Nat} {fA sA dO dT : Nat} (hJ : m_J s0 fo ks vs fA sA dO dT) (hX : m_TH s0) (hN : m_NC s0) {x w : Nat} {W : gW} {M : m_M} {K : Int} (hG : gIn s0.heap.size fo x w W M) (hI : lI K W) (hK : K ≤ 77000000) {a1 a2 a3 a4 : Int} (hR : iR4 a1 a2 a3 a4) : m_MetW D aC s0 l yL_deed cL_deed 7 (some .int) hh_deed 14 470 940 [.ref x, VI 0, VI a1, VI a2, VI a3, VI a4] M (dQ s0.heap.size fo x w (K + 5300) M) :=
  m_MetW.mono (t_L_deed hF hl hN (by decide) (t_L_plain_addGoblin hF hl hG.2.1 (C_addGoblin hF hl hJ hX hG hI hK hR.1))) (fun v M' h => ⟨_, _, h.1, h.2.1, h.2.2, lI.ch (cs := [-2, -3]) hI (S_addGoblin_I hI.1 a1) (S_addGoblin_ok (hI.B (by omega)) a1)⟩)
theorem d_addBroom {D : va_G} {aC : Nat → ClassId} {s0 : State} {l : Launch} (hF : m_F D aC s0) (hl : l.stackTraces = false) {fo ks vs : Nat → Nat} {fA sA dO dT : Nat} (hJ : m_J s0 fo ks vs fA sA dO dT) (hX : m_TH s0) (hN : m_NC s0) {x w : Nat} {W : gW} {M : m_M} {K : Int} (hG : gIn s0.heap.size fo x w W M) (hI : lI K W) (hK : K ≤ 77000000) {a1 a2 a3 a4 : Int} (hR : iR4 a1 a2 a3 a4) : m_MetW D aC s0 l yL_deed cL_deed 7 (some .int) hh_deed 14 470 940 [.ref x, VI 1, VI a1, VI a2, VI a3, VI a4] M (dQ s0.heap.size fo x w (K + 5300) M) :=
  m_MetW.mono (t_L_deed hF hl hN (by decide) (t_L_plain_addBroom hF hl hG.2.1 (C_addBroom hF hl hJ hX hG hI hK hR.1))) (fun v M' h => ⟨_, _, h.1, h.2.1, h.2.2, lI.ch (cs := [-2, -3]) hI (S_addBroom_I hI.1 a1) (S_addBroom_ok (hI.B (by omega)) a1)⟩)
theorem d_banishBroom {D : va_G} {aC : Nat → ClassId} {s0 : State} {l : Launch} (hF : m_F D aC s0) (hl : l.stackTraces = false) {fo ks vs : Nat → Nat} {fA sA dO dT : Nat} (hJ : m_J s0 fo ks vs fA sA dO dT) (hX : m_TH s0) (hN : m_NC s0) {x w : Nat} {W : gW} {M : m_M} {K : Int} (hG : gIn s0.heap.size fo x w W M) (hI : lI K W) (hK : K ≤ 77000000) {a1 a2 a3 a4 : Int} (hR : iR4 a1 a2 a3 a4) : m_MetW D aC s0 l yL_deed cL_deed 7 (some .int) hh_deed 14 470 940 [.ref x, VI 2, VI a1, VI a2, VI a3, VI a4] M (dQ s0.heap.size fo x w (K + 5300) M) :=
  m_MetW.mono (t_L_deed hF hl hN (by decide) (t_L_plain_banishBroom hF hl hG.2.1 (C_banishBroom hF hl hJ hX hG hI hK hR.1))) (fun v M' h => ⟨_, _, h.1, h.2.1, h.2.2, lI.ch (cs := [-1, -3]) hI (S_banish_I hI.1 a1) (S_banish_ok (hI.B (by omega)) a1)⟩)
theorem d_recallBroom {D : va_G} {aC : Nat → ClassId} {s0 : State} {l : Launch} (hF : m_F D aC s0) (hl : l.stackTraces = false) {fo ks vs : Nat → Nat} {fA sA dO dT : Nat} (hJ : m_J s0 fo ks vs fA sA dO dT) (hX : m_TH s0) (hN : m_NC s0) {x w : Nat} {W : gW} {M : m_M} {K : Int} (hG : gIn s0.heap.size fo x w W M) (hI : lI K W) (hK : K ≤ 77000000) {a1 a2 a3 a4 : Int} (hR : iR4 a1 a2 a3 a4) : m_MetW D aC s0 l yL_deed cL_deed 7 (some .int) hh_deed 14 470 940 [.ref x, VI 3, VI a1, VI a2, VI a3, VI a4] M (dQ s0.heap.size fo x w (K + 5300) M) :=
  m_MetW.mono (t_L_deed hF hl hN (by decide) (t_L_plain_recallBroom hF hl hG.2.1 (C_recallBroom hF hl hJ hX hG hI hK hR.1))) (fun v M' h => ⟨_, _, h.1, h.2.1, h.2.2, lI.ch (cs := [-1, -3]) hI (S_recall_I hI.1 a1) (S_recall_ok (hI.B (by omega)) a1)⟩)
theorem d_hire {D : va_G} {aC : Nat → ClassId} {s0 : State} {l : Launch} (hF : m_F D aC s0) (hl : l.stackTraces = false) {fo ks vs : Nat → Nat} {fA sA dO dT : Nat} (hJ : m_J s0 fo ks vs fA sA dO dT) (hX : m_TH s0) (hN : m_NC s0) {x w : Nat} {W : gW} {M : m_M} {K : Int} (hG : gIn s0.heap.size fo x w W M) (hI : lI K W) (hK : K ≤ 77000000) {a1 a2 a3 a4 : Int} (hR : iR4 a1 a2 a3 a4) : m_MetW D aC s0 l yL_deed cL_deed 7 (some .int) hh_deed 14 470 940 [.ref x, VI 4, VI a1, VI a2, VI a3, VI a4] M (dQ s0.heap.size fo x w (K + 5300) M) :=
  m_MetW.mono (t_L_deed hF hl hN (by decide) (t_L_plain_hire hF hl hG.2.1 (C_hire hF hl hJ hX hG hI hK hR.1 hR.2.1 hR.2.2.1 hR.2.2.2))) (fun v M' h => ⟨_, _, h.1, h.2.1, h.2.2, lI.ch (cs := [-1, -2, -3, -4]) hI (S_hire_I hI.1 a1 a2 a3 a4) (S_hire_ok (hI.B (by omega)) a1 a2 a3 a4)⟩)
theorem d_cancelContract {D : va_G} {aC : Nat → ClassId} {s0 : State} {l : Launch} (hF : m_F D aC s0) (hl : l.stackTraces = false) {fo ks vs : Nat → Nat} {fA sA dO dT : Nat} (hJ : m_J s0 fo ks vs fA sA dO dT) (hX : m_TH s0) (hN : m_NC s0) {x w : Nat} {W : gW} {M : m_M} {K : Int} (hG : gIn s0.heap.size fo x w W M) (hI : lI K W) (hK : K ≤ 77000000) {a1 a2 a3 a4 : Int} (hR : iR4 a1 a2 a3 a4) : m_MetW D aC s0 l yL_deed cL_deed 7 (some .int) hh_deed 14 470 940 [.ref x, VI 5, VI a1, VI a2, VI a3, VI a4] M (dQ s0.heap.size fo x w (K + 5300) M) :=
  m_MetW.mono (t_L_deed hF hl hN (by decide) (t_L_plain_cancelContract hF hl hG.2.1 (C_cancelContract hF hl hJ hX hG hI hK hR.1))) (fun v M' h => ⟨_, _, h.1, h.2.1, h.2.2, lI.ch (cs := [-5]) hI (S_cancel_I hI.1 a1) (S_cancel_ok (hI.B (by omega)) a1)⟩)
theorem d_rest {D : va_G} {aC : Nat → ClassId} {s0 : State} {l : Launch} (hF : m_F D aC s0) (hl : l.stackTraces = false) {fo ks vs : Nat → Nat} {fA sA dO dT : Nat} (hJ : m_J s0 fo ks vs fA sA dO dT) (hX : m_TH s0) (hN : m_NC s0) {x w : Nat} {W : gW} {M : m_M} {K : Int} (hG : gIn s0.heap.size fo x w W M) (hI : lI K W) (hK : K ≤ 77000000) {a1 a2 a3 a4 : Int} (hR : iR4 a1 a2 a3 a4) : m_MetW D aC s0 l yL_deed cL_deed 7 (some .int) hh_deed 14 470 940 [.ref x, VI 6, VI a1, VI a2, VI a3, VI a4] M (dQ s0.heap.size fo x w (K + 5300) M) :=
  m_MetW.mono (t_L_deed hF hl hN (by decide) (t_L_plain_rest hF hl hG.2.1 (C_rest hF hl hJ hX hG hI hK hR.1))) (fun v M' h => ⟨_, _, h.1, h.2.1, h.2.2, lI.ch (cs := [-1, -3]) hI (S_rest_I hI.1 a1) (S_rest_ok (hI.B (by omega)) a1)⟩)
theorem d_wake {D : va_G} {aC : Nat → ClassId} {s0 : State} {l : Launch} (hF : m_F D aC s0) (hl : l.stackTraces = false) {fo ks vs : Nat → Nat} {fA sA dO dT : Nat} (hJ : m_J s0 fo ks vs fA sA dO dT) (hX : m_TH s0) (hN : m_NC s0) {x w : Nat} {W : gW} {M : m_M} {K : Int} (hG : gIn s0.heap.size fo x w W M) (hI : lI K W) (hK : K ≤ 77000000) {a1 a2 a3 a4 : Int} (hR : iR4 a1 a2 a3 a4) : m_MetW D aC s0 l yL_deed cL_deed 7 (some .int) hh_deed 14 470 940 [.ref x, VI 7, VI a1, VI a2, VI a3, VI a4] M (dQ s0.heap.size fo x w (K + 5300) M) :=
  m_MetW.mono (t_L_deed hF hl hN (by decide) (t_L_plain_wake hF hl hG.2.1 (C_wake hF hl hJ hX hG hI hK hR.1))) (fun v M' h => ⟨_, _, h.1, h.2.1, h.2.2, lI.ch (cs := [-1, -3]) hI (S_wake_I hI.1 a1) (S_wake_ok (hI.B (by omega)) a1)⟩)
theorem d_lend {D : va_G} {aC : Nat → ClassId} {s0 : State} {l : Launch} (hF : m_F D aC s0) (hl : l.stackTraces = false) {fo ks vs : Nat → Nat} {fA sA dO dT : Nat} (hJ : m_J s0 fo ks vs fA sA dO dT) (hX : m_TH s0) (hN : m_NC s0) {x w : Nat} {W : gW} {M : m_M} {K : Int} (hG : gIn s0.heap.size fo x w W M) (hI : lI K W) (hK : K ≤ 77000000) {a1 a2 a3 a4 : Int} (hR : iR4 a1 a2 a3 a4) : m_MetW D aC s0 l yL_deed cL_deed 7 (some .int) hh_deed 14 470 940 [.ref x, VI 8, VI a1, VI a2, VI a3, VI a4] M (dQ s0.heap.size fo x w (K + 5300) M) :=
  m_MetW.mono (t_L_deed hF hl hN (by decide) (t_L_plain_lend hF hl hG.2.1 (C_lend hF hl hJ hX hG hI hK hR.1 hR.2.1))) (fun v M' h => ⟨_, _, h.1, h.2.1, h.2.2, lI.ch (cs := [-1, -2, -4]) hI (S_lend_I hI.1 a1 a2) (S_lend_ok (hI.B (by omega)) a1 a2)⟩)
theorem d_fund {D : va_G} {aC : Nat → ClassId} {s0 : State} {l : Launch} (hF : m_F D aC s0) (hl : l.stackTraces = false) {fo ks vs : Nat → Nat} {fA sA dO dT : Nat} (hJ : m_J s0 fo ks vs fA sA dO dT) (hX : m_TH s0) (hN : m_NC s0) {x w : Nat} {W : gW} {M : m_M} {K : Int} (hG : gIn s0.heap.size fo x w W M) (hI : lI K W) (hK : K ≤ 77000000) {a1 a2 a3 a4 : Int} (hR : iR4 a1 a2 a3 a4) : m_MetW D aC s0 l yL_deed cL_deed 7 (some .int) hh_deed 14 470 940 [.ref x, VI 9, VI a1, VI a2, VI a3, VI a4] M (dQ s0.heap.size fo x w (K + 5300) M) :=
  m_MetW.mono (t_L_deed hF hl hN (by decide) (t_L_plain_fund hF hl hG.2.1 (C_fund hF hl hJ hX hG hI hK hR.1))) (fun v M' h => ⟨_, _, h.1, h.2.1, h.2.2, lI.ch (cs := [-2]) hI (S_fund_I hI.1 a1) (S_fund_ok (hI.B (by omega)) a1)⟩)
theorem d_spend {D : va_G} {aC : Nat → ClassId} {s0 : State} {l : Launch} (hF : m_F D aC s0) (hl : l.stackTraces = false) {fo ks vs : Nat → Nat} {fA sA dO dT : Nat} (hJ : m_J s0 fo ks vs fA sA dO dT) (hX : m_TH s0) (hN : m_NC s0) {x w : Nat} {W : gW} {M : m_M} {K : Int} (hG : gIn s0.heap.size fo x w W M) (hI : lI K W) (hK : K ≤ 77000000) {a1 a2 a3 a4 : Int} (hR : iR4 a1 a2 a3 a4) : m_MetW D aC s0 l yL_deed cL_deed 7 (some .int) hh_deed 14 470 940 [.ref x, VI 10, VI a1, VI a2, VI a3, VI a4] M (dQ s0.heap.size fo x w (K + 5300) M) :=
  m_MetW.mono (t_L_deed hF hl hN (by decide) (t_L_plain_spend hF hl hG.2.1 (C_spend hF hl hJ hX hG hI hK hR.1))) (fun v M' h => ⟨_, _, h.1, h.2.1, h.2.2, lI.ch (cs := [-2, -4]) hI (S_spend_I hI.1 a1) (S_spend_ok (hI.B (by omega)) a1)⟩)
theorem d_passNights {D : va_G} {aC : Nat → ClassId} {s0 : State} {l : Launch} (hF : m_F D aC s0) (hl : l.stackTraces = false) {fo ks vs : Nat → Nat} {fA sA dO dT : Nat} (hJ : m_J s0 fo ks vs fA sA dO dT) (hX : m_TH s0) (hN : m_NC s0) {x w : Nat} {W : gW} {M : m_M} {K : Int} (hG : gIn s0.heap.size fo x w W M) (hI : lI K W) (hK : K ≤ 77000000) {a1 a2 a3 a4 : Int} (hR : iR4 a1 a2 a3 a4) : m_MetW D aC s0 l yL_deed cL_deed 7 (some .int) hh_deed 14 470 940 [.ref x, VI 11, VI a1, VI a2, VI a3, VI a4] M (dQ s0.heap.size fo x w (K + 5300) M) :=
  m_MetW.mono (t_L_deed hF hl hN (by decide) (t_L_plain_passNights hF hl hG.2.1 (C_passNights hF hl hJ hX hG hI hK hR.1))) (fun v M' h => ⟨_, _, h.1, h.2.1, h.2.2, lI.ch (cs := [-2]) hI (S_pass_I hI.1 a1) (S_pass_ok hI.1.1 (by omega) a1)⟩)
/-- a question that may be refused -/
def aQ (z0 : Nat) (fo : Nat → Nat) (x w : Nat) (W : gW) (z : Int) (M : m_M) : Option Value → m_M → Prop := fun v M' => v = some (VI z) ∧ gIn z0 fo x w W M' ∧ gFr x w M M'
theorem a_dust {D : va_G} {aC : Nat → ClassId} {s0 : State} {l : Launch} (hF : m_F D aC s0) (hl : l.stackTraces = false) {fo ks vs : Nat → Nat} {fA sA dO dT : Nat} (hJ : m_J s0 fo ks vs fA sA dO dT) (hX : m_TH s0) (hN : m_NC s0) {x w : Nat} {W : gW} {M : m_M} {K : Int} (hG : gIn s0.heap.size fo x w W M) (hI : lI K W) (hK : K ≤ 77000000) {a1 a2 : Int} (ha1 : iR a1) {r : Int × Int} {z : Int} (hr : G_dust W.1 a1 = r) (hz : ansC [eI] r = z) : m_MetW D aC s0 l yL_ask cL_ask 5 (some .int) hh_ask 14 470 940 [.ref x, VI 0, VI a1, VI a2] M (aQ s0.heap.size fo x w W z M) := by
  subst hr
  subst hz
  exact m_MetW.mono (t_L_ask hF hl hN (by decide) (t_L_asked_dust (a2 := a2) hF hl hG.2.1 (C_dust hF hl hJ hX hG hI hK ha1))) (fun v M' h => ⟨h.1, h.2.1, h.2.2⟩)
theorem a_roomByDust {D : va_G} {aC : Nat → ClassId} {s0 : State} {l : Launch} (hF : m_F D aC s0) (hl : l.stackTraces = false) {fo ks vs : Nat → Nat} {fA sA dO dT : Nat} (hJ : m_J s0 fo ks vs fA sA dO dT) (hX : m_TH s0) (hN : m_NC s0) {x w : Nat} {W : gW} {M : m_M} {K : Int} (hG : gIn s0.heap.size fo x w W M) (hI : lI K W) (hK : K ≤ 77000000) {a1 a2 : Int} (ha1 : iR a1) {r : Int × Int} {z : Int} (hr : G_rbd W.1 a1 = r) (hz : ansC [eN] r = z) : m_MetW D aC s0 l yL_ask cL_ask 5 (some .int) hh_ask 14 470 940 [.ref x, VI 1, VI a1, VI a2] M (aQ s0.heap.size fo x w W z M) := by
  subst hr
  subst hz
  exact m_MetW.mono (t_L_ask hF hl hN (by decide) (t_L_asked_roomByDust (a2 := a2) hF hl hG.2.1 (C_roomByDust hF hl hJ hX hG hI hK ha1))) (fun v M' h => ⟨h.1, h.2.1, h.2.2⟩)
theorem a_energy {D : va_G} {aC : Nat → ClassId} {s0 : State} {l : Launch} (hF : m_F D aC s0) (hl : l.stackTraces = false) {fo ks vs : Nat → Nat} {fA sA dO dT : Nat} (hJ : m_J s0 fo ks vs fA sA dO dT) (hX : m_TH s0) (hN : m_NC s0) {x w : Nat} {W : gW} {M : m_M} {K : Int} (hG : gIn s0.heap.size fo x w W M) (hI : lI K W) (hK : K ≤ 77000000) {a1 a2 : Int} (ha1 : iR a1) {r : Int × Int} {z : Int} (hr : G_ene W.1 a1 = r) (hz : ansC [eI] r = z) : m_MetW D aC s0 l yL_ask cL_ask 5 (some .int) hh_ask 14 470 940 [.ref x, VI 2, VI a1, VI a2] M (aQ s0.heap.size fo x w W z M) := by
  subst hr
  subst hz
  exact m_MetW.mono (t_L_ask hF hl hN (by decide) (t_L_asked_energy (a2 := a2) hF hl hG.2.1 (C_energy hF hl hJ hX hG hI hK ha1))) (fun v M' h => ⟨h.1, h.2.1, h.2.2⟩)
theorem a_goblinByWealth {D : va_G} {aC : Nat → ClassId} {s0 : State} {l : Launch} (hF : m_F D aC s0) (hl : l.stackTraces = false) {fo ks vs : Nat → Nat} {fA sA dO dT : Nat} (hJ : m_J s0 fo ks vs fA sA dO dT) (hX : m_TH s0) (hN : m_NC s0) {x w : Nat} {W : gW} {M : m_M} {K : Int} (hG : gIn s0.heap.size fo x w W M) (hI : lI K W) (hK : K ≤ 77000000) {a1 a2 : Int} (ha1 : iR a1) {r : Int × Int} {z : Int} (hr : G_gbw W.1 a1 = r) (hz : ansC [eN] r = z) : m_MetW D aC s0 l yL_ask cL_ask 5 (some .int) hh_ask 14 470 940 [.ref x, VI 3, VI a1, VI a2] M (aQ s0.heap.size fo x w W z M) := by
  subst hr
  subst hz
  exact m_MetW.mono (t_L_ask hF hl hN (by decide) (t_L_asked_goblinByWealth (a2 := a2) hF hl hG.2.1 (C_goblinByWealth hF hl hJ hX hG hI hK ha1))) (fun v M' h => ⟨h.1, h.2.1, h.2.2⟩)
theorem a_bestWages {D : va_G} {aC : Nat → ClassId} {s0 : State} {l : Launch} (hF : m_F D aC s0) (hl : l.stackTraces = false) {fo ks vs : Nat → Nat} {fA sA dO dT : Nat} (hJ : m_J s0 fo ks vs fA sA dO dT) (hX : m_TH s0) (hN : m_NC s0) {x w : Nat} {W : gW} {M : m_M} {K : Int} (hG : gIn s0.heap.size fo x w W M) (hI : lI K W) (hK : K ≤ 77000000) {a1 a2 : Int} (ha1 : iR a1) {r : Int × Int} {z : Int} (hr : G_best W.1 a1 = r) (hz : ansC [eI] r = z) : m_MetW D aC s0 l yL_ask cL_ask 5 (some .int) hh_ask 14 470 940 [.ref x, VI 4, VI a1, VI a2] M (aQ s0.heap.size fo x w W z M) := by
  subst hr
  subst hz
  exact m_MetW.mono (t_L_ask hF hl hN (by decide) (t_L_asked_bestWages (a2 := a2) hF hl hG.2.1 (C_bestWages hF hl hJ hX hG hI hK ha1))) (fun v M' h => ⟨h.1, h.2.1, h.2.2⟩)
theorem a_contractAt {D : va_G} {aC : Nat → ClassId} {s0 : State} {l : Launch} (hF : m_F D aC s0) (hl : l.stackTraces = false) {fo ks vs : Nat → Nat} {fA sA dO dT : Nat} (hJ : m_J s0 fo ks vs fA sA dO dT) (hX : m_TH s0) (hN : m_NC s0) {x w : Nat} {W : gW} {M : m_M} {K : Int} (hG : gIn s0.heap.size fo x w W M) (hI : lI K W) (hK : K ≤ 77000000) {a1 a2 : Int} (ha1 : iR a1) {r : Int × Int} {z : Int} (hr : G_cat W.1 a1 = r) (hz : ansC [eN] r = z) : m_MetW D aC s0 l yL_ask cL_ask 5 (some .int) hh_ask 14 470 940 [.ref x, VI 5, VI a1, VI a2] M (aQ s0.heap.size fo x w W z M) := by
  subst hr
  subst hz
  exact m_MetW.mono (t_L_ask hF hl hN (by decide) (t_L_asked_contractAt (a2 := a2) hF hl hG.2.1 (C_contractAt hF hl hJ hX hG hI hK ha1))) (fun v M' h => ⟨h.1, h.2.1, h.2.2⟩)
theorem a_wage {D : va_G} {aC : Nat → ClassId} {s0 : State} {l : Launch} (hF : m_F D aC s0) (hl : l.stackTraces = false) {fo ks vs : Nat → Nat} {fA sA dO dT : Nat} (hJ : m_J s0 fo ks vs fA sA dO dT) (hX : m_TH s0) (hN : m_NC s0) {x w : Nat} {W : gW} {M : m_M} {K : Int} (hG : gIn s0.heap.size fo x w W M) (hI : lI K W) (hK : K ≤ 77000000) {a1 a2 : Int} (ha1 : iR a1) {r : Int × Int} {z : Int} (hr : G_con W.1 12 a1 = r) (hz : ansC [eN] r = z) : m_MetW D aC s0 l yL_ask cL_ask 5 (some .int) hh_ask 14 470 940 [.ref x, VI 6, VI a1, VI a2] M (aQ s0.heap.size fo x w W z M) := by
  subst hr
  subst hz
  exact m_MetW.mono (t_L_ask hF hl hN (by decide) (t_L_asked_wage (a2 := a2) hF hl hG.2.1 (C_wage hF hl hJ hX hG hI hK ha1))) (fun v M' h => ⟨h.1, h.2.1, h.2.2⟩)
theorem a_nightsUntilDone {D : va_G} {aC : Nat → ClassId} {s0 : State} {l : Launch} (hF : m_F D aC s0) (hl : l.stackTraces = false) {fo ks vs : Nat → Nat} {fA sA dO dT : Nat} (hJ : m_J s0 fo ks vs fA sA dO dT) (hX : m_TH s0) (hN : m_NC s0) {x w : Nat} {W : gW} {M : m_M} {K : Int} (hG : gIn s0.heap.size fo x w W M) (hI : lI K W) (hK : K ≤ 77000000) {a1 a2 : Int} (ha1 : iR a1) {r : Int × Int} {z : Int} (hr : G_nud W.1 a1 = r) (hz : ansC [eN, eS] r = z) : m_MetW D aC s0 l yL_ask cL_ask 5 (some .int) hh_ask 14 470 940 [.ref x, VI 7, VI a1, VI a2] M (aQ s0.heap.size fo x w W z M) := by
  subst hr
  subst hz
  exact m_MetW.mono (t_L_ask hF hl hN (by decide) (t_L_asked_nightsUntilDone (a2 := a2) hF hl hG.2.1 (C_nightsUntilDone hF hl hJ hX hG hI hK ha1))) (fun v M' h => ⟨h.1, h.2.1, h.2.2⟩)
theorem a_chestAfter {D : va_G} {aC : Nat → ClassId} {s0 : State} {l : Launch} (hF : m_F D aC s0) (hl : l.stackTraces = false) {fo ks vs : Nat → Nat} {fA sA dO dT : Nat} (hJ : m_J s0 fo ks vs fA sA dO dT) (hX : m_TH s0) (hN : m_NC s0) {x w : Nat} {W : gW} {M : m_M} {K : Int} (hG : gIn s0.heap.size fo x w W M) (hI : lI K W) (hK : K ≤ 77000000) {a1 a2 : Int} (ha1 : iR a1) {r : Int × Int} {z : Int} (hr : G_ca W.1 a1 = r) (hz : ansC [eA] r = z) : m_MetW D aC s0 l yL_ask cL_ask 5 (some .int) hh_ask 14 470 940 [.ref x, VI 8, VI a1, VI a2] M (aQ s0.heap.size fo x w W z M) := by
  subst hr
  subst hz
  exact m_MetW.mono (t_L_ask hF hl hN (by decide) (t_L_asked_chestAfter (a2 := a2) hF hl hG.2.1 (C_chestAfter hF hl hJ hX hG hI hK ha1))) (fun v M' h => ⟨h.1, h.2.1, h.2.2⟩)
theorem a_debtAfter {D : va_G} {aC : Nat → ClassId} {s0 : State} {l : Launch} (hF : m_F D aC s0) (hl : l.stackTraces = false) {fo ks vs : Nat → Nat} {fA sA dO dT : Nat} (hJ : m_J s0 fo ks vs fA sA dO dT) (hX : m_TH s0) (hN : m_NC s0) {x w : Nat} {W : gW} {M : m_M} {K : Int} (hG : gIn s0.heap.size fo x w W M) (hI : lI K W) (hK : K ≤ 77000000) {a1 a2 : Int} (ha1 : iR a1) (ha2 : iR a2) {r : Int × Int} {z : Int} (hr : G_da W.1 a1 a2 = r) (hz : ansC [eI, eA] r = z) : m_MetW D aC s0 l yL_ask cL_ask 5 (some .int) hh_ask 14 470 940 [.ref x, VI 9, VI a1, VI a2] M (aQ s0.heap.size fo x w W z M) := by
  subst hr
  subst hz
  exact m_MetW.mono (t_L_ask hF hl hN (by decide) (t_L_asked_debtAfter (a2 := a2) hF hl hG.2.1 (C_debtAfter hF hl hJ hX hG hI hK ha1 ha2))) (fun v M' h => ⟨h.1, h.2.1, h.2.2⟩)
