set_option maxHeartbeats 4000000 in
set_option maxRecDepth 100000 in
theorem t_X9_bestWagesByTable {D : va_G} {aC : Nat → ClassId} {s0 : State} {l : Launch} (hF : m_F D aC s0) (hl : l.stackTraces = false) {x w : Nat} {g sg : h_T} {L : Nat → h_T} {q : Int → Int} {tx ot : List Int} {M : m_M} {K : Int} {fo : Nat → Nat} (hX : m_TH s0) (hG : ghP s0.heap.size fo x w g sg L q tx ot M) (hB : h_BK K g) (hK : K ≤ 80000000) (hc : 0 ≤ q 0 ∧ q 0 ≤ 8) {y : Int} (hy : -2147483648 ≤ y ∧ y < 2147483648)  : m_Met D aC s0 l yX9_bestWagesByTable cX9_bestWagesByTable 2 (some .int) 12 (470) (940) [.ref x, VI y] M (g_pq (G_best g y) (fun M' => ghP s0.heap.size fo x w g sg L q tx ot M' ∧ gFr x w M M')) (g_pxq [eI] (G_best g y) (fun M' => ghP s0.heap.size fo x w g sg L q tx ot M' ∧ gFr x w M M')) := by
  refine m_entry (lv := [(0, .ref x), (1, VI y)]) (by decide +kernel) (Nat.le_of_ble_eq_true rfl) rfl hF hl ?_
  intro p e s m args below meth c hC hr hno hnm
  change m_C D aC s0 RX9 _ _ _ _ _ _ _ _ _ at hC
  have hG9 := hG
  obtain ⟨a1, hO, hR, ⟨f9, hFo⟩, a5, ⟨L9, hH, hL⟩, a7, a8⟩ := hG9
  have hx := a1.2.2
  have h8 := hB.n8.2
  have h9 := hB.n9.2
  have h11 := hB.n11.2
  have hB0 := hB.toB (by omega)
  obtain ⟨p9, hQ⟩ := id hH
  obtain ⟨bf, hBf⟩ := a7
  refine m_aload_n hC 0 dX9_bestWagesByTable_0 rfl rfl ?_
  refine m_iload_n hC 1 dX9_bestWagesByTable_1 rfl rfl ?_
  refine m_callV hC (t_X9_checkGoblin hF hl hX hO hR hB0 hy) dX9_bestWagesByTable_2 kc_X9_checkGoblin kV_X9_177 hO rfl rfl rfl rfl (Nat.le_of_ble_eq_true rfl) (by decide) ⟨Nat.le_of_ble_eq_true rfl, Nat.le_of_ble_eq_true rfl⟩ (m_out hC hno (Nat.le_of_ble_eq_true rfl) (Nat.le_of_ble_eq_true rfl) (fun E9 M9 h9 => (by obtain ⟨⟨rfl, h8⟩, h7, h6⟩ := h9; exact g_pxq.mk 1 0 (G_if.f h8) (by decide) rfl ⟨hG.grow h7 h6, gFr.gr h7 h6⟩))) (fun v9 M1 h9 => ?_)
  obtain ⟨rfl, h9, hyg⟩ := h9
  replace h9 := h9.symm
  subst h9
  refine m_aload_n hC 0 dX9_bestWagesByTable_5 rfl rfl ?_
  refine m_getf hC dX9_bestWagesByTable_6 kf_X9_12 hO rfl ?_
  refine m_getf hC dX9_bestWagesByTable_9 kf_X9_201 hR.ob rfl ?_
  refine m_iload_n hC 1 dX9_bestWagesByTable_12 rfl rfl ?_
  refine m_aload_n hC 0 dX9_bestWagesByTable_13 rfl rfl ?_
  refine m_getf hC dX9_bestWagesByTable_14 kf_X9_12 hO rfl ?_
  refine m_iload_n hC 1 dX9_bestWagesByTable_17 rfl rfl ?_
  refine m_callV hC (t_X7_energyOf hF hl hR hB0 hyg) dX9_bestWagesByTable_18 kc_X7_energyOf kV_X9_195 hR.ob rfl rfl rfl rfl (Nat.le_of_ble_eq_true rfl) (by decide) ⟨Nat.le_of_ble_eq_true rfl, Nat.le_of_ble_eq_true rfl⟩ m_nox (fun v9 M2 h9 => ?_)
  obtain ⟨rfl, h9⟩ := h9
  replace h9 := h9.symm
  subst h9
  refine m_aload_n hC 0 dX9_bestWagesByTable_21 rfl rfl ?_
  refine m_getf hC dX9_bestWagesByTable_22 kf_X9_43 hO rfl ?_
  refine m_callV hC (t_X3_bestOfTable hF hl hR hB0 hBf (by omega) (by omega) hy (S_energy_bd hB0 hyg)) dX9_bestWagesByTable_25 kc_X3_bestOfTable kV_X9_210 hR.co rfl rfl rfl rfl (Nat.le_of_ble_eq_true rfl) (by decide) ⟨Nat.le_of_ble_eq_true rfl, Nat.le_of_ble_eq_true rfl⟩ m_nox (fun v9 M1 h9 => ?_)
  obtain ⟨rfl, hb1, f1⟩ := h9
  have hG1 := hG.u_bst hb1 f1 (by omega)
  have hfr1 := gFr.of (x := x) (w := w) f1 (by omega)
  exact m_iret hC dX9_bestWagesByTable_28 hr (Nat.le_of_ble_eq_true rfl) (Nat.le_of_ble_eq_true rfl) (g_pq.mk (G_if.t hyg) ⟨hG1, hfr1⟩)

set_option maxHeartbeats 4000000 in
set_option maxRecDepth 100000 in
theorem t_X9_checkGoblin_y {D : va_G} {aC : Nat → ClassId} {s0 : State} {l : Launch} (hF : m_F D aC s0) (hl : l.stackTraces = false) {x : Nat} {q : Int → Int} {g : h_T} {M : m_M} (hX : m_TH s0) (hO : gO x q M) (hR : hhR (x + 1) g M) (hB : h_B g) {y : Int} (hy : -2147483648 ≤ y ∧ y < 2147483648) (hyg : 0 ≤ y ∧ y < g 0 9) : m_Met D aC s0 l yX9_checkGoblin cX9_checkGoblin 2 none 6 (0) (0) [.ref x, VI y] M (fun v M' => v = none ∧ M' = M) m_nx := by
  refine m_entry (lv := [(0, .ref x), (1, VI y)]) (by decide +kernel) (Nat.le_of_ble_eq_true rfl) rfl hF hl ?_
  intro p e s m args below meth c hC hr hno hnm
  change m_C D aC s0 RX9 _ _ _ _ _ _ _ _ _ at hC
  refine m_aload_n hC 0 dX9_checkGoblin_0 rfl rfl ?_
  refine m_getf hC dX9_checkGoblin_1 kf_X9_12 hO rfl ?_
  refine m_getf hC dX9_checkGoblin_4 kf_X9_170 hR.ob rfl ?_
  refine m_iload_n hC 1 dX9_checkGoblin_7 rfl rfl ?_
  refine m_callV hC (t_X5_has hF hl hR hB hy) dX9_checkGoblin_8 kc_X5_has kV_X9_214 hR.go rfl rfl rfl rfl (Nat.le_of_ble_eq_true rfl) (by decide) (by decide) m_nox (fun v9 M1 h9 => ?_)
  obtain ⟨rfl, h9⟩ := h9
  replace h9 := h9.symm
  subst h9
  rw [if_pos hyg]
  refine m_if_ne (tgt := 24) hC dX9_checkGoblin_11 (by decide) (by first | omega | (simp [hs_at] <;> omega)) (fun c2 => ?_) (fun c2 => by omega)
  exact m_vret hC dX9_checkGoblin_24 hr (by decide) (by decide) (⟨rfl, rfl⟩)

set_option maxHeartbeats 4000000 in
set_option maxRecDepth 100000 in
theorem t_X9_bestWages_y {D : va_G} {aC : Nat → ClassId} {s0 : State} {l : Launch} (hF : m_F D aC s0) (hl : l.stackTraces = false) {x : Nat} {q : Int → Int} {g : h_T} {M : m_M} (hX : m_TH s0) (hO : gO x q M) (hR : hhR (x + 1) g M) (hB : h_B g) {y : Int} (hy : -2147483648 ≤ y ∧ y < 2147483648) (hyg : 0 ≤ y ∧ y < g 0 9) : m_Met D aC s0 l yX9_bestWages cX9_bestWages 2 (some .int) 8 (0) (0) [.ref x, VI y] M (fun v M' => v = some (VI (h_ks g y (g 0 11).toNat (S_energy g y))) ∧ M' = M) m_nx := by
  refine m_entry (lv := [(0, .ref x), (1, VI y)]) (by decide +kernel) (Nat.le_of_ble_eq_true rfl) rfl hF hl ?_
  intro p e s m args below meth c hC hr hno hnm
  change m_C D aC s0 RX9 _ _ _ _ _ _ _ _ _ at hC
  refine m_aload_n hC 0 dX9_bestWages_0 rfl rfl ?_
  refine m_iload_n hC 1 dX9_bestWages_1 rfl rfl ?_
  refine m_callV hC (t_X9_checkGoblin_y hF hl hX hO hR hB hy hyg) dX9_bestWages_2 kc_X9_checkGoblin kV_X9_177 hO rfl rfl rfl rfl (Nat.le_of_ble_eq_true rfl) (by decide) (by decide) m_nox (fun v9 M1 h9 => ?_)
  obtain ⟨rfl, h9⟩ := h9
  replace h9 := h9.symm
  subst h9
  refine m_aload_n hC 0 dX9_bestWages_5 rfl rfl ?_
  refine m_getf hC dX9_bestWages_6 kf_X9_12 hO rfl ?_
  refine m_getf hC dX9_bestWages_9 kf_X9_201 hR.ob rfl ?_
  refine m_iload_n hC 1 dX9_bestWages_12 rfl rfl ?_
  refine m_aload_n hC 0 dX9_bestWages_13 rfl rfl ?_
  refine m_getf hC dX9_bestWages_14 kf_X9_12 hO rfl ?_
  refine m_iload_n hC 1 dX9_bestWages_17 rfl rfl ?_
  refine m_callV hC (t_X7_energyOf hF hl hR hB hyg) dX9_bestWages_18 kc_X7_energyOf kV_X9_195 hR.ob rfl rfl rfl rfl (Nat.le_of_ble_eq_true rfl) (by decide) (by decide) m_nox (fun v9 M2 h9 => ?_)
  obtain ⟨rfl, h9⟩ := h9
  replace h9 := h9.symm
  subst h9
  refine m_callV hC (t_X3_bestOfAllSets hF hl hR hB hy (by have := S_energy_bd hB hyg; omega)) dX9_bestWages_21 kc_X3_bestOfAllSets kV_X9_205 hR.co rfl rfl rfl rfl (Nat.le_of_ble_eq_true rfl) (by decide) (by decide) m_nox (fun v9 M3 h9 => ?_)
  obtain ⟨rfl, h9⟩ := h9
  replace h9 := h9.symm
  subst h9
  exact m_iret hC dX9_bestWages_24 hr (by decide) (by decide) (⟨rfl, rfl⟩)

set_option maxHeartbeats 4000000 in
set_option maxRecDepth 100000 in
theorem t_X9_bestWagesByTable_y {D : va_G} {aC : Nat → ClassId} {s0 : State} {l : Launch} (hF : m_F D aC s0) (hl : l.stackTraces = false) {x w : Nat} {g sg : h_T} {L : Nat → h_T} {q : Int → Int} {tx ot : List Int} {M : m_M} {K : Int} {fo : Nat → Nat} (hX : m_TH s0) (hG : ghP s0.heap.size fo x w g sg L q tx ot M) (hB : h_BK K g) (hK : K ≤ 80000000) (hc : 0 ≤ q 0 ∧ q 0 ≤ 8) {y : Int} (hy : -2147483648 ≤ y ∧ y < 2147483648) (hyg : 0 ≤ y ∧ y < g 0 9) : m_Met D aC s0 l yX9_bestWagesByTable cX9_bestWagesByTable 2 (some .int) 8 (0) (0) [.ref x, VI y] M (fun v M' => v = some (VI (h_ks g y (g 0 11).toNat (S_energy g y))) ∧ ghP s0.heap.size fo x w g sg L q tx ot M' ∧ gFr x w M M') m_nx := by
  refine m_entry (lv := [(0, .ref x), (1, VI y)]) (by decide +kernel) (Nat.le_of_ble_eq_true rfl) rfl hF hl ?_
  intro p e s m args below meth c hC hr hno hnm
  change m_C D aC s0 RX9 _ _ _ _ _ _ _ _ _ at hC
  have hG9 := hG
  obtain ⟨a1, hO, hR, ⟨f9, hFo⟩, a5, ⟨L9, hH, hL⟩, a7, a8⟩ := hG9
  have hx := a1.2.2
  have h8 := hB.n8.2
  have h9 := hB.n9.2
  have h11 := hB.n11.2
  have hB0 := hB.toB (by omega)
  obtain ⟨p9, hQ⟩ := id hH
  obtain ⟨bf, hBf⟩ := a7
  refine m_aload_n hC 0 dX9_bestWagesByTable_0 rfl rfl ?_
  refine m_iload_n hC 1 dX9_bestWagesByTable_1 rfl rfl ?_
  refine m_callV hC (t_X9_checkGoblin_y hF hl hX hO hR hB0 hy hyg) dX9_bestWagesByTable_2 kc_X9_checkGoblin kV_X9_177 hO rfl rfl rfl rfl (Nat.le_of_ble_eq_true rfl) (by decide) (by decide) m_nox (fun v9 M1 h9 => ?_)
  obtain ⟨rfl, h9⟩ := h9
  replace h9 := h9.symm
  subst h9
  refine m_aload_n hC 0 dX9_bestWagesByTable_5 rfl rfl ?_
  refine m_getf hC dX9_bestWagesByTable_6 kf_X9_12 hO rfl ?_
  refine m_getf hC dX9_bestWagesByTable_9 kf_X9_201 hR.ob rfl ?_
  refine m_iload_n hC 1 dX9_bestWagesByTable_12 rfl rfl ?_
  refine m_aload_n hC 0 dX9_bestWagesByTable_13 rfl rfl ?_
  refine m_getf hC dX9_bestWagesByTable_14 kf_X9_12 hO rfl ?_
  refine m_iload_n hC 1 dX9_bestWagesByTable_17 rfl rfl ?_
  refine m_callV hC (t_X7_energyOf hF hl hR hB0 hyg) dX9_bestWagesByTable_18 kc_X7_energyOf kV_X9_195 hR.ob rfl rfl rfl rfl (Nat.le_of_ble_eq_true rfl) (by decide) (by decide) m_nox (fun v9 M2 h9 => ?_)
  obtain ⟨rfl, h9⟩ := h9
  replace h9 := h9.symm
  subst h9
  refine m_aload_n hC 0 dX9_bestWagesByTable_21 rfl rfl ?_
  refine m_getf hC dX9_bestWagesByTable_22 kf_X9_43 hO rfl ?_
  refine m_callV hC (t_X3_bestOfTable hF hl hR hB0 hBf (by omega) (by omega) hy (S_energy_bd hB0 hyg)) dX9_bestWagesByTable_25 kc_X3_bestOfTable kV_X9_210 hR.co rfl rfl rfl rfl (Nat.le_of_ble_eq_true rfl) (by decide) (by decide) m_nox (fun v9 M1 h9 => ?_)
  obtain ⟨rfl, hb1, f1⟩ := h9
  have hG1 := hG.u_bst hb1 f1 (by omega)
  have hfr1 := gFr.of (x := x) (w := w) f1 (by omega)
  exact m_iret hC dX9_bestWagesByTable_28 hr (by decide) (by decide) (⟨rfl, hG1, hfr1⟩)

set_option maxHeartbeats 4000000 in
set_option maxRecDepth 100000 in
theorem t_X9_allCrumbs_y {D : va_G} {aC : Nat → ClassId} {s0 : State} {l : Launch} (hF : m_F D aC s0) (hl : l.stackTraces = false) {x : Nat} {q : Int → Int} {g : h_T} {M : m_M} (hX : m_TH s0) (hO : gO x q M) (hR : hhR (x + 1) g M) (hB : h_B g) : m_Met D aC s0 l yX9_allCrumbs cX9_allCrumbs 1 (some .int) 5 (0) (0) [.ref x] M (fun v M' => v = some (VI (g 0 1 + S_purses g)) ∧ M' = M) m_nx := by
  refine m_entry (lv := [(0, .ref x)]) (by decide +kernel) (Nat.le_of_ble_eq_true rfl) rfl hF hl ?_
  intro p e s m args below meth c hC hr hno hnm
  change m_C D aC s0 RX9 _ _ _ _ _ _ _ _ _ at hC
  refine m_aload_n hC 0 dX9_allCrumbs_0 rfl rfl ?_
  refine m_getf hC dX9_allCrumbs_1 kf_X9_12 hO rfl ?_
  refine m_getf hC dX9_allCrumbs_4 kf_X9_253 hR.ob rfl ?_
  refine m_aload_n hC 0 dX9_allCrumbs_7 rfl rfl ?_
  refine m_getf hC dX9_allCrumbs_8 kf_X9_12 hO rfl ?_
  refine m_getf hC dX9_allCrumbs_11 kf_X9_170 hR.ob rfl ?_
  refine m_callV hC (t_X5_crumbsInPurses hF hl hR hB) dX9_allCrumbs_14 kc_X5_crumbsInPurses kV_X9_261 hR.go rfl rfl rfl rfl (Nat.le_of_ble_eq_true rfl) (by decide) (by decide) m_nox (fun v9 M1 h9 => ?_)
  obtain ⟨rfl, h9⟩ := h9
  replace h9 := h9.symm
  subst h9
  refine m_iadd hC dX9_allCrumbs_17 ?_
  exact m_iret hC dX9_allCrumbs_18 hr (by decide) (by decide) (⟨rfl, rfl⟩)

set_option maxHeartbeats 4000000 in
set_option maxRecDepth 100000 in
theorem t_X9_allCrumbsByAccounts_y {D : va_G} {aC : Nat → ClassId} {s0 : State} {l : Launch} (hF : m_F D aC s0) (hl : l.stackTraces = false) {x : Nat} {q : Int → Int} {g : h_T} {M : m_M} (hX : m_TH s0) (hO : gO x q M) (hR : hhR (x + 1) g M) (hB : h_B g) : m_Met D aC s0 l yX9_allCrumbsByAccounts cX9_allCrumbsByAccounts 1 (some .int) 5 (0) (0) [.ref x] M (fun v M' => v = some (VI (100 + g 0 2 - g 0 3)) ∧ M' = M) m_nx := by
  refine m_entry (lv := [(0, .ref x)]) (by decide +kernel) (Nat.le_of_ble_eq_true rfl) rfl hF hl ?_
  intro p e s m args below meth c hC hr hno hnm
  change m_C D aC s0 RX9 _ _ _ _ _ _ _ _ _ at hC
  refine m_bipush hC dX9_allCrumbsByAccounts_0 (by decide) ?_
  refine m_aload_n hC 0 dX9_allCrumbsByAccounts_2 rfl rfl ?_
  refine m_getf hC dX9_allCrumbsByAccounts_3 kf_X9_12 hO rfl ?_
  refine m_getf hC dX9_allCrumbsByAccounts_6 kf_X9_265 hR.ob rfl ?_
  refine m_iadd hC dX9_allCrumbsByAccounts_9 ?_
  refine m_aload_n hC 0 dX9_allCrumbsByAccounts_10 rfl rfl ?_
  refine m_getf hC dX9_allCrumbsByAccounts_11 kf_X9_12 hO rfl ?_
  refine m_getf hC dX9_allCrumbsByAccounts_14 kf_X9_268 hR.ob rfl ?_
  refine m_isub hC dX9_allCrumbsByAccounts_17 ?_
  exact m_iret hC dX9_allCrumbsByAccounts_18 hr (by decide) (by decide) (⟨rfl, rfl⟩)

theorem S_purses_bd {g : h_T} (h : h_B g) : 0 ≤ S_purses g ∧ S_purses g ≤ 500000000 := by
  have h9 := h.n9
  have := h_sum_bd (f := fun j => g 5 j) (B := 100000000) (n := g 0 9) (by omega) (fun j hj => by have := h.go hj; omega)
  unfold S_purses
  omega

set_option maxHeartbeats 4000000 in
set_option maxRecDepth 100000 in
theorem t_X9_isConsistent {D : va_G} {aC : Nat → ClassId} {s0 : State} {l : Launch} (hF : m_F D aC s0) (hl : l.stackTraces = false) {x w : Nat} {g sg : h_T} {L : Nat → h_T} {q : Int → Int} {tx ot : List Int} {M : m_M} {K : Int} {fo : Nat → Nat} (hX : m_TH s0) (hG : ghP s0.heap.size fo x w g sg L q tx ot M) (hI : h_I K g) (hK : K ≤ 80000000) (hc : 0 ≤ q 0 ∧ q 0 ≤ 8) : m_Met D aC s0 l yX9_isConsistent cX9_isConsistent 2 (some .boolean) 12 (470) (940) [.ref x] M (g_pq ((0 : Int), 1) (fun M' => ghP s0.heap.size fo x w g sg L q tx ot M' ∧ gFr x w M M')) m_nx := by
  refine m_entry (lv := [(0, .ref x)]) (by decide +kernel) (Nat.le_of_ble_eq_true rfl) rfl hF hl ?_
  intro p e s m args below meth c hC hr hno hnm
  change m_C D aC s0 RX9 _ _ _ _ _ _ _ _ _ at hC
  obtain ⟨a1, hO, hR, -⟩ := id hG
  have hB := hI.1
  have hB0 := hB.toB (by omega)
  have hx := a1.2.2
  have n9 := hB.n9
  have n11 := hB.n11
  have hac := hI.2.1
  have hpb := S_purses_bd hB0
  have s1 := hB.s 1 (by omega)
  have s2 := hB.s 2 (by omega)
  have s3 := hB.s 3 (by omega)
  unfold h_acc at hac
  refine m_iconst hC dX9_isConsistent_0 ?_
  refine m_istore_n hC dX9_isConsistent_1 rfl (by decide) rfl ?_
  have LL : ∀ (n9 : Nat) (i : Int) (M1 : m_M), g 0 9 - i < (n9 : Int) → 0 ≤ i → i ≤ g 0 9 → ghP s0.heap.size fo x w g sg L q tx ot M1 → gFr x w M M1 → m_W D aC s0 2 p l e (m_R 12 (470) (940)) s m args below meth c (0) (0) (m_Q D aC s0 below (g_pq ((0 : Int), 1) (fun M' => ghP s0.heap.size fo x w g sg L q tx ot M' ∧ gFr x w M M')) m_nx args s (470) (940)) 2 [(1, VI i), (0, .ref x)] [] M1 := by
    intro n9
    induction n9 with
    | zero =>
      intro i M1 hn h0 h1 hG1 hf1
      omega
    | succ n9 ih =>
      intro i M1 hn h0 h1 hG1 hf1
      refine m_iload_n hC 0 dX9_isConsistent_2 rfl rfl ?_
      refine m_aload_n hC 1 dX9_isConsistent_3 rfl rfl ?_
      refine m_getf hC dX9_isConsistent_4 kf_X9_12 hG1.2.1 rfl ?_
      refine m_getf hC dX9_isConsistent_7 kf_X9_170 hG1.2.2.1.ob rfl ?_
      refine m_getf hC dX9_isConsistent_10 kf_X9_174 hG1.2.2.1.go rfl ?_
      refine m_icmp_ge (tgt := 37) hC dX9_isConsistent_13 (by decide) (by first | omega | (simp [hs_at] <;> omega)) (fun c1 => ?_) (fun c1 => ?_)
      · refine m_aload_n hC 1 dX9_isConsistent_37 rfl rfl ?_
        refine m_callV hC (t_X9_allCrumbs_y hF hl hX hG1.2.1 hG1.2.2.1 hB0) dX9_isConsistent_38 kc_X9_allCrumbs kV_X9_296 hG1.2.1 rfl rfl rfl rfl (Nat.le_of_ble_eq_true rfl) (by decide) ⟨Nat.le_of_ble_eq_true rfl, Nat.le_of_ble_eq_true rfl⟩ m_nox (fun v9 M9 h9 => ?_)
        obtain ⟨rfl, h9⟩ := h9
        replace h9 := h9.symm
        subst h9
        refine m_aload_n hC 1 dX9_isConsistent_41 rfl rfl ?_
        refine m_callV hC (t_X9_allCrumbsByAccounts_y hF hl hX hG1.2.1 hG1.2.2.1 hB0) dX9_isConsistent_42 kc_X9_allCrumbsByAccounts kV_X9_299 hG1.2.1 rfl rfl rfl rfl (Nat.le_of_ble_eq_true rfl) (by decide) ⟨Nat.le_of_ble_eq_true rfl, Nat.le_of_ble_eq_true rfl⟩ m_nox (fun v9 M9 h9 => ?_)
        obtain ⟨rfl, h9⟩ := h9
        replace h9 := h9.symm
        subst h9
        refine m_icmp_ne (tgt := 88) hC dX9_isConsistent_45 (by decide) (by first | omega | (simp [hs_at] <;> omega)) (fun c2 => by omega) (fun c2 => ?_)
        refine m_aload_n hC 1 dX9_isConsistent_48 rfl rfl ?_
        refine m_getf hC dX9_isConsistent_49 kf_X9_12 hG1.2.1 rfl ?_
        refine m_getf hC dX9_isConsistent_52 kf_X9_253 hG1.2.2.1.ob rfl ?_
        refine m_if_lt (tgt := 88) hC dX9_isConsistent_55 (by decide) (by first | omega | (simp [hs_at] <;> omega)) (fun c3 => by omega) (fun c3 => ?_)
        refine m_aload_n hC 1 dX9_isConsistent_58 rfl rfl ?_
        refine m_getf hC dX9_isConsistent_59 kf_X9_12 hG1.2.1 rfl ?_
        refine m_getf hC dX9_isConsistent_62 kf_X9_170 hG1.2.2.1.ob rfl ?_
        refine m_callV hC (t_X5_anyCrumbsNegative hF hl hG1.2.2.1 hB0) dX9_isConsistent_65 kc_X5_anyCrumbsNegative kV_X9_302 hG1.2.2.1.go rfl rfl rfl rfl (Nat.le_of_ble_eq_true rfl) (by decide) ⟨Nat.le_of_ble_eq_true rfl, Nat.le_of_ble_eq_true rfl⟩ m_nox (fun v9 M9 h9 => ?_)
        obtain ⟨rfl, h9⟩ := h9
        replace h9 := h9.symm
        subst h9
        refine m_if_ne (tgt := 88) hC dX9_isConsistent_68 (by decide) (by first | omega | (simp [hs_at] <;> omega)) (fun c4 => by omega) (fun c4 => ?_)
        refine m_aload_n hC 1 dX9_isConsistent_71 rfl rfl ?_
        refine m_getf hC dX9_isConsistent_72 kf_X9_12 hG1.2.1 rfl ?_
        refine m_getf hC dX9_isConsistent_75 kf_X9_201 hG1.2.2.1.ob rfl ?_
        refine m_callV hC (t_X3_anyTwiceForARoom hF hl hG1.2.2.1 hB0 hI.2.2.1) dX9_isConsistent_78 kc_X3_anyTwiceForARoom kV_X9_306 hG1.2.2.1.co rfl rfl rfl rfl (Nat.le_of_ble_eq_true rfl) (by decide) ⟨Nat.le_of_ble_eq_true rfl, Nat.le_of_ble_eq_true rfl⟩ m_nox (fun v9 M9 h9 => ?_)
        obtain ⟨rfl, h9⟩ := h9
        replace h9 := h9.symm
        subst h9
        refine m_if_ne (tgt := 88) hC dX9_isConsistent_81 (by decide) (by first | omega | (simp [hs_at] <;> omega)) (fun c5 => by omega) (fun c5 => ?_)
        refine m_iconst hC dX9_isConsistent_84 ?_
        refine m_goto (tgt := 89) hC dX9_isConsistent_85 (by decide) ?_
        exact m_zret hC dX9_isConsistent_89 hr (by rfl) (Nat.le_of_ble_eq_true rfl) (Nat.le_of_ble_eq_true rfl) (g_pq.mk rfl ⟨hG1, hf1⟩)
      · refine m_aload_n hC 1 dX9_isConsistent_16 rfl rfl ?_
        refine m_iload_n hC 0 dX9_isConsistent_17 rfl rfl ?_
        refine m_callV hC (t_X9_bestWages_y hF hl hX hG1.2.1 hG1.2.2.1 hB0 (y := i) (by omega) (by omega)) dX9_isConsistent_18 kc_X9_bestWages kV_X9_290 hG1.2.1 rfl rfl rfl rfl (Nat.le_of_ble_eq_true rfl) (by decide) ⟨Nat.le_of_ble_eq_true rfl, Nat.le_of_ble_eq_true rfl⟩ m_nox (fun v9 M9 h9 => ?_)
        obtain ⟨rfl, h9⟩ := h9
        replace h9 := h9.symm
        subst h9
        refine m_aload_n hC 1 dX9_isConsistent_21 rfl rfl ?_
        refine m_iload_n hC 0 dX9_isConsistent_22 rfl rfl ?_
        refine m_callV hC (t_X9_bestWagesByTable_y hF hl hX hG1 hB hK hc (y := i) (by omega) (by omega)) dX9_isConsistent_23 kc_X9_bestWagesByTable kV_X9_293 hG1.2.1 rfl rfl rfl rfl (Nat.le_of_ble_eq_true rfl) (by decide) ⟨Nat.le_of_ble_eq_true rfl, Nat.le_of_ble_eq_true rfl⟩ m_nox (fun v9 M2 h9 => ?_)
        obtain ⟨rfl, hG2, hf2⟩ := h9
        have hks := h_ks_bd hB0 (x := i) (g 0 11).toNat (S_energy g i) (by omega)
        refine m_icmp_eq (tgt := 31) hC dX9_isConsistent_26 (by decide) (by first | omega | (simp [hs_at] <;> omega)) (fun c6 => ?_) (fun c6 => by omega)
        refine m_iinc hC 0 dX9_isConsistent_31 rfl (by decide) rfl ?_
        refine m_goto (tgt := 2) hC dX9_isConsistent_34 (by decide) ?_
        refine m_lvs [0, 1] rfl (ih (i + 1) M2 (by omega) (by omega) (by omega) hG2 (hf1.tr hf2))
  refine m_lvs [0, 1] rfl (LL ((g 0 9 - 0).toNat + 1) 0 M (by omega) (by omega) (by omega) hG gFr.rf)

