def m_qu (a : Nat) (w g : h_T) (r : Int × Int) (M : m_M) : Option Value → m_M → Prop := fun v M' => v = some (VI r.2) ∧ mmV a (hs w 0 14 r.1) g M' ∧ m_fr a 10 M M'
theorem m_qn {P : Prop} [Decidable P] {a : Nat} {w g : h_T} {r : Int × Int} {M M2 : m_M} (ch : b01 (b01 P ≠ 0) = 0) (h : ¬ P → r = (1, 0)) (hV : mmV a (hs w 0 14 (if b01 P = 0 then 1 else 0)) g M2) (hf : m_fr a 10 M M2) : m_qu a w g r M (some (VI 0)) M2 := by
  have hP : ¬ P := fun q => absurd (b01_eq.mp ch) (by rw [b01_t q]; decide)
  rw [if_pos (b01_f hP)] at hV
  rw [h hP]
  exact ⟨rfl, hV, hf⟩
theorem m_qy {P : Prop} [Decidable P] {a : Nat} {w g : h_T} {r : Int × Int} {M M2 : m_M} {z : Int} (ch : b01 (b01 P ≠ 0) ≠ 0) (h : P → r = (0, z)) (hV : mmV a (hs w 0 14 (if b01 P = 0 then 1 else 0)) g M2) (hf : m_fr a 10 M M2) : m_qu a w g r M (some (VI z)) M2 := by
  have hP : P := b01_ne.mp (b01_ne.mp ch)
  rw [if_neg (b01_ne.mp ch)] at hV
  rw [h hP]
  exact ⟨rfl, hV, hf⟩
theorem X_b1 {z : Int} (h : z = 0 ∨ z = 1) : b01 (z = 1) = z := by
  rcases h with rfl | rfl <;> rfl
theorem G_gob8 {g : h_T} (hB : h_B g) (x : Int) : (G_gob g 8 x).2 = 0 ∨ (G_gob g 8 x).2 = 1 := by
  unfold G_gob G_if
  split
  · rename_i h
    exact (hB.go h).2.2.2.2.2.2.2.2
  · exact Or.inl rfl
set_option maxHeartbeats 4000000 in
set_option maxRecDepth 100000 in
theorem t_X10_dust {D : va_G} {aC : Nat → ClassId} {s0 : State} {l : Launch} (hF : m_F D aC s0) (hl : l.stackTraces = false) {a : Nat} {w g : h_T} {M : m_M} (hV : mmV a w g M) (ha : s0.heap.size ≤ a) (hB : h_B g) {x : Int} (hx : -2147483648 ≤ x ∧ x < 2147483648) : m_Met D aC s0 l yX10_dust cX10_dust 2 (some .int) 4 (0) (0) [.ref a, VI x] M (m_qu a w g (G_dust g x) M) m_nx := by
  refine m_entry (lv := [(0, .ref a), (1, VI x)]) (by decide +kernel) (Nat.le_of_ble_eq_true rfl) rfl hF hl ?_
  intro p e s m args below meth c hC hr hno hnm
  change m_C D aC s0 RX10 _ _ _ _ _ _ _ _ _ at hC
  have hn8 := hB.n8
  have hn9 := hB.n9
  have hn11 := hB.n11
  refine m_aload_n hC 0 dX10_dust_0 rfl rfl ?_
  refine m_iload_n hC 1 dX10_dust_1 rfl rfl ?_
  refine m_callS hC (t_X10_isRoom hF hl (x := x) hx) dX10_dust_2 kc_X10_isRoom kS_X10_121 rfl rfl (Nat.le_of_ble_eq_true rfl) (by decide) (by decide) m_nox (fun v9 M1 h9 => ?_)
  obtain ⟨rfl, h9⟩ := h9
  replace h9 := h9.symm
  subst h9
  refine m_callV hC (t_X10_goes hF hl hV ha hB (z := b01 (0 ≤ x ∧ x < 6)) (by first | exact b01_r | omega)) dX10_dust_5 kc_X10_goes kV_X10_61 hV.ob rfl rfl rfl rfl (Nat.le_of_ble_eq_true rfl) (by decide) (by decide) m_nox (fun v9 M2 h9 => ?_)
  obtain ⟨rfl, R3, f4⟩ := h9
  refine m_if_eq (tgt := 23) hC dX10_dust_8 (by decide) b01_r (fun ch => ?_) (fun ch => ?_)
  · refine m_iconst hC dX10_dust_23 ?_
    exact m_iret hC dX10_dust_24 hr (by decide) (by decide) (m_qn ch (fun h => if_neg h) R3 f4)
  · have hv := b01_ne.mp (b01_ne.mp ch)
    refine m_aload_n hC 0 dX10_dust_11 rfl rfl ?_
    refine m_getf hC dX10_dust_12 kf_X10_9 R3.ob rfl ?_
    refine m_bipush hC dX10_dust_15 (by decide) ?_
    refine m_iload_n hC 1 dX10_dust_17 rfl rfl ?_
    refine m_iadd hC dX10_dust_18 ?_
    refine m_n1 hC (x) R3 dX10_dust_19 (by omega) (by omega) (by decide) ?_
    refine m_goto (tgt := 24) hC dX10_dust_20 (by decide) ?_
    exact m_iret hC dX10_dust_24 hr (by decide) (by decide) (m_qy ch (fun h => if_pos h) R3 f4)

set_option maxHeartbeats 4000000 in
set_option maxRecDepth 100000 in
theorem t_X10_power {D : va_G} {aC : Nat → ClassId} {s0 : State} {l : Launch} (hF : m_F D aC s0) (hl : l.stackTraces = false) {a : Nat} {w g : h_T} {M : m_M} (hV : mmV a w g M) (ha : s0.heap.size ≤ a) (hB : h_B g) {x : Int} (hx : -2147483648 ≤ x ∧ x < 2147483648) : m_Met D aC s0 l yX10_power cX10_power 2 (some .int) 4 (0) (0) [.ref a, VI x] M (m_qu a w g (G_bro g 2 x) M) m_nx := by
  refine m_entry (lv := [(0, .ref a), (1, VI x)]) (by decide +kernel) (Nat.le_of_ble_eq_true rfl) rfl hF hl ?_
  intro p e s m args below meth c hC hr hno hnm
  change m_C D aC s0 RX10 _ _ _ _ _ _ _ _ _ at hC
  have hn8 := hB.n8
  have hn9 := hB.n9
  have hn11 := hB.n11
  refine m_aload_n hC 0 dX10_power_0 rfl rfl ?_
  refine m_aload_n hC 0 dX10_power_1 rfl rfl ?_
  refine m_iload_n hC 1 dX10_power_2 rfl rfl ?_
  refine m_callV hC (t_X10_isBroom hF hl hV ha hB (x := x) hx) dX10_power_3 kc_X10_isBroom kV_X10_73 hV.ob rfl rfl rfl rfl (Nat.le_of_ble_eq_true rfl) (by decide) (by decide) m_nox (fun v9 M1 h9 => ?_)
  obtain ⟨rfl, h9⟩ := h9
  replace h9 := h9.symm
  subst h9
  refine m_callV hC (t_X10_goes hF hl hV ha hB (z := b01 (0 ≤ x ∧ x < g 0 8)) (by first | exact b01_r | omega)) dX10_power_6 kc_X10_goes kV_X10_61 hV.ob rfl rfl rfl rfl (Nat.le_of_ble_eq_true rfl) (by decide) (by decide) m_nox (fun v9 M2 h9 => ?_)
  obtain ⟨rfl, R3, f4⟩ := h9
  refine m_if_eq (tgt := 21) hC dX10_power_9 (by decide) b01_r (fun ch => ?_) (fun ch => ?_)
  · refine m_iconst hC dX10_power_21 ?_
    exact m_iret hC dX10_power_22 hr (by decide) (by decide) (m_qn ch (fun h => if_neg h) R3 f4)
  · have hv := b01_ne.mp (b01_ne.mp ch)
    refine m_aload_n hC 0 dX10_power_12 rfl rfl ?_
    refine m_iload_n hC 1 dX10_power_13 rfl rfl ?_
    refine m_iconst hC dX10_power_14 ?_
    refine m_callV hC (t_X10_ofBroom hF hl R3 ha hB (x := x) (y := 0) 2 rfl (by decide) hv) dX10_power_15 kc_X10_ofBroom kV_X10_87 R3.ob rfl rfl rfl rfl (Nat.le_of_ble_eq_true rfl) (by decide) (by decide) m_nox (fun v9 M5 h9 => ?_)
    obtain ⟨rfl, h9⟩ := h9
    replace h9 := h9.symm
    subst h9
    refine m_goto (tgt := 22) hC dX10_power_18 (by decide) ?_
    exact m_iret hC dX10_power_22 hr (by decide) (by decide) (m_qy ch (fun h => if_pos h) R3 f4)

set_option maxHeartbeats 4000000 in
set_option maxRecDepth 100000 in
theorem t_X10_isBanished {D : va_G} {aC : Nat → ClassId} {s0 : State} {l : Launch} (hF : m_F D aC s0) (hl : l.stackTraces = false) {a : Nat} {w g : h_T} {M : m_M} (hV : mmV a w g M) (ha : s0.heap.size ≤ a) (hB : h_B g) {x : Int} (hx : -2147483648 ≤ x ∧ x < 2147483648) : m_Met D aC s0 l yX10_isBanished cX10_isBanished 2 (some .boolean) 4 (0) (0) [.ref a, VI x] M (m_qu a w g (G_bro g 3 x) M) m_nx := by
  refine m_entry (lv := [(0, .ref a), (1, VI x)]) (by decide +kernel) (Nat.le_of_ble_eq_true rfl) rfl hF hl ?_
  intro p e s m args below meth c hC hr hno hnm
  change m_C D aC s0 RX10 _ _ _ _ _ _ _ _ _ at hC
  have hn8 := hB.n8
  have hn9 := hB.n9
  have hn11 := hB.n11
  refine m_aload_n hC 0 dX10_isBanished_0 rfl rfl ?_
  refine m_aload_n hC 0 dX10_isBanished_1 rfl rfl ?_
  refine m_iload_n hC 1 dX10_isBanished_2 rfl rfl ?_
  refine m_callV hC (t_X10_isBroom hF hl hV ha hB (x := x) hx) dX10_isBanished_3 kc_X10_isBroom kV_X10_73 hV.ob rfl rfl rfl rfl (Nat.le_of_ble_eq_true rfl) (by decide) (by decide) m_nox (fun v9 M1 h9 => ?_)
  obtain ⟨rfl, h9⟩ := h9
  replace h9 := h9.symm
  subst h9
  refine m_callV hC (t_X10_goes hF hl hV ha hB (z := b01 (0 ≤ x ∧ x < g 0 8)) (by first | exact b01_r | omega)) dX10_isBanished_6 kc_X10_goes kV_X10_61 hV.ob rfl rfl rfl rfl (Nat.le_of_ble_eq_true rfl) (by decide) (by decide) m_nox (fun v9 M2 h9 => ?_)
  obtain ⟨rfl, R3, f4⟩ := h9
  refine m_if_eq (tgt := 26) hC dX10_isBanished_9 (by decide) b01_r (fun ch => ?_) (fun ch => ?_)
  · refine m_iconst hC dX10_isBanished_26 ?_
    exact m_zret hC dX10_isBanished_27 hr (by first | rfl | exact b01_nz) (by decide) (by decide) (m_qn ch (fun h => if_neg h) R3 f4)
  · have hv := b01_ne.mp (b01_ne.mp ch)
    have hbr := hB.br hv
    refine m_aload_n hC 0 dX10_isBanished_12 rfl rfl ?_
    refine m_iload_n hC 1 dX10_isBanished_13 rfl rfl ?_
    refine m_iconst hC dX10_isBanished_14 ?_
    refine m_callV hC (t_X10_ofBroom hF hl R3 ha hB (x := x) (y := 1) 3 rfl (by decide) hv) dX10_isBanished_15 kc_X10_ofBroom kV_X10_87 R3.ob rfl rfl rfl rfl (Nat.le_of_ble_eq_true rfl) (by decide) (by decide) m_nox (fun v9 M5 h9 => ?_)
    obtain ⟨rfl, h9⟩ := h9
    replace h9 := h9.symm
    subst h9
    refine m_iconst hC dX10_isBanished_18 ?_
    refine m_dia_icmp_ne hC dX10_isBanished_19 dX10_isBanished_22 dX10_isBanished_23 dX10_isBanished_26 rfl rfl (by first | omega | (simp [hs_at] <;> omega)) ?_
    exact m_zret hC dX10_isBanished_27 hr (by first | rfl | exact b01_nz) (by decide) (by decide) (m_qy ch (fun h => (if_pos h).trans (by rw [X_b1 (by omega)])) R3 f4)

set_option maxHeartbeats 4000000 in
set_option maxRecDepth 100000 in
theorem t_X10_asks {D : va_G} {aC : Nat → ClassId} {s0 : State} {l : Launch} (hF : m_F D aC s0) (hl : l.stackTraces = false) {a : Nat} {w g : h_T} {M : m_M} (hV : mmV a w g M) (ha : s0.heap.size ≤ a) (hB : h_B g) {x : Int} {y : Int} (hx : -2147483648 ≤ x ∧ x < 2147483648) (c0 : Nat) (hc : (c0 : Int) = 4 + y) (hk : 4 ≤ c0 ∧ c0 ≤ 8) : m_Met D aC s0 l yX10_asks cX10_asks 3 (some .int) 4 (0) (0) [.ref a, VI x, VI y] M (m_qu a w g (G_gob g c0 x) M) m_nx := by
  refine m_entry (lv := [(0, .ref a), (1, VI x), (2, VI y)]) (by decide +kernel) (Nat.le_of_ble_eq_true rfl) rfl hF hl ?_
  intro p e s m args below meth c hC hr hno hnm
  change m_C D aC s0 RX10 _ _ _ _ _ _ _ _ _ at hC
  refine m_aload_n hC 0 dX10_asks_0 rfl rfl ?_
  refine m_aload_n hC 0 dX10_asks_1 rfl rfl ?_
  refine m_iload_n hC 1 dX10_asks_2 rfl rfl ?_
  refine m_callV hC (t_X10_isGoblin hF hl hV ha hB (x := x) hx) dX10_asks_3 kc_X10_isGoblin kV_X10_77 hV.ob rfl rfl rfl rfl (Nat.le_of_ble_eq_true rfl) (by decide) (by decide) m_nox (fun v9 M1 h9 => ?_)
  obtain ⟨rfl, h9⟩ := h9
  replace h9 := h9.symm
  subst h9
  refine m_callV hC (t_X10_goes hF hl hV ha hB (z := b01 (0 ≤ x ∧ x < g 0 9)) (by first | exact b01_r | omega)) dX10_asks_6 kc_X10_goes kV_X10_61 hV.ob rfl rfl rfl rfl (Nat.le_of_ble_eq_true rfl) (by decide) (by decide) m_nox (fun v9 M2 h9 => ?_)
  obtain ⟨rfl, R3, f4⟩ := h9
  refine m_if_eq (tgt := 21) hC dX10_asks_9 (by decide) b01_r (fun ch => ?_) (fun ch => ?_)
  · refine m_iconst hC dX10_asks_21 ?_
    exact m_iret hC dX10_asks_22 hr (by decide) (by decide) (m_qn ch (fun h => if_neg h) R3 f4)
  · have hv := b01_ne.mp (b01_ne.mp ch)
    refine m_aload_n hC 0 dX10_asks_12 rfl rfl ?_
    refine m_iload_n hC 1 dX10_asks_13 rfl rfl ?_
    refine m_iload_n hC 2 dX10_asks_14 rfl rfl ?_
    refine m_callV hC (t_X10_of hF hl R3 ha hB (x := x) (y := y) c0 hc hk hv) dX10_asks_15 kc_X10_of kV_X10_95 R3.ob rfl rfl rfl rfl (Nat.le_of_ble_eq_true rfl) (by decide) (by decide) m_nox (fun v9 M5 h9 => ?_)
    obtain ⟨rfl, h9⟩ := h9
    replace h9 := h9.symm
    subst h9
    refine m_goto (tgt := 22) hC dX10_asks_18 (by decide) ?_
    exact m_iret hC dX10_asks_22 hr (by decide) (by decide) (m_qy ch (fun h => if_pos h) R3 f4)

set_option maxHeartbeats 4000000 in
set_option maxRecDepth 100000 in
theorem t_X10_strength {D : va_G} {aC : Nat → ClassId} {s0 : State} {l : Launch} (hF : m_F D aC s0) (hl : l.stackTraces = false) {a : Nat} {w g : h_T} {M : m_M} (hV : mmV a w g M) (ha : s0.heap.size ≤ a) (hB : h_B g) {x : Int} (hx : -2147483648 ≤ x ∧ x < 2147483648) : m_Met D aC s0 l yX10_strength cX10_strength 2 (some .int) 5 (0) (0) [.ref a, VI x] M (m_qu a w g (G_gob g 4 x) M) m_nx := by
  refine m_entry (lv := [(0, .ref a), (1, VI x)]) (by decide +kernel) (Nat.le_of_ble_eq_true rfl) rfl hF hl ?_
  intro p e s m args below meth c hC hr hno hnm
  change m_C D aC s0 RX10 _ _ _ _ _ _ _ _ _ at hC
  refine m_aload_n hC 0 dX10_strength_0 rfl rfl ?_
  refine m_iload_n hC 1 dX10_strength_1 rfl rfl ?_
  refine m_iconst hC dX10_strength_2 ?_
  refine m_callV hC (t_X10_asks hF hl hV ha hB (x := x) (y := 0) hx 4 rfl (by decide)) dX10_strength_3 kc_X10_asks kV_X10_175 hV.ob rfl rfl rfl rfl (Nat.le_of_ble_eq_true rfl) (by decide) (by decide) m_nox (fun v9 M1 h9 => ?_)
  obtain ⟨rfl, R2, f3⟩ := h9
  exact m_iret hC dX10_strength_6 hr (by decide) (by decide) (⟨rfl, R2, f3⟩)

set_option maxHeartbeats 4000000 in
set_option maxRecDepth 100000 in
theorem t_X10_purse {D : va_G} {aC : Nat → ClassId} {s0 : State} {l : Launch} (hF : m_F D aC s0) (hl : l.stackTraces = false) {a : Nat} {w g : h_T} {M : m_M} (hV : mmV a w g M) (ha : s0.heap.size ≤ a) (hB : h_B g) {x : Int} (hx : -2147483648 ≤ x ∧ x < 2147483648) : m_Met D aC s0 l yX10_purse cX10_purse 2 (some .int) 5 (0) (0) [.ref a, VI x] M (m_qu a w g (G_gob g 5 x) M) m_nx := by
  refine m_entry (lv := [(0, .ref a), (1, VI x)]) (by decide +kernel) (Nat.le_of_ble_eq_true rfl) rfl hF hl ?_
  intro p e s m args below meth c hC hr hno hnm
  change m_C D aC s0 RX10 _ _ _ _ _ _ _ _ _ at hC
  refine m_aload_n hC 0 dX10_purse_0 rfl rfl ?_
  refine m_iload_n hC 1 dX10_purse_1 rfl rfl ?_
  refine m_iconst hC dX10_purse_2 ?_
  refine m_callV hC (t_X10_asks hF hl hV ha hB (x := x) (y := 1) hx 5 rfl (by decide)) dX10_purse_3 kc_X10_asks kV_X10_175 hV.ob rfl rfl rfl rfl (Nat.le_of_ble_eq_true rfl) (by decide) (by decide) m_nox (fun v9 M1 h9 => ?_)
  obtain ⟨rfl, R2, f3⟩ := h9
  exact m_iret hC dX10_purse_6 hr (by decide) (by decide) (⟨rfl, R2, f3⟩)

set_option maxHeartbeats 4000000 in
set_option maxRecDepth 100000 in
theorem t_X10_debt {D : va_G} {aC : Nat → ClassId} {s0 : State} {l : Launch} (hF : m_F D aC s0) (hl : l.stackTraces = false) {a : Nat} {w g : h_T} {M : m_M} (hV : mmV a w g M) (ha : s0.heap.size ≤ a) (hB : h_B g) {x : Int} (hx : -2147483648 ≤ x ∧ x < 2147483648) : m_Met D aC s0 l yX10_debt cX10_debt 2 (some .int) 5 (0) (0) [.ref a, VI x] M (m_qu a w g (G_gob g 6 x) M) m_nx := by
  refine m_entry (lv := [(0, .ref a), (1, VI x)]) (by decide +kernel) (Nat.le_of_ble_eq_true rfl) rfl hF hl ?_
  intro p e s m args below meth c hC hr hno hnm
  change m_C D aC s0 RX10 _ _ _ _ _ _ _ _ _ at hC
  refine m_aload_n hC 0 dX10_debt_0 rfl rfl ?_
  refine m_iload_n hC 1 dX10_debt_1 rfl rfl ?_
  refine m_iconst hC dX10_debt_2 ?_
  refine m_callV hC (t_X10_asks hF hl hV ha hB (x := x) (y := 2) hx 6 rfl (by decide)) dX10_debt_3 kc_X10_asks kV_X10_175 hV.ob rfl rfl rfl rfl (Nat.le_of_ble_eq_true rfl) (by decide) (by decide) m_nox (fun v9 M1 h9 => ?_)
  obtain ⟨rfl, R2, f3⟩ := h9
  exact m_iret hC dX10_debt_6 hr (by decide) (by decide) (⟨rfl, R2, f3⟩)

set_option maxHeartbeats 4000000 in
set_option maxRecDepth 100000 in
theorem t_X10_skippedNights {D : va_G} {aC : Nat → ClassId} {s0 : State} {l : Launch} (hF : m_F D aC s0) (hl : l.stackTraces = false) {a : Nat} {w g : h_T} {M : m_M} (hV : mmV a w g M) (ha : s0.heap.size ≤ a) (hB : h_B g) {x : Int} (hx : -2147483648 ≤ x ∧ x < 2147483648) : m_Met D aC s0 l yX10_skippedNights cX10_skippedNights 2 (some .int) 5 (0) (0) [.ref a, VI x] M (m_qu a w g (G_gob g 7 x) M) m_nx := by
  refine m_entry (lv := [(0, .ref a), (1, VI x)]) (by decide +kernel) (Nat.le_of_ble_eq_true rfl) rfl hF hl ?_
  intro p e s m args below meth c hC hr hno hnm
  change m_C D aC s0 RX10 _ _ _ _ _ _ _ _ _ at hC
  refine m_aload_n hC 0 dX10_skippedNights_0 rfl rfl ?_
  refine m_iload_n hC 1 dX10_skippedNights_1 rfl rfl ?_
  refine m_iconst hC dX10_skippedNights_2 ?_
  refine m_callV hC (t_X10_asks hF hl hV ha hB (x := x) (y := 3) hx 7 rfl (by decide)) dX10_skippedNights_3 kc_X10_asks kV_X10_175 hV.ob rfl rfl rfl rfl (Nat.le_of_ble_eq_true rfl) (by decide) (by decide) m_nox (fun v9 M1 h9 => ?_)
  obtain ⟨rfl, R2, f3⟩ := h9
  exact m_iret hC dX10_skippedNights_6 hr (by decide) (by decide) (⟨rfl, R2, f3⟩)

set_option maxHeartbeats 4000000 in
set_option maxRecDepth 100000 in
theorem t_X10_isResting {D : va_G} {aC : Nat → ClassId} {s0 : State} {l : Launch} (hF : m_F D aC s0) (hl : l.stackTraces = false) {a : Nat} {w g : h_T} {M : m_M} (hV : mmV a w g M) (ha : s0.heap.size ≤ a) (hB : h_B g) {x : Int} (hx : -2147483648 ≤ x ∧ x < 2147483648) : m_Met D aC s0 l yX10_isResting cX10_isResting 2 (some .boolean) 5 (0) (0) [.ref a, VI x] M (m_qu a w g (G_gob g 8 x) M) m_nx := by
  refine m_entry (lv := [(0, .ref a), (1, VI x)]) (by decide +kernel) (Nat.le_of_ble_eq_true rfl) rfl hF hl ?_
  intro p e s m args below meth c hC hr hno hnm
  change m_C D aC s0 RX10 _ _ _ _ _ _ _ _ _ at hC
  have h8 := G_gob8 hB x
  refine m_aload_n hC 0 dX10_isResting_0 rfl rfl ?_
  refine m_iload_n hC 1 dX10_isResting_1 rfl rfl ?_
  refine m_iconst hC dX10_isResting_2 ?_
  refine m_callV hC (t_X10_asks hF hl hV ha hB (x := x) (y := 4) hx 8 rfl (by decide)) dX10_isResting_3 kc_X10_asks kV_X10_175 hV.ob rfl rfl rfl rfl (Nat.le_of_ble_eq_true rfl) (by decide) (by decide) m_nox (fun v9 M1 h9 => ?_)
  obtain ⟨rfl, R2, f3⟩ := h9
  refine m_iconst hC dX10_isResting_6 ?_
  refine m_dia_icmp_ne hC dX10_isResting_7 dX10_isResting_10 dX10_isResting_11 dX10_isResting_14 rfl rfl (by first | omega | (simp [hs_at] <;> omega)) ?_
  exact m_zret hC dX10_isResting_15 hr (by first | rfl | exact b01_nz) (by decide) (by decide) (⟨by rw [X_b1 (G_gob8 hB x)], R2, f3⟩)

set_option maxHeartbeats 4000000 in
set_option maxRecDepth 100000 in
theorem t_X10_energy {D : va_G} {aC : Nat → ClassId} {s0 : State} {l : Launch} (hF : m_F D aC s0) (hl : l.stackTraces = false) {a : Nat} {w g : h_T} {M : m_M} (hV : mmV a w g M) (ha : s0.heap.size ≤ a) (hB : h_B g) {x : Int} (hx : -2147483648 ≤ x ∧ x < 2147483648) : m_Met D aC s0 l yX10_energy cX10_energy 2 (some .int) 5 (0) (0) [.ref a, VI x] M (m_qu a w g (G_ene g x) M) m_nx := by
  refine m_entry (lv := [(0, .ref a), (1, VI x)]) (by decide +kernel) (Nat.le_of_ble_eq_true rfl) rfl hF hl ?_
  intro p e s m args below meth c hC hr hno hnm
  change m_C D aC s0 RX10 _ _ _ _ _ _ _ _ _ at hC
  have hn8 := hB.n8
  have hn9 := hB.n9
  have hn11 := hB.n11
  refine m_aload_n hC 0 dX10_energy_0 rfl rfl ?_
  refine m_aload_n hC 0 dX10_energy_1 rfl rfl ?_
  refine m_iload_n hC 1 dX10_energy_2 rfl rfl ?_
  refine m_callV hC (t_X10_isGoblin hF hl hV ha hB (x := x) hx) dX10_energy_3 kc_X10_isGoblin kV_X10_77 hV.ob rfl rfl rfl rfl (Nat.le_of_ble_eq_true rfl) (by decide) (by decide) m_nox (fun v9 M1 h9 => ?_)
  obtain ⟨rfl, h9⟩ := h9
  replace h9 := h9.symm
  subst h9
  refine m_callV hC (t_X10_goes hF hl hV ha hB (z := b01 (0 ≤ x ∧ x < g 0 9)) (by first | exact b01_r | omega)) dX10_energy_6 kc_X10_goes kV_X10_61 hV.ob rfl rfl rfl rfl (Nat.le_of_ble_eq_true rfl) (by decide) (by decide) m_nox (fun v9 M2 h9 => ?_)
  obtain ⟨rfl, R3, f4⟩ := h9
  refine m_if_eq (tgt := 20) hC dX10_energy_9 (by decide) b01_r (fun ch => ?_) (fun ch => ?_)
  · refine m_iconst hC dX10_energy_20 ?_
    exact m_iret hC dX10_energy_21 hr (by decide) (by decide) (m_qn ch (fun h => if_neg h) R3 f4)
  · have hv := b01_ne.mp (b01_ne.mp ch)
    refine m_aload_n hC 0 dX10_energy_12 rfl rfl ?_
    refine m_iload_n hC 1 dX10_energy_13 rfl rfl ?_
    refine m_callV hC (t_X10_energyOf hF hl R3 ha hB (x := x) hv) dX10_energy_14 kc_X10_energyOf kV_X10_154 R3.ob rfl rfl rfl rfl (Nat.le_of_ble_eq_true rfl) (by decide) (by decide) m_nox (fun v9 M5 h9 => ?_)
    obtain ⟨rfl, h9⟩ := h9
    replace h9 := h9.symm
    subst h9
    refine m_goto (tgt := 21) hC dX10_energy_17 (by decide) ?_
    exact m_iret hC dX10_energy_21 hr (by decide) (by decide) (m_qy ch (fun h => if_pos h) R3 f4)

set_option maxHeartbeats 4000000 in
set_option maxRecDepth 100000 in
theorem t_X10_contractAt {D : va_G} {aC : Nat → ClassId} {s0 : State} {l : Launch} (hF : m_F D aC s0) (hl : l.stackTraces = false) {a : Nat} {w g : h_T} {M : m_M} (hV : mmV a w g M) (ha : s0.heap.size ≤ a) (hB : h_B g) {x : Int} (hx : -2147483648 ≤ x ∧ x < 2147483648) : m_Met D aC s0 l yX10_contractAt cX10_contractAt 2 (some .int) 4 (0) (0) [.ref a, VI x] M (m_qu a w g (G_cat g x) M) m_nx := by
  refine m_entry (lv := [(0, .ref a), (1, VI x)]) (by decide +kernel) (Nat.le_of_ble_eq_true rfl) rfl hF hl ?_
  intro p e s m args below meth c hC hr hno hnm
  change m_C D aC s0 RX10 _ _ _ _ _ _ _ _ _ at hC
  have hn8 := hB.n8
  have hn9 := hB.n9
  have hn11 := hB.n11
  refine m_aload_n hC 0 dX10_contractAt_0 rfl rfl ?_
  refine m_iload_n hC 1 dX10_contractAt_1 rfl rfl ?_
  refine m_iconst hC dX10_contractAt_2 ?_
  refine m_aload_n hC 0 dX10_contractAt_3 rfl rfl ?_
  refine m_getf hC dX10_contractAt_4 kf_X10_9 hV.ob rfl ?_
  refine m_bipush hC dX10_contractAt_7 (by decide) ?_
  refine m_n0 hC hV dX10_contractAt_9 (by decide) ?_
  refine m_iconst hC dX10_contractAt_10 ?_
  refine m_isub hC dX10_contractAt_11 ?_
  refine m_callS hC (t_X10_isIn hF hl (z := x) (lo := 0) (hi := g 0 11 - 1) (by omega)) dX10_contractAt_12 kc_X10_isIn kS_X10_69 rfl rfl (Nat.le_of_ble_eq_true rfl) (by decide) (by decide) m_nox (fun v9 M1 h9 => ?_)
  obtain ⟨rfl, h9⟩ := h9
  replace h9 := h9.symm
  subst h9
  refine m_callV hC (t_X10_goes hF hl hV ha hB (z := b01 (0 ≤ x ∧ x ≤ g 0 11 - 1)) (by first | exact b01_r | omega)) dX10_contractAt_15 kc_X10_goes kV_X10_61 hV.ob rfl rfl rfl rfl (Nat.le_of_ble_eq_true rfl) (by decide) (by decide) m_nox (fun v9 M2 h9 => ?_)
  obtain ⟨rfl, R3, f4⟩ := h9
  refine m_if_eq (tgt := 30) hC dX10_contractAt_18 (by decide) b01_r (fun ch => ?_) (fun ch => ?_)
  · refine m_iconst hC dX10_contractAt_30 ?_
    exact m_iret hC dX10_contractAt_31 hr (by decide) (by decide) (m_qn ch (fun h => if_neg (by omega)) R3 f4)
  · have hv := b01_ne.mp (b01_ne.mp ch)
    refine m_aload_n hC 0 dX10_contractAt_21 rfl rfl ?_
    refine m_iload_n hC 1 dX10_contractAt_22 rfl rfl ?_
    refine m_iconst hC dX10_contractAt_23 ?_
    refine m_callV hC (t_X10_ofContract hF hl R3 ha hB (x := x) (y := 0) 9 rfl (by decide) (by omega)) dX10_contractAt_24 kc_X10_ofContract kV_X10_84 R3.ob rfl rfl rfl rfl (Nat.le_of_ble_eq_true rfl) (by decide) (by decide) m_nox (fun v9 M5 h9 => ?_)
    obtain ⟨rfl, h9⟩ := h9
    replace h9 := h9.symm
    subst h9
    refine m_goto (tgt := 31) hC dX10_contractAt_27 (by decide) ?_
    exact m_iret hC dX10_contractAt_31 hr (by decide) (by decide) (m_qy ch (fun h => if_pos (by omega)) R3 f4)

set_option maxHeartbeats 4000000 in
set_option maxRecDepth 100000 in
theorem t_X10_asksContract {D : va_G} {aC : Nat → ClassId} {s0 : State} {l : Launch} (hF : m_F D aC s0) (hl : l.stackTraces = false) {a : Nat} {w g : h_T} {M : m_M} (hV : mmV a w g M) (ha : s0.heap.size ≤ a) (hB : h_B g) {x : Int} {y : Int} (hx : -2147483648 ≤ x ∧ x < 2147483648) (hU : h_asc g) (c0 : Nat) (hc : (c0 : Int) = 9 + y) (hk : 9 ≤ c0 ∧ c0 ≤ 13) : m_Met D aC s0 l yX10_asksContract cX10_asksContract 4 (some .int) 4 (0) (0) [.ref a, VI x, VI y] M (m_qu a w g (G_con g c0 x) M) m_nx := by
  refine m_entry (lv := [(0, .ref a), (1, VI x), (2, VI y)]) (by decide +kernel) (Nat.le_of_ble_eq_true rfl) rfl hF hl ?_
  intro p e s m args below meth c hC hr hno hnm
  change m_C D aC s0 RX10 _ _ _ _ _ _ _ _ _ at hC
  have hn8 := hB.n8
  have hn9 := hB.n9
  have hn11 := hB.n11
  have hp := S_pos_rg (g := g) x hn11.1
  refine m_aload_n hC 0 dX10_asksContract_0 rfl rfl ?_
  refine m_iload_n hC 1 dX10_asksContract_1 rfl rfl ?_
  refine m_callV hC (t_X10_find hF hl hV ha hB (x := x) hx hU) dX10_asksContract_2 kc_X10_find kV_X10_132 hV.ob rfl rfl rfl rfl (Nat.le_of_ble_eq_true rfl) (by decide) (by decide) m_nox (fun v9 M1 h9 => ?_)
  obtain ⟨rfl, h9⟩ := h9
  replace h9 := h9.symm
  subst h9
  refine m_istore_n hC dX10_asksContract_5 rfl (by decide) rfl ?_
  refine m_aload_n hC 1 dX10_asksContract_6 rfl rfl ?_
  refine m_iload_n hC 0 dX10_asksContract_7 rfl rfl ?_
  refine m_iconst hC dX10_asksContract_8 ?_
  refine m_dia_icmp_eq hC dX10_asksContract_9 dX10_asksContract_12 dX10_asksContract_13 dX10_asksContract_16 rfl rfl (by first | omega | (simp [hs_at] <;> omega)) ?_
  refine m_callV hC (t_X10_goes hF hl hV ha hB (z := b01 (S_pos g x ≠ -1)) (by first | exact b01_r | omega)) dX10_asksContract_17 kc_X10_goes kV_X10_61 hV.ob rfl rfl rfl rfl (Nat.le_of_ble_eq_true rfl) (by decide) (by decide) m_nox (fun v9 M2 h9 => ?_)
  obtain ⟨rfl, R3, f4⟩ := h9
  refine m_if_eq (tgt := 32) hC dX10_asksContract_20 (by decide) b01_r (fun ch => ?_) (fun ch => ?_)
  · refine m_iconst hC dX10_asksContract_32 ?_
    exact m_iret hC dX10_asksContract_33 hr (by decide) (by decide) (m_qn ch (fun h => if_neg h) R3 f4)
  · have hv := b01_ne.mp (b01_ne.mp ch)
    refine m_aload_n hC 1 dX10_asksContract_23 rfl rfl ?_
    refine m_iload_n hC 0 dX10_asksContract_24 rfl rfl ?_
    refine m_iload_n hC 3 dX10_asksContract_25 rfl rfl ?_
    refine m_callV hC (t_X10_ofContract hF hl R3 ha hB (x := S_pos g x) (y := y) c0 hc hk (by omega)) dX10_asksContract_26 kc_X10_ofContract kV_X10_84 R3.ob rfl rfl rfl rfl (Nat.le_of_ble_eq_true rfl) (by decide) (by decide) m_nox (fun v9 M5 h9 => ?_)
    obtain ⟨rfl, h9⟩ := h9
    replace h9 := h9.symm
    subst h9
    refine m_goto (tgt := 33) hC dX10_asksContract_29 (by decide) ?_
    exact m_iret hC dX10_asksContract_33 hr (by decide) (by decide) (m_qy ch (fun h => if_pos h) R3 f4)

set_option maxHeartbeats 4000000 in
set_option maxRecDepth 100000 in
theorem t_X10_goblinOf {D : va_G} {aC : Nat → ClassId} {s0 : State} {l : Launch} (hF : m_F D aC s0) (hl : l.stackTraces = false) {a : Nat} {w g : h_T} {M : m_M} (hV : mmV a w g M) (ha : s0.heap.size ≤ a) (hB : h_B g) {x : Int} (hx : -2147483648 ≤ x ∧ x < 2147483648) (hU : h_asc g) : m_Met D aC s0 l yX10_goblinOf cX10_goblinOf 2 (some .int) 5 (0) (0) [.ref a, VI x] M (m_qu a w g (G_con g 10 x) M) m_nx := by
  refine m_entry (lv := [(0, .ref a), (1, VI x)]) (by decide +kernel) (Nat.le_of_ble_eq_true rfl) rfl hF hl ?_
  intro p e s m args below meth c hC hr hno hnm
  change m_C D aC s0 RX10 _ _ _ _ _ _ _ _ _ at hC
  refine m_aload_n hC 0 dX10_goblinOf_0 rfl rfl ?_
  refine m_iload_n hC 1 dX10_goblinOf_1 rfl rfl ?_
  refine m_iconst hC dX10_goblinOf_2 ?_
  refine m_callV hC (t_X10_asksContract hF hl hV ha hB (x := x) (y := 1) hx hU 10 rfl (by decide)) dX10_goblinOf_3 kc_X10_asksContract kV_X10_181 hV.ob rfl rfl rfl rfl (Nat.le_of_ble_eq_true rfl) (by decide) (by decide) m_nox (fun v9 M1 h9 => ?_)
  obtain ⟨rfl, R2, f3⟩ := h9
  exact m_iret hC dX10_goblinOf_6 hr (by decide) (by decide) (⟨rfl, R2, f3⟩)

set_option maxHeartbeats 4000000 in
set_option maxRecDepth 100000 in
theorem t_X10_roomOf {D : va_G} {aC : Nat → ClassId} {s0 : State} {l : Launch} (hF : m_F D aC s0) (hl : l.stackTraces = false) {a : Nat} {w g : h_T} {M : m_M} (hV : mmV a w g M) (ha : s0.heap.size ≤ a) (hB : h_B g) {x : Int} (hx : -2147483648 ≤ x ∧ x < 2147483648) (hU : h_asc g) : m_Met D aC s0 l yX10_roomOf cX10_roomOf 2 (some .int) 5 (0) (0) [.ref a, VI x] M (m_qu a w g (G_con g 11 x) M) m_nx := by
  refine m_entry (lv := [(0, .ref a), (1, VI x)]) (by decide +kernel) (Nat.le_of_ble_eq_true rfl) rfl hF hl ?_
  intro p e s m args below meth c hC hr hno hnm
  change m_C D aC s0 RX10 _ _ _ _ _ _ _ _ _ at hC
  refine m_aload_n hC 0 dX10_roomOf_0 rfl rfl ?_
  refine m_iload_n hC 1 dX10_roomOf_1 rfl rfl ?_
  refine m_iconst hC dX10_roomOf_2 ?_
  refine m_callV hC (t_X10_asksContract hF hl hV ha hB (x := x) (y := 2) hx hU 11 rfl (by decide)) dX10_roomOf_3 kc_X10_asksContract kV_X10_181 hV.ob rfl rfl rfl rfl (Nat.le_of_ble_eq_true rfl) (by decide) (by decide) m_nox (fun v9 M1 h9 => ?_)
  obtain ⟨rfl, R2, f3⟩ := h9
  exact m_iret hC dX10_roomOf_6 hr (by decide) (by decide) (⟨rfl, R2, f3⟩)

set_option maxHeartbeats 4000000 in
set_option maxRecDepth 100000 in
theorem t_X10_wage {D : va_G} {aC : Nat → ClassId} {s0 : State} {l : Launch} (hF : m_F D aC s0) (hl : l.stackTraces = false) {a : Nat} {w g : h_T} {M : m_M} (hV : mmV a w g M) (ha : s0.heap.size ≤ a) (hB : h_B g) {x : Int} (hx : -2147483648 ≤ x ∧ x < 2147483648) (hU : h_asc g) : m_Met D aC s0 l yX10_wage cX10_wage 2 (some .int) 5 (0) (0) [.ref a, VI x] M (m_qu a w g (G_con g 12 x) M) m_nx := by
  refine m_entry (lv := [(0, .ref a), (1, VI x)]) (by decide +kernel) (Nat.le_of_ble_eq_true rfl) rfl hF hl ?_
  intro p e s m args below meth c hC hr hno hnm
  change m_C D aC s0 RX10 _ _ _ _ _ _ _ _ _ at hC
  refine m_aload_n hC 0 dX10_wage_0 rfl rfl ?_
  refine m_iload_n hC 1 dX10_wage_1 rfl rfl ?_
  refine m_iconst hC dX10_wage_2 ?_
  refine m_callV hC (t_X10_asksContract hF hl hV ha hB (x := x) (y := 3) hx hU 12 rfl (by decide)) dX10_wage_3 kc_X10_asksContract kV_X10_181 hV.ob rfl rfl rfl rfl (Nat.le_of_ble_eq_true rfl) (by decide) (by decide) m_nox (fun v9 M1 h9 => ?_)
  obtain ⟨rfl, R2, f3⟩ := h9
  exact m_iret hC dX10_wage_6 hr (by decide) (by decide) (⟨rfl, R2, f3⟩)

set_option maxHeartbeats 4000000 in
set_option maxRecDepth 100000 in
theorem t_X10_effort {D : va_G} {aC : Nat → ClassId} {s0 : State} {l : Launch} (hF : m_F D aC s0) (hl : l.stackTraces = false) {a : Nat} {w g : h_T} {M : m_M} (hV : mmV a w g M) (ha : s0.heap.size ≤ a) (hB : h_B g) {x : Int} (hx : -2147483648 ≤ x ∧ x < 2147483648) (hU : h_asc g) : m_Met D aC s0 l yX10_effort cX10_effort 2 (some .int) 5 (0) (0) [.ref a, VI x] M (m_qu a w g (G_con g 13 x) M) m_nx := by
  refine m_entry (lv := [(0, .ref a), (1, VI x)]) (by decide +kernel) (Nat.le_of_ble_eq_true rfl) rfl hF hl ?_
  intro p e s m args below meth c hC hr hno hnm
  change m_C D aC s0 RX10 _ _ _ _ _ _ _ _ _ at hC
  refine m_aload_n hC 0 dX10_effort_0 rfl rfl ?_
  refine m_iload_n hC 1 dX10_effort_1 rfl rfl ?_
  refine m_iconst hC dX10_effort_2 ?_
  refine m_callV hC (t_X10_asksContract hF hl hV ha hB (x := x) (y := 4) hx hU 13 rfl (by decide)) dX10_effort_3 kc_X10_asksContract kV_X10_181 hV.ob rfl rfl rfl rfl (Nat.le_of_ble_eq_true rfl) (by decide) (by decide) m_nox (fun v9 M1 h9 => ?_)
  obtain ⟨rfl, R2, f3⟩ := h9
  exact m_iret hC dX10_effort_6 hr (by decide) (by decide) (⟨rfl, R2, f3⟩)

set_option maxHeartbeats 4000000 in
set_option maxRecDepth 100000 in
theorem t_X10_broomCount {D : va_G} {aC : Nat → ClassId} {s0 : State} {l : Launch} (hF : m_F D aC s0) (hl : l.stackTraces = false) {a : Nat} {w g : h_T} {M : m_M} (hV : mmV a w g M) (ha : s0.heap.size ≤ a) (hB : h_B g)   : m_Met D aC s0 l yX10_broomCount cX10_broomCount 1 (some .int) 0 (0) (0) [.ref a] M (m_qu a w g (((0 : Int), g 0 8)) M) m_nx := by
  refine m_entry (lv := [(0, .ref a)]) (by decide +kernel) (Nat.le_of_ble_eq_true rfl) rfl hF hl ?_
  intro p e s m args below meth c hC hr hno hnm
  change m_C D aC s0 RX10 _ _ _ _ _ _ _ _ _ at hC
  refine m_aload_n hC 0 dX10_broomCount_0 rfl rfl ?_
  refine m_iconst hC dX10_broomCount_1 ?_
  refine m_ws14 hC hV ha dX10_broomCount_2 kf_X10_44 (fun M1 R2 f3 => ?_)
  refine m_aload_n hC 0 dX10_broomCount_5 rfl rfl ?_
  refine m_getf hC dX10_broomCount_6 kf_X10_9 R2.ob rfl ?_
  refine m_bipush hC dX10_broomCount_9 (by decide) ?_
  refine m_n0 hC R2 dX10_broomCount_11 (by decide) ?_
  exact m_iret hC dX10_broomCount_12 hr (by decide) (by decide) (⟨rfl, R2, f3⟩)

set_option maxHeartbeats 4000000 in
set_option maxRecDepth 100000 in
theorem t_X10_goblinCount {D : va_G} {aC : Nat → ClassId} {s0 : State} {l : Launch} (hF : m_F D aC s0) (hl : l.stackTraces = false) {a : Nat} {w g : h_T} {M : m_M} (hV : mmV a w g M) (ha : s0.heap.size ≤ a) (hB : h_B g)   : m_Met D aC s0 l yX10_goblinCount cX10_goblinCount 1 (some .int) 0 (0) (0) [.ref a] M (m_qu a w g (((0 : Int), g 0 9)) M) m_nx := by
  refine m_entry (lv := [(0, .ref a)]) (by decide +kernel) (Nat.le_of_ble_eq_true rfl) rfl hF hl ?_
  intro p e s m args below meth c hC hr hno hnm
  change m_C D aC s0 RX10 _ _ _ _ _ _ _ _ _ at hC
  refine m_aload_n hC 0 dX10_goblinCount_0 rfl rfl ?_
  refine m_iconst hC dX10_goblinCount_1 ?_
  refine m_ws14 hC hV ha dX10_goblinCount_2 kf_X10_44 (fun M1 R2 f3 => ?_)
  refine m_aload_n hC 0 dX10_goblinCount_5 rfl rfl ?_
  refine m_getf hC dX10_goblinCount_6 kf_X10_9 R2.ob rfl ?_
  refine m_bipush hC dX10_goblinCount_9 (by decide) ?_
  refine m_n0 hC R2 dX10_goblinCount_11 (by decide) ?_
  exact m_iret hC dX10_goblinCount_12 hr (by decide) (by decide) (⟨rfl, R2, f3⟩)

set_option maxHeartbeats 4000000 in
set_option maxRecDepth 100000 in
theorem t_X10_openContracts {D : va_G} {aC : Nat → ClassId} {s0 : State} {l : Launch} (hF : m_F D aC s0) (hl : l.stackTraces = false) {a : Nat} {w g : h_T} {M : m_M} (hV : mmV a w g M) (ha : s0.heap.size ≤ a) (hB : h_B g)   : m_Met D aC s0 l yX10_openContracts cX10_openContracts 1 (some .int) 0 (0) (0) [.ref a] M (m_qu a w g (((0 : Int), g 0 11)) M) m_nx := by
  refine m_entry (lv := [(0, .ref a)]) (by decide +kernel) (Nat.le_of_ble_eq_true rfl) rfl hF hl ?_
  intro p e s m args below meth c hC hr hno hnm
  change m_C D aC s0 RX10 _ _ _ _ _ _ _ _ _ at hC
  refine m_aload_n hC 0 dX10_openContracts_0 rfl rfl ?_
  refine m_iconst hC dX10_openContracts_1 ?_
  refine m_ws14 hC hV ha dX10_openContracts_2 kf_X10_44 (fun M1 R2 f3 => ?_)
  refine m_aload_n hC 0 dX10_openContracts_5 rfl rfl ?_
  refine m_getf hC dX10_openContracts_6 kf_X10_9 R2.ob rfl ?_
  refine m_bipush hC dX10_openContracts_9 (by decide) ?_
  refine m_n0 hC R2 dX10_openContracts_11 (by decide) ?_
  exact m_iret hC dX10_openContracts_12 hr (by decide) (by decide) (⟨rfl, R2, f3⟩)

set_option maxHeartbeats 4000000 in
set_option maxRecDepth 100000 in
theorem t_X10_total {D : va_G} {aC : Nat → ClassId} {s0 : State} {l : Launch} (hF : m_F D aC s0) (hl : l.stackTraces = false) {a : Nat} {w g : h_T} {M : m_M} (hV : mmV a w g M) (ha : s0.heap.size ≤ a) (hB : h_B g) {y : Int} (hy : 0 ≤ y ∧ y < 12) : m_Met D aC s0 l yX10_total cX10_total 2 (some .int) 0 (0) (0) [.ref a, VI y] M (m_qu a w g (((0 : Int), g 0 y)) M) m_nx := by
  refine m_entry (lv := [(0, .ref a), (1, VI y)]) (by decide +kernel) (Nat.le_of_ble_eq_true rfl) rfl hF hl ?_
  intro p e s m args below meth c hC hr hno hnm
  change m_C D aC s0 RX10 _ _ _ _ _ _ _ _ _ at hC
  refine m_aload_n hC 0 dX10_total_0 rfl rfl ?_
  refine m_iconst hC dX10_total_1 ?_
  refine m_ws14 hC hV ha dX10_total_2 kf_X10_44 (fun M1 R2 f3 => ?_)
  refine m_aload_n hC 0 dX10_total_5 rfl rfl ?_
  refine m_getf hC dX10_total_6 kf_X10_9 R2.ob rfl ?_
  refine m_iload_n hC 1 dX10_total_9 rfl rfl ?_
  refine m_n0 hC R2 dX10_total_10 hy ?_
  exact m_iret hC dX10_total_11 hr (by decide) (by decide) (⟨rfl, R2, f3⟩)

set_option maxHeartbeats 4000000 in
set_option maxRecDepth 100000 in
theorem t_X10_night {D : va_G} {aC : Nat → ClassId} {s0 : State} {l : Launch} (hF : m_F D aC s0) (hl : l.stackTraces = false) {a : Nat} {w g : h_T} {M : m_M} (hV : mmV a w g M) (ha : s0.heap.size ≤ a) (hB : h_B g)   : m_Met D aC s0 l yX10_night cX10_night 1 (some .int) 1 (0) (0) [.ref a] M (m_qu a w g (((0 : Int), g 0 0)) M) m_nx := by
  refine m_entry (lv := [(0, .ref a)]) (by decide +kernel) (Nat.le_of_ble_eq_true rfl) rfl hF hl ?_
  intro p e s m args below meth c hC hr hno hnm
  change m_C D aC s0 RX10 _ _ _ _ _ _ _ _ _ at hC
  refine m_aload_n hC 0 dX10_night_0 rfl rfl ?_
  refine m_iconst hC dX10_night_1 ?_
  refine m_callV hC (t_X10_total hF hl hV ha hB (y := 0) (by decide)) dX10_night_2 kc_X10_total kV_X10_190 hV.ob rfl rfl rfl rfl (Nat.le_of_ble_eq_true rfl) (by decide) (by decide) m_nox (fun v9 M1 h9 => ?_)
  obtain ⟨rfl, R2, f3⟩ := h9
  exact m_iret hC dX10_night_5 hr (by decide) (by decide) (⟨rfl, R2, f3⟩)

set_option maxHeartbeats 4000000 in
set_option maxRecDepth 100000 in
theorem t_X10_chest {D : va_G} {aC : Nat → ClassId} {s0 : State} {l : Launch} (hF : m_F D aC s0) (hl : l.stackTraces = false) {a : Nat} {w g : h_T} {M : m_M} (hV : mmV a w g M) (ha : s0.heap.size ≤ a) (hB : h_B g)   : m_Met D aC s0 l yX10_chest cX10_chest 1 (some .int) 1 (0) (0) [.ref a] M (m_qu a w g (((0 : Int), g 0 1)) M) m_nx := by
  refine m_entry (lv := [(0, .ref a)]) (by decide +kernel) (Nat.le_of_ble_eq_true rfl) rfl hF hl ?_
  intro p e s m args below meth c hC hr hno hnm
  change m_C D aC s0 RX10 _ _ _ _ _ _ _ _ _ at hC
  refine m_aload_n hC 0 dX10_chest_0 rfl rfl ?_
  refine m_iconst hC dX10_chest_1 ?_
  refine m_callV hC (t_X10_total hF hl hV ha hB (y := 1) (by decide)) dX10_chest_2 kc_X10_total kV_X10_190 hV.ob rfl rfl rfl rfl (Nat.le_of_ble_eq_true rfl) (by decide) (by decide) m_nox (fun v9 M1 h9 => ?_)
  obtain ⟨rfl, R2, f3⟩ := h9
  exact m_iret hC dX10_chest_5 hr (by decide) (by decide) (⟨rfl, R2, f3⟩)

set_option maxHeartbeats 4000000 in
set_option maxRecDepth 100000 in
theorem t_X10_doneTotal {D : va_G} {aC : Nat → ClassId} {s0 : State} {l : Launch} (hF : m_F D aC s0) (hl : l.stackTraces = false) {a : Nat} {w g : h_T} {M : m_M} (hV : mmV a w g M) (ha : s0.heap.size ≤ a) (hB : h_B g)   : m_Met D aC s0 l yX10_doneTotal cX10_doneTotal 1 (some .int) 1 (0) (0) [.ref a] M (m_qu a w g (((0 : Int), g 0 4)) M) m_nx := by
  refine m_entry (lv := [(0, .ref a)]) (by decide +kernel) (Nat.le_of_ble_eq_true rfl) rfl hF hl ?_
  intro p e s m args below meth c hC hr hno hnm
  change m_C D aC s0 RX10 _ _ _ _ _ _ _ _ _ at hC
  refine m_aload_n hC 0 dX10_doneTotal_0 rfl rfl ?_
  refine m_iconst hC dX10_doneTotal_1 ?_
  refine m_callV hC (t_X10_total hF hl hV ha hB (y := 4) (by decide)) dX10_doneTotal_2 kc_X10_total kV_X10_190 hV.ob rfl rfl rfl rfl (Nat.le_of_ble_eq_true rfl) (by decide) (by decide) m_nox (fun v9 M1 h9 => ?_)
  obtain ⟨rfl, R2, f3⟩ := h9
  exact m_iret hC dX10_doneTotal_5 hr (by decide) (by decide) (⟨rfl, R2, f3⟩)

set_option maxHeartbeats 4000000 in
set_option maxRecDepth 100000 in
theorem t_X10_brokenTotal {D : va_G} {aC : Nat → ClassId} {s0 : State} {l : Launch} (hF : m_F D aC s0) (hl : l.stackTraces = false) {a : Nat} {w g : h_T} {M : m_M} (hV : mmV a w g M) (ha : s0.heap.size ≤ a) (hB : h_B g)   : m_Met D aC s0 l yX10_brokenTotal cX10_brokenTotal 1 (some .int) 1 (0) (0) [.ref a] M (m_qu a w g (((0 : Int), g 0 5)) M) m_nx := by
  refine m_entry (lv := [(0, .ref a)]) (by decide +kernel) (Nat.le_of_ble_eq_true rfl) rfl hF hl ?_
  intro p e s m args below meth c hC hr hno hnm
  change m_C D aC s0 RX10 _ _ _ _ _ _ _ _ _ at hC
  refine m_aload_n hC 0 dX10_brokenTotal_0 rfl rfl ?_
  refine m_iconst hC dX10_brokenTotal_1 ?_
  refine m_callV hC (t_X10_total hF hl hV ha hB (y := 5) (by decide)) dX10_brokenTotal_2 kc_X10_total kV_X10_190 hV.ob rfl rfl rfl rfl (Nat.le_of_ble_eq_true rfl) (by decide) (by decide) m_nox (fun v9 M1 h9 => ?_)
  obtain ⟨rfl, R2, f3⟩ := h9
  exact m_iret hC dX10_brokenTotal_5 hr (by decide) (by decide) (⟨rfl, R2, f3⟩)

set_option maxHeartbeats 4000000 in
set_option maxRecDepth 100000 in
theorem t_X10_unpaidTotal {D : va_G} {aC : Nat → ClassId} {s0 : State} {l : Launch} (hF : m_F D aC s0) (hl : l.stackTraces = false) {a : Nat} {w g : h_T} {M : m_M} (hV : mmV a w g M) (ha : s0.heap.size ≤ a) (hB : h_B g)   : m_Met D aC s0 l yX10_unpaidTotal cX10_unpaidTotal 1 (some .int) 1 (0) (0) [.ref a] M (m_qu a w g (((0 : Int), g 0 6)) M) m_nx := by
  refine m_entry (lv := [(0, .ref a)]) (by decide +kernel) (Nat.le_of_ble_eq_true rfl) rfl hF hl ?_
  intro p e s m args below meth c hC hr hno hnm
  change m_C D aC s0 RX10 _ _ _ _ _ _ _ _ _ at hC
  refine m_aload_n hC 0 dX10_unpaidTotal_0 rfl rfl ?_
  refine m_bipush hC dX10_unpaidTotal_1 (by decide) ?_
  refine m_callV hC (t_X10_total hF hl hV ha hB (y := 6) (by decide)) dX10_unpaidTotal_3 kc_X10_total kV_X10_190 hV.ob rfl rfl rfl rfl (Nat.le_of_ble_eq_true rfl) (by decide) (by decide) m_nox (fun v9 M1 h9 => ?_)
  obtain ⟨rfl, R2, f3⟩ := h9
  exact m_iret hC dX10_unpaidTotal_6 hr (by decide) (by decide) (⟨rfl, R2, f3⟩)

set_option maxHeartbeats 4000000 in
set_option maxRecDepth 100000 in
theorem t_X10_interestTotal {D : va_G} {aC : Nat → ClassId} {s0 : State} {l : Launch} (hF : m_F D aC s0) (hl : l.stackTraces = false) {a : Nat} {w g : h_T} {M : m_M} (hV : mmV a w g M) (ha : s0.heap.size ≤ a) (hB : h_B g)   : m_Met D aC s0 l yX10_interestTotal cX10_interestTotal 1 (some .int) 1 (0) (0) [.ref a] M (m_qu a w g (((0 : Int), g 0 7)) M) m_nx := by
  refine m_entry (lv := [(0, .ref a)]) (by decide +kernel) (Nat.le_of_ble_eq_true rfl) rfl hF hl ?_
  intro p e s m args below meth c hC hr hno hnm
  change m_C D aC s0 RX10 _ _ _ _ _ _ _ _ _ at hC
  refine m_aload_n hC 0 dX10_interestTotal_0 rfl rfl ?_
  refine m_bipush hC dX10_interestTotal_1 (by decide) ?_
  refine m_callV hC (t_X10_total hF hl hV ha hB (y := 7) (by decide)) dX10_interestTotal_3 kc_X10_total kV_X10_190 hV.ob rfl rfl rfl rfl (Nat.le_of_ble_eq_true rfl) (by decide) (by decide) m_nox (fun v9 M1 h9 => ?_)
  obtain ⟨rfl, R2, f3⟩ := h9
  exact m_iret hC dX10_interestTotal_6 hr (by decide) (by decide) (⟨rfl, R2, f3⟩)

set_option maxHeartbeats 4000000 in
set_option maxRecDepth 100000 in
theorem t_X10_allCrumbsByAccounts {D : va_G} {aC : Nat → ClassId} {s0 : State} {l : Launch} (hF : m_F D aC s0) (hl : l.stackTraces = false) {a : Nat} {w g : h_T} {M : m_M} (hV : mmV a w g M) (ha : s0.heap.size ≤ a) (hB : h_B g)   : m_Met D aC s0 l yX10_allCrumbsByAccounts cX10_allCrumbsByAccounts 1 (some .int) 0 (0) (0) [.ref a] M (m_qu a w g (((0 : Int), 100 + g 0 2 - g 0 3)) M) m_nx := by
  refine m_entry (lv := [(0, .ref a)]) (by decide +kernel) (Nat.le_of_ble_eq_true rfl) rfl hF hl ?_
  intro p e s m args below meth c hC hr hno hnm
  change m_C D aC s0 RX10 _ _ _ _ _ _ _ _ _ at hC
  refine m_aload_n hC 0 dX10_allCrumbsByAccounts_0 rfl rfl ?_
  refine m_iconst hC dX10_allCrumbsByAccounts_1 ?_
  refine m_ws14 hC hV ha dX10_allCrumbsByAccounts_2 kf_X10_44 (fun M1 R2 f3 => ?_)
  refine m_bipush hC dX10_allCrumbsByAccounts_5 (by decide) ?_
  refine m_aload_n hC 0 dX10_allCrumbsByAccounts_7 rfl rfl ?_
  refine m_getf hC dX10_allCrumbsByAccounts_8 kf_X10_9 R2.ob rfl ?_
  refine m_iconst hC dX10_allCrumbsByAccounts_11 ?_
  refine m_n0 hC R2 dX10_allCrumbsByAccounts_12 (by decide) ?_
  refine m_iadd hC dX10_allCrumbsByAccounts_13 ?_
  refine m_aload_n hC 0 dX10_allCrumbsByAccounts_14 rfl rfl ?_
  refine m_getf hC dX10_allCrumbsByAccounts_15 kf_X10_9 R2.ob rfl ?_
  refine m_iconst hC dX10_allCrumbsByAccounts_18 ?_
  refine m_n0 hC R2 dX10_allCrumbsByAccounts_19 (by decide) ?_
  refine m_isub hC dX10_allCrumbsByAccounts_20 ?_
  exact m_iret hC dX10_allCrumbsByAccounts_21 hr (by decide) (by decide) (⟨rfl, R2, f3⟩)

set_option maxHeartbeats 4000000 in
set_option maxRecDepth 100000 in
theorem t_X10_isConsistent {D : va_G} {aC : Nat → ClassId} {s0 : State} {l : Launch} (hF : m_F D aC s0) (hl : l.stackTraces = false) {a : Nat} {w g : h_T} {M : m_M} (hV : mmV a w g M) (ha : s0.heap.size ≤ a) (hB : h_B g)   : m_Met D aC s0 l yX10_isConsistent cX10_isConsistent 1 (some .boolean) 0 (0) (0) [.ref a] M (m_qu a w g (((0 : Int), (1 : Int))) M) m_nx := by
  refine m_entry (lv := [(0, .ref a)]) (by decide +kernel) (Nat.le_of_ble_eq_true rfl) rfl hF hl ?_
  intro p e s m args below meth c hC hr hno hnm
  change m_C D aC s0 RX10 _ _ _ _ _ _ _ _ _ at hC
  refine m_aload_n hC 0 dX10_isConsistent_0 rfl rfl ?_
  refine m_iconst hC dX10_isConsistent_1 ?_
  refine m_ws14 hC hV ha dX10_isConsistent_2 kf_X10_44 (fun M1 R2 f3 => ?_)
  refine m_iconst hC dX10_isConsistent_5 ?_
  exact m_zret hC dX10_isConsistent_6 hr (by first | rfl | exact b01_nz) (by decide) (by decide) (⟨rfl, R2, f3⟩)

set_option maxHeartbeats 4000000 in
set_option maxRecDepth 100000 in
theorem t_X10_errorPosition {D : va_G} {aC : Nat → ClassId} {s0 : State} {l : Launch} (hF : m_F D aC s0) (hl : l.stackTraces = false) {a : Nat} {w g : h_T} {M : m_M} (hV : mmV a w g M) (ha : s0.heap.size ≤ a) (hB : h_B g)  (h7 : -1 ≤ w 0 7 ∧ w 0 7 ≤ 1000) : m_Met D aC s0 l yX10_errorPosition cX10_errorPosition 1 (some .int) 2 (0) (0) [.ref a] M (m_qu a w g (G_if (w 0 7 ≠ -1) (w 0 7)) M) m_nx := by
  refine m_entry (lv := [(0, .ref a)]) (by decide +kernel) (Nat.le_of_ble_eq_true rfl) rfl hF hl ?_
  intro p e s m args below meth c hC hr hno hnm
  change m_C D aC s0 RX10 _ _ _ _ _ _ _ _ _ at hC
  have hn8 := hB.n8
  have hn9 := hB.n9
  have hn11 := hB.n11
  refine m_aload_n hC 0 dX10_errorPosition_0 rfl rfl ?_
  refine m_aload_n hC 0 dX10_errorPosition_1 rfl rfl ?_
  refine m_getf hC dX10_errorPosition_2 kf_X10_25 hV.ob rfl ?_
  refine m_iconst hC dX10_errorPosition_5 ?_
  refine m_dia_icmp_eq hC dX10_errorPosition_6 dX10_errorPosition_9 dX10_errorPosition_10 dX10_errorPosition_13 rfl rfl (by first | omega | (simp [hs_at] <;> omega)) ?_
  refine m_callV hC (t_X10_goes hF hl hV ha hB (z := b01 (w 0 7 ≠ -1)) (by first | exact b01_r | omega)) dX10_errorPosition_14 kc_X10_goes kV_X10_61 hV.ob rfl rfl rfl rfl (Nat.le_of_ble_eq_true rfl) (by decide) (by decide) m_nox (fun v9 M1 h9 => ?_)
  obtain ⟨rfl, R2, f3⟩ := h9
  refine m_if_eq (tgt := 27) hC dX10_errorPosition_17 (by decide) b01_r (fun ch => ?_) (fun ch => ?_)
  · refine m_iconst hC dX10_errorPosition_27 ?_
    exact m_iret hC dX10_errorPosition_28 hr (by decide) (by decide) (m_qn ch (fun h => if_neg h) R2 f3)
  · have hv := b01_ne.mp (b01_ne.mp ch)
    refine m_aload_n hC 0 dX10_errorPosition_20 rfl rfl ?_
    refine m_getf hC dX10_errorPosition_21 kf_X10_25 R2.ob rfl ?_
    refine m_goto (tgt := 28) hC dX10_errorPosition_24 (by decide) ?_
    exact m_iret hC dX10_errorPosition_28 hr (by decide) (by decide) (m_qy ch (fun h => if_pos h) R2 f3)

set_option maxHeartbeats 4000000 in
set_option maxRecDepth 100000 in
theorem t_X10_failedCommand {D : va_G} {aC : Nat → ClassId} {s0 : State} {l : Launch} (hF : m_F D aC s0) (hl : l.stackTraces = false) {a : Nat} {w g : h_T} {M : m_M} (hV : mmV a w g M) (ha : s0.heap.size ≤ a) (hB : h_B g)  (h7 : -1 ≤ w 0 8 ∧ w 0 8 ≤ 1000) : m_Met D aC s0 l yX10_failedCommand cX10_failedCommand 1 (some .int) 2 (0) (0) [.ref a] M (m_qu a w g (G_if (w 0 8 ≠ -1) (w 0 8)) M) m_nx := by
  refine m_entry (lv := [(0, .ref a)]) (by decide +kernel) (Nat.le_of_ble_eq_true rfl) rfl hF hl ?_
  intro p e s m args below meth c hC hr hno hnm
  change m_C D aC s0 RX10 _ _ _ _ _ _ _ _ _ at hC
  have hn8 := hB.n8
  have hn9 := hB.n9
  have hn11 := hB.n11
  refine m_aload_n hC 0 dX10_failedCommand_0 rfl rfl ?_
  refine m_aload_n hC 0 dX10_failedCommand_1 rfl rfl ?_
  refine m_getf hC dX10_failedCommand_2 kf_X10_29 hV.ob rfl ?_
  refine m_iconst hC dX10_failedCommand_5 ?_
  refine m_dia_icmp_eq hC dX10_failedCommand_6 dX10_failedCommand_9 dX10_failedCommand_10 dX10_failedCommand_13 rfl rfl (by first | omega | (simp [hs_at] <;> omega)) ?_
  refine m_callV hC (t_X10_goes hF hl hV ha hB (z := b01 (w 0 8 ≠ -1)) (by first | exact b01_r | omega)) dX10_failedCommand_14 kc_X10_goes kV_X10_61 hV.ob rfl rfl rfl rfl (Nat.le_of_ble_eq_true rfl) (by decide) (by decide) m_nox (fun v9 M1 h9 => ?_)
  obtain ⟨rfl, R2, f3⟩ := h9
  refine m_if_eq (tgt := 27) hC dX10_failedCommand_17 (by decide) b01_r (fun ch => ?_) (fun ch => ?_)
  · refine m_iconst hC dX10_failedCommand_27 ?_
    exact m_iret hC dX10_failedCommand_28 hr (by decide) (by decide) (m_qn ch (fun h => if_neg h) R2 f3)
  · have hv := b01_ne.mp (b01_ne.mp ch)
    refine m_aload_n hC 0 dX10_failedCommand_20 rfl rfl ?_
    refine m_getf hC dX10_failedCommand_21 kf_X10_29 R2.ob rfl ?_
    refine m_goto (tgt := 28) hC dX10_failedCommand_24 (by decide) ?_
    exact m_iret hC dX10_failedCommand_28 hr (by decide) (by decide) (m_qy ch (fun h => if_pos h) R2 f3)

set_option maxHeartbeats 4000000 in
set_option maxRecDepth 100000 in
theorem t_X10_allCrumbs {D : va_G} {aC : Nat → ClassId} {s0 : State} {l : Launch} (hF : m_F D aC s0) (hl : l.stackTraces = false) {a : Nat} {w g : h_T} {M : m_M} (hV : mmV a w g M) (ha : s0.heap.size ≤ a) (hB : h_B g)   : m_Met D aC s0 l yX10_allCrumbs cX10_allCrumbs 3 (some .int) 4 (0) (0) [.ref a] M (m_qu a w g (((0 : Int), g 0 1 + S_purses g)) M) m_nx := by
  refine m_entry (lv := [(0, .ref a)]) (by decide +kernel) (Nat.le_of_ble_eq_true rfl) rfl hF hl ?_
  intro p e s m args below meth c hC hr hno hnm
  change m_C D aC s0 RX10 _ _ _ _ _ _ _ _ _ at hC
  have hn9 := hB.n9
  refine m_aload_n hC 0 dX10_allCrumbs_0 rfl rfl ?_
  refine m_iconst hC dX10_allCrumbs_1 ?_
  refine m_callV hC (t_X10_total hF hl hV ha hB (y := 1) (by decide)) dX10_allCrumbs_2 kc_X10_total kV_X10_190 hV.ob rfl rfl rfl rfl (Nat.le_of_ble_eq_true rfl) (by decide) (by decide) m_nox (fun v9 M1 h9 => ?_)
  obtain ⟨rfl, R2, f3⟩ := h9
  refine m_istore_n hC dX10_allCrumbs_5 rfl (by decide) rfl ?_
  refine m_iconst hC dX10_allCrumbs_6 ?_
  refine m_istore_n hC dX10_allCrumbs_7 rfl (by decide) rfl ?_
  have hfr0 := f3
  have L : ∀ (n : Nat) (i q : Int), g 0 9 - i < (n : Int) → 0 ≤ i → i ≤ g 0 9 → q = g 0 1 + h_sum (fun j => g 5 j) i.toNat → m_W D aC s0 3 p l e (m_R 4 (0) (0)) s m args below meth c (0) (0) (m_Q D aC s0 below (m_qu a w g (((0 : Int), g 0 1 + S_purses g)) M) m_nx args s (0) (0)) 8 [(2, VI i), (1, VI q), (0, .ref a)] [] M1 := by
    intro n
    induction n with
    | zero =>
      intro i q hn h0 h1 hq
      omega
    | succ n ih =>
      intro i q hn h0 h1 hq
      refine m_iload_n hC 0 dX10_allCrumbs_8 rfl rfl ?_
      refine m_aload_n hC 2 dX10_allCrumbs_9 rfl rfl ?_
      refine m_getf hC dX10_allCrumbs_10 kf_X10_9 R2.ob rfl ?_
      refine m_bipush hC dX10_allCrumbs_13 (by decide) ?_
      refine m_n0 hC R2 dX10_allCrumbs_15 (by decide) ?_
      refine m_icmp_ge (tgt := 34) hC dX10_allCrumbs_16 (by decide) (by first | omega | (simp [hs_at] <;> omega)) (fun c4 => ?_) (fun c4 => ?_)
      · refine m_iload_n hC 1 dX10_allCrumbs_34 rfl rfl ?_
        exact m_iret hC dX10_allCrumbs_35 hr (by decide) (by decide) (⟨by rw [hq]; congr 2; unfold S_purses; rw [show i.toNat = (g 0 9).toNat by omega], R2, hfr0⟩)
      · refine m_iload_n hC 1 dX10_allCrumbs_19 rfl rfl ?_
        refine m_aload_n hC 2 dX10_allCrumbs_20 rfl rfl ?_
        refine m_iload_n hC 0 dX10_allCrumbs_21 rfl rfl ?_
        refine m_iconst hC dX10_allCrumbs_22 ?_
        refine m_callV hC (t_X10_of hF hl R2 ha hB (x := i) (y := 1) 5 rfl (by decide) (by omega)) dX10_allCrumbs_23 kc_X10_of kV_X10_95 R2.ob rfl rfl rfl rfl (Nat.le_of_ble_eq_true rfl) (by decide) (by decide) m_nox (fun v9 M5 h9 => ?_)
        obtain ⟨rfl, h9⟩ := h9
        replace h9 := h9.symm
        subst h9
        refine m_iadd hC dX10_allCrumbs_26 ?_
        refine m_istore_n hC dX10_allCrumbs_27 rfl (by decide) rfl ?_
        refine m_iinc hC 1 dX10_allCrumbs_28 rfl (by decide) rfl ?_
        refine m_goto (tgt := 8) hC dX10_allCrumbs_31 (by decide) ?_
        refine m_lvs [0, 1, 2] rfl (ih (i + 1) _ (by omega) (by omega) (by omega) (by rw [h_sum_succ _ h0, hq]; omega))
  refine m_lvs [0, 1, 2] rfl (L ((g 0 9 - 0).toNat + 1) 0 (g 0 1) (by omega) (by omega) (by omega) (by show _ = g 0 1 + 0; omega))

