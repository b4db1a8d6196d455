theorem h_find_sn {p : Int → Bool} : ∀ (n : Nat) (i : Int), 0 ≤ i → h_find p (n + 1) i = if h_find p n i = -1 then (if p (i + n) then i + n else -1) else h_find p n i := by
  intro n
  induction n with
  | zero =>
    intro i hi
    simp [h_find]
  | succ n ih =>
    intro i hi
    rw [h_find]
    by_cases q : p i = true
    · rw [if_pos q]
      have e : h_find p (n + 1) i = i := by rw [h_find, if_pos q]
      rw [e, if_neg (by omega)]
    · rw [if_neg q, ih (i + 1) (by omega)]
      have e : h_find p (n + 1) i = h_find p n (i + 1) := by rw [h_find, if_neg q]
      rw [e, show i + 1 + (n : Int) = i + ((n + 1 : Nat) : Int) by omega]
theorem h_find_up {p : Int → Bool} {i : Int} (h : 0 ≤ i) : h_find p (i + 1).toNat 0 = if h_find p i.toNat 0 = -1 then (if p i then i else -1) else h_find p i.toNat 0 := by
  have e := h_find_sn (p := p) i.toNat 0 (by omega)
  rw [show (i + 1).toNat = i.toNat + 1 by omega, e, show (0 : Int) + (i.toNat : Int) = i by omega]
theorem b01_s {P Q : Prop} [Decidable P] [Decidable Q] (h : P ↔ Q) : some (VI (b01 P)) = some (VI (b01 Q)) := by rw [b01_c h]
theorem b01_s0 {P : Prop} [Decidable P] (h : ¬ P) : some (VI 0) = some (VI (b01 P)) := by rw [b01_f h]
theorem b01_s1 {P : Prop} [Decidable P] (h : P) : some (VI 1) = some (VI (b01 P)) := by rw [b01_t h]
def h_asc (g : h_T) : Prop := ∀ i k : Int, 0 ≤ i → i < k → k < g 0 11 → g 9 i < g 9 k
set_option maxHeartbeats 4000000 in
set_option maxRecDepth 100000 in
theorem t_X10_isIn {D : va_G} {aC : Nat → ClassId} {s0 : State} {l : Launch} (hF : m_F D aC s0) (hl : l.stackTraces = false) {M : m_M} {z : Int} {lo : Int} {hi : Int} (hr0 : (-2147483648 ≤ z ∧ z < 2147483648) ∧ (-2147483648 ≤ lo ∧ lo < 2147483648) ∧ (-2147483648 ≤ hi ∧ hi < 2147483648)) : m_Met D aC s0 l yX10_isIn cX10_isIn 3 (some .boolean) 0 (0) (0) [VI z, VI lo, VI hi] M (fun v M' => v = some (VI (b01 (lo ≤ z ∧ z ≤ hi))) ∧ M' = M) m_nx := by
  refine m_entry (lv := [(0, VI z), (1, VI lo), (2, VI hi)]) (by decide +kernel) (Nat.le_of_ble_eq_true rfl) rfl hF hl ?_
  intro p e s m args below meth c hC hr hno hnm
  change m_C D aC s0 RX10 _ _ _ _ _ _ _ _ _ at hC
  refine m_iload_n hC 0 dX10_isIn_0 rfl rfl ?_
  refine m_iload_n hC 1 dX10_isIn_1 rfl rfl ?_
  refine m_icmp_lt (tgt := 14) hC dX10_isIn_2 (by decide) (by first | omega | (simp [hs_at] <;> omega)) (fun c1 => ?_) (fun c1 => ?_)
  · refine m_iconst hC dX10_isIn_14 ?_
    exact m_zret hC dX10_isIn_15 hr (by first | rfl | exact b01_nz) (by decide) (by decide) (⟨by first | exact b01_s (by omega) | exact b01_s0 (by omega) | exact b01_s1 (by omega), rfl⟩)
  · refine m_iload_n hC 0 dX10_isIn_5 rfl rfl ?_
    refine m_iload_n hC 2 dX10_isIn_6 rfl rfl ?_
    refine m_dia_icmp_gt hC dX10_isIn_7 dX10_isIn_10 dX10_isIn_11 dX10_isIn_14 rfl rfl (by first | omega | (simp [hs_at] <;> omega)) ?_
    exact m_zret hC dX10_isIn_15 hr (by first | rfl | exact b01_nz) (by decide) (by decide) (⟨by first | exact b01_s (by omega) | exact b01_s0 (by omega) | exact b01_s1 (by omega), rfl⟩)

set_option maxHeartbeats 4000000 in
set_option maxRecDepth 100000 in
theorem t_X10_isRoom {D : va_G} {aC : Nat → ClassId} {s0 : State} {l : Launch} (hF : m_F D aC s0) (hl : l.stackTraces = false) {M : m_M} {x : Int} (hx : -2147483648 ≤ x ∧ x < 2147483648) : m_Met D aC s0 l yX10_isRoom cX10_isRoom 1 (some .boolean) 1 (0) (0) [VI x] M (fun v M' => v = some (VI (b01 (0 ≤ x ∧ x < 6))) ∧ M' = M) m_nx := by
  refine m_entry (lv := [(0, VI x)]) (by decide +kernel) (Nat.le_of_ble_eq_true rfl) rfl hF hl ?_
  intro p e s m args below meth c hC hr hno hnm
  change m_C D aC s0 RX10 _ _ _ _ _ _ _ _ _ at hC
  refine m_iload_n hC 0 dX10_isRoom_0 rfl rfl ?_
  refine m_iconst hC dX10_isRoom_1 ?_
  refine m_iconst hC dX10_isRoom_2 ?_
  refine m_callS hC (t_X10_isIn hF hl (by omega)) dX10_isRoom_3 kc_X10_isIn kS_X10_69 rfl rfl (Nat.le_of_ble_eq_true rfl) (by decide) (by decide) m_nox (fun v9 M1 h9 => ?_)
  obtain ⟨rfl, rfl⟩ := h9
  exact m_zret hC dX10_isRoom_6 hr (by first | rfl | exact b01_nz) (by decide) (by decide) (⟨by first | exact b01_s (by omega) | exact b01_s0 (by omega) | exact b01_s1 (by omega), rfl⟩)

set_option maxHeartbeats 4000000 in
set_option maxRecDepth 100000 in
theorem t_X10_isBroom {D : va_G} {aC : Nat → ClassId} {s0 : State} {l : Launch} (hF : m_F D aC s0) (hl : l.stackTraces = false) {a : Nat} {w g : h_T} {M : m_M} (hV : mmV a w g M) (ha : s0.heap.size ≤ a) (hB : h_B g) {x : Int} (hx : -2147483648 ≤ x ∧ x < 2147483648) : m_Met D aC s0 l yX10_isBroom cX10_isBroom 2 (some .boolean) 1 (0) (0) [.ref a, VI x] M (fun v M' => v = some (VI (b01 (0 ≤ x ∧ x < g 0 8))) ∧ M' = M) m_nx := by
  refine m_entry (lv := [(0, .ref a), (1, VI x)]) (by decide +kernel) (Nat.le_of_ble_eq_true rfl) rfl hF hl ?_
  intro p e s m args below meth c hC hr hno hnm
  change m_C D aC s0 RX10 _ _ _ _ _ _ _ _ _ at hC
  have hn := hB.n8
  refine m_iload_n hC 1 dX10_isBroom_0 rfl rfl ?_
  refine m_iconst hC dX10_isBroom_1 ?_
  refine m_aload_n hC 0 dX10_isBroom_2 rfl rfl ?_
  refine m_getf hC dX10_isBroom_3 kf_X10_9 hV.ob rfl ?_
  refine m_bipush hC dX10_isBroom_6 (by decide) ?_
  refine m_n0 hC hV dX10_isBroom_8 (by decide) ?_
  refine m_iconst hC dX10_isBroom_9 ?_
  refine m_isub hC dX10_isBroom_10 ?_
  refine m_callS hC (t_X10_isIn hF hl (by omega)) dX10_isBroom_11 kc_X10_isIn kS_X10_69 rfl rfl (Nat.le_of_ble_eq_true rfl) (by decide) (by decide) m_nox (fun v9 M1 h9 => ?_)
  obtain ⟨rfl, rfl⟩ := h9
  exact m_zret hC dX10_isBroom_14 hr (by first | rfl | exact b01_nz) (by decide) (by decide) (⟨by first | exact b01_s (by omega) | exact b01_s0 (by omega) | exact b01_s1 (by omega), rfl⟩)

set_option maxHeartbeats 4000000 in
set_option maxRecDepth 100000 in
theorem t_X10_isGoblin {D : va_G} {aC : Nat → ClassId} {s0 : State} {l : Launch} (hF : m_F D aC s0) (hl : l.stackTraces = false) {a : Nat} {w g : h_T} {M : m_M} (hV : mmV a w g M) (ha : s0.heap.size ≤ a) (hB : h_B g) {x : Int} (hx : -2147483648 ≤ x ∧ x < 2147483648) : m_Met D aC s0 l yX10_isGoblin cX10_isGoblin 2 (some .boolean) 1 (0) (0) [.ref a, VI x] M (fun v M' => v = some (VI (b01 (0 ≤ x ∧ x < g 0 9))) ∧ M' = M) m_nx := by
  refine m_entry (lv := [(0, .ref a), (1, VI x)]) (by decide +kernel) (Nat.le_of_ble_eq_true rfl) rfl hF hl ?_
  intro p e s m args below meth c hC hr hno hnm
  change m_C D aC s0 RX10 _ _ _ _ _ _ _ _ _ at hC
  have hn := hB.n9
  refine m_iload_n hC 1 dX10_isGoblin_0 rfl rfl ?_
  refine m_iconst hC dX10_isGoblin_1 ?_
  refine m_aload_n hC 0 dX10_isGoblin_2 rfl rfl ?_
  refine m_getf hC dX10_isGoblin_3 kf_X10_9 hV.ob rfl ?_
  refine m_bipush hC dX10_isGoblin_6 (by decide) ?_
  refine m_n0 hC hV dX10_isGoblin_8 (by decide) ?_
  refine m_iconst hC dX10_isGoblin_9 ?_
  refine m_isub hC dX10_isGoblin_10 ?_
  refine m_callS hC (t_X10_isIn hF hl (by omega)) dX10_isGoblin_11 kc_X10_isIn kS_X10_69 rfl rfl (Nat.le_of_ble_eq_true rfl) (by decide) (by decide) m_nox (fun v9 M1 h9 => ?_)
  obtain ⟨rfl, rfl⟩ := h9
  exact m_zret hC dX10_isGoblin_14 hr (by first | rfl | exact b01_nz) (by decide) (by decide) (⟨by first | exact b01_s (by omega) | exact b01_s0 (by omega) | exact b01_s1 (by omega), rfl⟩)

set_option maxHeartbeats 4000000 in
set_option maxRecDepth 100000 in
theorem t_X10_ofBroom {D : va_G} {aC : Nat → ClassId} {s0 : State} {l : Launch} (hF : m_F D aC s0) (hl : l.stackTraces = false) {a : Nat} {w g : h_T} {M : m_M} (hV : mmV a w g M) (ha : s0.heap.size ≤ a) (hB : h_B g) {x : Int} {y : Int} (c0 : Nat) (hc : (c0 : Int) = 2 + y) (hk : 2 ≤ c0 ∧ c0 ≤ 3) (hx : 0 ≤ x ∧ x < g 0 8) : m_Met D aC s0 l yX10_ofBroom cX10_ofBroom 3 (some .int) 2 (0) (0) [.ref a, VI x, VI y] M (fun v M' => v = some (VI (g c0 x)) ∧ M' = M) m_nx := by
  refine m_entry (lv := [(0, .ref a), (1, VI x), (2, VI y)]) (by decide +kernel) (Nat.le_of_ble_eq_true rfl) rfl hF hl ?_
  intro p e s m args below meth c hC hr hno hnm
  change m_C D aC s0 RX10 _ _ _ _ _ _ _ _ _ at hC
  have hn := hB.n8
  have cz := b01_t (P := 0 ≤ x ∧ x < g 0 8) hx
  refine m_aload_n hC 0 dX10_ofBroom_0 rfl rfl ?_
  refine m_getf hC dX10_ofBroom_1 kf_X10_9 hV.ob rfl ?_
  refine m_bipush hC dX10_ofBroom_4 (by decide) ?_
  refine m_iconst hC dX10_ofBroom_6 ?_
  refine m_aload_n hC 0 dX10_ofBroom_7 rfl rfl ?_
  refine m_iload_n hC 1 dX10_ofBroom_8 rfl rfl ?_
  refine m_callV hC (t_X10_isBroom hF hl hV ha hB (x := x) (by omega)) dX10_ofBroom_9 kc_X10_isBroom kV_X10_73 hV.ob rfl rfl rfl rfl (Nat.le_of_ble_eq_true rfl) (by decide) (by decide) m_nox (fun v9 M1 h9 => ?_)
  obtain ⟨rfl, rfl⟩ := h9
  refine m_if_eq (tgt := 19) hC dX10_ofBroom_12 (by decide) b01_r (fun cb => by omega) (fun cb => ?_)
  refine m_iload_n hC 1 dX10_ofBroom_15 rfl rfl ?_
  refine m_goto (tgt := 20) hC dX10_ofBroom_16 (by decide) ?_
  refine m_imul hC dX10_ofBroom_20 ?_
  refine m_iadd hC dX10_ofBroom_21 ?_
  refine m_iload_n hC 2 dX10_ofBroom_22 rfl rfl ?_
  refine m_iadd hC dX10_ofBroom_23 ?_
  refine m_nl hC c0 (x) hV dX10_ofBroom_24 (by rw [fl_br hk]; omega) (by first | omega | (simp [hs_at] <;> omega)) (fun t ht => ht.br hk hx) ?_
  exact m_iret hC dX10_ofBroom_25 hr (by decide) (by decide) (⟨rfl, rfl⟩)

set_option maxHeartbeats 4000000 in
set_option maxRecDepth 100000 in
theorem t_X10_ofBroom_y {D : va_G} {aC : Nat → ClassId} {s0 : State} {l : Launch} (hF : m_F D aC s0) (hl : l.stackTraces = false) {a : Nat} {w g : h_T} {M : m_M} (hV : mmV a w g M) (ha : s0.heap.size ≤ a) (hB : h_B g) {x : Int} {y : Int} (hx : -2147483648 ≤ x ∧ x < 2147483648) (hy : y = 0 ∨ y = 1) : m_Met D aC s0 l yX10_ofBroom cX10_ofBroom 3 (some .int) 2 (0) (0) [.ref a, VI x, VI y] M (fun v M' => (∃ z : Int, v = some (VI z) ∧ -2147483648 ≤ z ∧ z < 2147483648) ∧ M' = M) m_nx := by
  refine m_entry (lv := [(0, .ref a), (1, VI x), (2, VI y)]) (by decide +kernel) (Nat.le_of_ble_eq_true rfl) rfl hF hl ?_
  intro p e s m args below meth c hC hr hno hnm
  change m_C D aC s0 RX10 _ _ _ _ _ _ _ _ _ at hC
  have hn := hB.n8
  refine m_aload_n hC 0 dX10_ofBroom_0 rfl rfl ?_
  refine m_getf hC dX10_ofBroom_1 kf_X10_9 hV.ob rfl ?_
  refine m_bipush hC dX10_ofBroom_4 (by decide) ?_
  refine m_iconst hC dX10_ofBroom_6 ?_
  refine m_aload_n hC 0 dX10_ofBroom_7 rfl rfl ?_
  refine m_iload_n hC 1 dX10_ofBroom_8 rfl rfl ?_
  refine m_callV hC (t_X10_isBroom hF hl hV ha hB (x := x) hx) dX10_ofBroom_9 kc_X10_isBroom kV_X10_73 hV.ob rfl rfl rfl rfl (Nat.le_of_ble_eq_true rfl) (by decide) (by decide) m_nox (fun v9 M1 h9 => ?_)
  obtain ⟨rfl, rfl⟩ := h9
  refine m_if_eq (tgt := 19) hC dX10_ofBroom_12 (by decide) b01_r (fun cb => ?_) (fun cb => ?_)
  · refine m_iconst hC dX10_ofBroom_19 ?_
    refine m_imul hC dX10_ofBroom_20 ?_
    refine m_iadd hC dX10_ofBroom_21 ?_
    refine m_iload_n hC 2 dX10_ofBroom_22 rfl rfl ?_
    refine m_iadd hC dX10_ofBroom_23 ?_
    refine m_ng hC hV dX10_ofBroom_24 (by first | (have := b01_ne.mp cb; omega) | omega) (fun z2 hz2 => ?_)
    exact m_iret hC dX10_ofBroom_25 hr (by decide) (by decide) (⟨⟨_, rfl, by assumption⟩, rfl⟩)
  · refine m_iload_n hC 1 dX10_ofBroom_15 rfl rfl ?_
    refine m_goto (tgt := 20) hC dX10_ofBroom_16 (by decide) ?_
    refine m_imul hC dX10_ofBroom_20 ?_
    refine m_iadd hC dX10_ofBroom_21 ?_
    refine m_iload_n hC 2 dX10_ofBroom_22 rfl rfl ?_
    refine m_iadd hC dX10_ofBroom_23 ?_
    refine m_ng hC hV dX10_ofBroom_24 (by first | (have := b01_ne.mp cb; omega) | omega) (fun z3 hz3 => ?_)
    exact m_iret hC dX10_ofBroom_25 hr (by decide) (by decide) (⟨⟨_, rfl, by assumption⟩, rfl⟩)

set_option maxHeartbeats 4000000 in
set_option maxRecDepth 100000 in
theorem t_X10_place {D : va_G} {aC : Nat → ClassId} {s0 : State} {l : Launch} (hF : m_F D aC s0) (hl : l.stackTraces = false) {a : Nat} {w g : h_T} {M : m_M} (hV : mmV a w g M) (ha : s0.heap.size ≤ a) (hB : h_B g) {x : Int} {y : Int} (hx : -2147483648 ≤ x ∧ x < 2147483648) : m_Met D aC s0 l yX10_place cX10_place 3 (some .int) 2 (0) (0) [.ref a, VI x, VI y] M (fun v M' => v = some (VI (26 + 5 * (if 0 ≤ x ∧ x < g 0 9 then x else 0) + y)) ∧ M' = M) m_nx := by
  refine m_entry (lv := [(0, .ref a), (1, VI x), (2, VI y)]) (by decide +kernel) (Nat.le_of_ble_eq_true rfl) rfl hF hl ?_
  intro p e s m args below meth c hC hr hno hnm
  change m_C D aC s0 RX10 _ _ _ _ _ _ _ _ _ at hC
  have hn := hB.n9
  refine m_bipush hC dX10_place_0 (by decide) ?_
  refine m_iconst hC dX10_place_2 ?_
  refine m_aload_n hC 0 dX10_place_3 rfl rfl ?_
  refine m_iload_n hC 1 dX10_place_4 rfl rfl ?_
  refine m_callV hC (t_X10_isGoblin hF hl hV ha hB (x := x) hx) dX10_place_5 kc_X10_isGoblin kV_X10_77 hV.ob rfl rfl rfl rfl (Nat.le_of_ble_eq_true rfl) (by decide) (by decide) m_nox (fun v9 M1 h9 => ?_)
  obtain ⟨rfl, rfl⟩ := h9
  refine m_if_eq (tgt := 15) hC dX10_place_8 (by decide) b01_r (fun cb => ?_) (fun cb => ?_)
  · refine m_iconst hC dX10_place_15 ?_
    refine m_imul hC dX10_place_16 ?_
    refine m_iadd hC dX10_place_17 ?_
    refine m_iload_n hC 2 dX10_place_18 rfl rfl ?_
    refine m_iadd hC dX10_place_19 ?_
    exact m_iret hC dX10_place_20 hr (by decide) (by decide) (⟨congrArg (fun z => some (VI z)) (by first | (rw [if_pos (b01_ne.mp cb)]) | (rw [if_neg (b01_eq.mp cb)])), rfl⟩)
  · refine m_iload_n hC 1 dX10_place_11 rfl rfl ?_
    refine m_goto (tgt := 16) hC dX10_place_12 (by decide) ?_
    refine m_imul hC dX10_place_16 ?_
    refine m_iadd hC dX10_place_17 ?_
    refine m_iload_n hC 2 dX10_place_18 rfl rfl ?_
    refine m_iadd hC dX10_place_19 ?_
    exact m_iret hC dX10_place_20 hr (by decide) (by decide) (⟨congrArg (fun z => some (VI z)) (by first | (rw [if_pos (b01_ne.mp cb)]) | (rw [if_neg (b01_eq.mp cb)])), rfl⟩)

set_option maxHeartbeats 4000000 in
set_option maxRecDepth 100000 in
theorem t_X10_of {D : va_G} {aC : Nat → ClassId} {s0 : State} {l : Launch} (hF : m_F D aC s0) (hl : l.stackTraces = false) {a : Nat} {w g : h_T} {M : m_M} (hV : mmV a w g M) (ha : s0.heap.size ≤ a) (hB : h_B g) {x : Int} {y : Int} (c0 : Nat) (hc : (c0 : Int) = 4 + y) (hk : 4 ≤ c0 ∧ c0 ≤ 8) (hx : 0 ≤ x ∧ x < g 0 9) : m_Met D aC s0 l yX10_of cX10_of 3 (some .int) 3 (0) (0) [.ref a, VI x, VI y] M (fun v M' => v = some (VI (g c0 x)) ∧ M' = M) m_nx := by
  refine m_entry (lv := [(0, .ref a), (1, VI x), (2, VI y)]) (by decide +kernel) (Nat.le_of_ble_eq_true rfl) rfl hF hl ?_
  intro p e s m args below meth c hC hr hno hnm
  change m_C D aC s0 RX10 _ _ _ _ _ _ _ _ _ at hC
  have hn := hB.n9
  refine m_aload_n hC 0 dX10_of_0 rfl rfl ?_
  refine m_getf hC dX10_of_1 kf_X10_9 hV.ob rfl ?_
  refine m_aload_n hC 0 dX10_of_4 rfl rfl ?_
  refine m_iload_n hC 1 dX10_of_5 rfl rfl ?_
  refine m_iload_n hC 2 dX10_of_6 rfl rfl ?_
  refine m_callV hC (t_X10_place hF hl hV ha hB (x := x) (y := y) (by omega)) dX10_of_7 kc_X10_place kV_X10_80 hV.ob rfl rfl rfl rfl (Nat.le_of_ble_eq_true rfl) (by decide) (by decide) m_nox (fun v9 M1 h9 => ?_)
  obtain ⟨rfl, rfl⟩ := h9
  rw [if_pos hx]
  refine m_nl hC c0 (x) hV dX10_of_10 (by rw [fl_go hk]; omega) (by first | omega | (simp [hs_at] <;> omega)) (fun t ht => ht.go hk hx) ?_
  exact m_iret hC dX10_of_11 hr (by decide) (by decide) (⟨rfl, rfl⟩)

set_option maxHeartbeats 4000000 in
set_option maxRecDepth 100000 in
theorem t_X10_of_y {D : va_G} {aC : Nat → ClassId} {s0 : State} {l : Launch} (hF : m_F D aC s0) (hl : l.stackTraces = false) {a : Nat} {w g : h_T} {M : m_M} (hV : mmV a w g M) (ha : s0.heap.size ≤ a) (hB : h_B g) {x : Int} {y : Int} (hx : -2147483648 ≤ x ∧ x < 2147483648) (hy : 0 ≤ y ∧ y ≤ 4) : m_Met D aC s0 l yX10_of cX10_of 3 (some .int) 3 (0) (0) [.ref a, VI x, VI y] M (fun v M' => (∃ z : Int, v = some (VI z) ∧ -2147483648 ≤ z ∧ z < 2147483648) ∧ M' = M) m_nx := by
  refine m_entry (lv := [(0, .ref a), (1, VI x), (2, VI y)]) (by decide +kernel) (Nat.le_of_ble_eq_true rfl) rfl hF hl ?_
  intro p e s m args below meth c hC hr hno hnm
  change m_C D aC s0 RX10 _ _ _ _ _ _ _ _ _ at hC
  have hn := hB.n9
  refine m_aload_n hC 0 dX10_of_0 rfl rfl ?_
  refine m_getf hC dX10_of_1 kf_X10_9 hV.ob rfl ?_
  refine m_aload_n hC 0 dX10_of_4 rfl rfl ?_
  refine m_iload_n hC 1 dX10_of_5 rfl rfl ?_
  refine m_iload_n hC 2 dX10_of_6 rfl rfl ?_
  refine m_callV hC (t_X10_place hF hl hV ha hB (x := x) (y := y) hx) dX10_of_7 kc_X10_place kV_X10_80 hV.ob rfl rfl rfl rfl (Nat.le_of_ble_eq_true rfl) (by decide) (by decide) m_nox (fun v9 M1 h9 => ?_)
  obtain ⟨rfl, rfl⟩ := h9
  refine m_ng hC hV dX10_of_10 (by split <;> omega) (fun z2 hz2 => ?_)
  exact m_iret hC dX10_of_11 hr (by decide) (by decide) (⟨⟨_, rfl, by assumption⟩, rfl⟩)

set_option maxHeartbeats 4000000 in
set_option maxRecDepth 100000 in
theorem t_X10_ofContract {D : va_G} {aC : Nat → ClassId} {s0 : State} {l : Launch} (hF : m_F D aC s0) (hl : l.stackTraces = false) {a : Nat} {w g : h_T} {M : m_M} (hV : mmV a w g M) (ha : s0.heap.size ≤ a) (hB : h_B g) {x : Int} {y : Int} (c0 : Nat) (hc : (c0 : Int) = 9 + y) (hk : 9 ≤ c0 ∧ c0 ≤ 13) (hx : 0 ≤ x ∧ x < g 0 11) : m_Met D aC s0 l yX10_ofContract cX10_ofContract 3 (some .int) 0 (0) (0) [.ref a, VI x, VI y] M (fun v M' => v = some (VI (g c0 x)) ∧ M' = M) m_nx := by
  refine m_entry (lv := [(0, .ref a), (1, VI x), (2, VI y)]) (by decide +kernel) (Nat.le_of_ble_eq_true rfl) rfl hF hl ?_
  intro p e s m args below meth c hC hr hno hnm
  change m_C D aC s0 RX10 _ _ _ _ _ _ _ _ _ at hC
  have hn := hB.n11
  refine m_aload_n hC 0 dX10_ofContract_0 rfl rfl ?_
  refine m_getf hC dX10_ofContract_1 kf_X10_9 hV.ob rfl ?_
  refine m_bipush hC dX10_ofContract_4 (by decide) ?_
  refine m_iconst hC dX10_ofContract_6 ?_
  refine m_iload_n hC 1 dX10_ofContract_7 rfl rfl ?_
  refine m_imul hC dX10_ofContract_8 ?_
  refine m_iadd hC dX10_ofContract_9 ?_
  refine m_iload_n hC 2 dX10_ofContract_10 rfl rfl ?_
  refine m_iadd hC dX10_ofContract_11 ?_
  refine m_nl hC c0 (x) hV dX10_ofContract_12 (by rw [fl_co hk.1]; omega) (by first | omega | (simp [hs_at] <;> omega)) (fun t ht => ht.co hk hx) ?_
  exact m_iret hC dX10_ofContract_13 hr (by decide) (by decide) (⟨rfl, rfl⟩)

set_option maxHeartbeats 4000000 in
set_option maxRecDepth 100000 in
theorem t_X10_inUse {D : va_G} {aC : Nat → ClassId} {s0 : State} {l : Launch} (hF : m_F D aC s0) (hl : l.stackTraces = false) {a : Nat} {w g : h_T} {M : m_M} (hV : mmV a w g M) (ha : s0.heap.size ≤ a) (hB : h_B g)   : m_Met D aC s0 l yX10_inUse cX10_inUse 3 (some .int) 3 (0) (0) [.ref a] M (fun v M' => v = some (VI (S_inUse g)) ∧ M' = M) m_nx := by
  refine m_entry (lv := [(0, .ref a)]) (by decide +kernel) (Nat.le_of_ble_eq_true rfl) rfl hF hl ?_
  intro p e s m args below meth c hC hr hno hnm
  change m_C D aC s0 RX10 _ _ _ _ _ _ _ _ _ at hC
  have hn8 := hB.n8
  refine m_iconst hC dX10_inUse_0 ?_
  refine m_istore_n hC dX10_inUse_1 rfl (by decide) rfl ?_
  refine m_iconst hC dX10_inUse_2 ?_
  refine m_istore_n hC dX10_inUse_3 rfl (by decide) rfl ?_
  have L : ∀ (n : Nat) (i q : Int), g 0 8 - i < (n : Int) → 0 ≤ i → i ≤ g 0 8 → q = h_sum (fun j => 1 - g 3 j) i.toNat → m_W D aC s0 3 p l e (m_R 3 (0) (0)) s m args below meth c (0) (0) (m_Q D aC s0 below (fun v M' => v = some (VI (S_inUse g)) ∧ M' = M) m_nx args s (0) (0)) 4 [(2, VI i), (1, VI q), (0, .ref a)] [] M := by
    intro n
    induction n with
    | zero =>
      intro i q hn h0 h1 hq
      omega
    | succ n ih =>
      intro i q hn h0 h1 hq
      refine m_iload_n hC 0 dX10_inUse_4 rfl rfl ?_
      refine m_aload_n hC 2 dX10_inUse_5 rfl rfl ?_
      refine m_getf hC dX10_inUse_6 kf_X10_9 hV.ob rfl ?_
      refine m_bipush hC dX10_inUse_9 (by decide) ?_
      refine m_n0 hC hV dX10_inUse_11 (by decide) ?_
      refine m_icmp_ge (tgt := 32) hC dX10_inUse_12 (by decide) (by first | omega | (simp [hs_at] <;> omega)) (fun c1 => ?_) (fun c1 => ?_)
      · refine m_iload_n hC 1 dX10_inUse_32 rfl rfl ?_
        exact m_iret hC dX10_inUse_33 hr (by decide) (by decide) (⟨by rw [hq]; congr 2; congr 1; congr 1; omega, rfl⟩)
      · refine m_iload_n hC 1 dX10_inUse_15 rfl rfl ?_
        refine m_iconst hC dX10_inUse_16 ?_
        refine m_aload_n hC 2 dX10_inUse_17 rfl rfl ?_
        refine m_iload_n hC 0 dX10_inUse_18 rfl rfl ?_
        refine m_iconst hC dX10_inUse_19 ?_
        refine m_callV hC (t_X10_ofBroom hF hl hV ha hB (x := i) (y := 1) 3 rfl (by decide) (by omega)) dX10_inUse_20 kc_X10_ofBroom kV_X10_87 hV.ob rfl rfl rfl rfl (Nat.le_of_ble_eq_true rfl) (by decide) (by decide) m_nox (fun v9 M2 h9 => ?_)
        obtain ⟨rfl, rfl⟩ := h9
        refine m_isub hC dX10_inUse_23 ?_
        refine m_iadd hC dX10_inUse_24 ?_
        refine m_istore_n hC dX10_inUse_25 rfl (by decide) rfl ?_
        refine m_iinc hC 1 dX10_inUse_26 rfl (by decide) rfl ?_
        refine m_goto (tgt := 4) hC dX10_inUse_29 (by decide) ?_
        refine m_lvs [0, 1, 2] rfl (ih (i + 1) _ (by omega) (by omega) (by omega) (by rw [h_sum_succ _ h0, hq]; try omega))
  refine m_lvs [0, 1, 2] rfl (L ((g 0 8 - 0).toNat + 1) 0 0 (by omega) (by omega) (by omega) rfl)

set_option maxHeartbeats 4000000 in
set_option maxRecDepth 100000 in
theorem t_X10_greatestPower {D : va_G} {aC : Nat → ClassId} {s0 : State} {l : Launch} (hF : m_F D aC s0) (hl : l.stackTraces = false) {a : Nat} {w g : h_T} {M : m_M} (hV : mmV a w g M) (ha : s0.heap.size ≤ a) (hB : h_B g)   : m_Met D aC s0 l yX10_greatestPower cX10_greatestPower 3 (some .int) 3 (0) (0) [.ref a] M (fun v M' => v = some (VI (S_great g)) ∧ M' = M) m_nx := by
  refine m_entry (lv := [(0, .ref a)]) (by decide +kernel) (Nat.le_of_ble_eq_true rfl) rfl hF hl ?_
  intro p e s m args below meth c hC hr hno hnm
  change m_C D aC s0 RX10 _ _ _ _ _ _ _ _ _ at hC
  have hn8 := hB.n8
  refine m_iconst hC dX10_greatestPower_0 ?_
  refine m_istore_n hC dX10_greatestPower_1 rfl (by decide) rfl ?_
  refine m_iconst hC dX10_greatestPower_2 ?_
  refine m_istore_n hC dX10_greatestPower_3 rfl (by decide) rfl ?_
  have L : ∀ (n : Nat) (i q : Int), g 0 8 - i < (n : Int) → 0 ≤ i → i ≤ g 0 8 → q = h_max (fun j => if g 3 j = 0 then g 2 j else 0) i.toNat → m_W D aC s0 3 p l e (m_R 3 (0) (0)) s m args below meth c (0) (0) (m_Q D aC s0 below (fun v M' => v = some (VI (S_great g)) ∧ M' = M) m_nx args s (0) (0)) 4 [(2, VI i), (1, VI q), (0, .ref a)] [] M := by
    intro n
    induction n with
    | zero =>
      intro i q hn h0 h1 hq
      omega
    | succ n ih =>
      intro i q hn h0 h1 hq
      refine m_iload_n hC 0 dX10_greatestPower_4 rfl rfl ?_
      refine m_aload_n hC 2 dX10_greatestPower_5 rfl rfl ?_
      refine m_getf hC dX10_greatestPower_6 kf_X10_9 hV.ob rfl ?_
      refine m_bipush hC dX10_greatestPower_9 (by decide) ?_
      refine m_n0 hC hV dX10_greatestPower_11 (by decide) ?_
      refine m_icmp_ge (tgt := 46) hC dX10_greatestPower_12 (by decide) (by first | omega | (simp [hs_at] <;> omega)) (fun c1 => ?_) (fun c1 => ?_)
      · refine m_iload_n hC 1 dX10_greatestPower_46 rfl rfl ?_
        exact m_iret hC dX10_greatestPower_47 hr (by decide) (by decide) (⟨by rw [hq]; congr 2; congr 1; congr 1; omega, rfl⟩)
      · have hbr := hB.br (i := i) (by omega)
        have hs := h_max_bd (f := (fun j => if g 3 j = 0 then g 2 j else 0)) (B := 20) (n := i) (by omega) (fun j hj => by have := (hB.br (i := j) (by omega)).2.1; split <;> omega)
        refine m_aload_n hC 2 dX10_greatestPower_15 rfl rfl ?_
        refine m_iload_n hC 0 dX10_greatestPower_16 rfl rfl ?_
        refine m_iconst hC dX10_greatestPower_17 ?_
        refine m_callV hC (t_X10_ofBroom hF hl hV ha hB (x := i) (y := 1) 3 rfl (by decide) (by omega)) dX10_greatestPower_18 kc_X10_ofBroom kV_X10_87 hV.ob rfl rfl rfl rfl (Nat.le_of_ble_eq_true rfl) (by decide) (by decide) m_nox (fun v9 M2 h9 => ?_)
        obtain ⟨rfl, rfl⟩ := h9
        refine m_iconst hC dX10_greatestPower_21 ?_
        refine m_icmp_ne (tgt := 29) hC dX10_greatestPower_22 (by decide) (by first | omega | (simp [hs_at] <;> omega)) (fun cq => ?_) (fun cq => ?_)
        · refine m_iload_n hC 1 dX10_greatestPower_29 rfl rfl ?_
          refine m_aload_n hC 2 dX10_greatestPower_30 rfl rfl ?_
          refine m_iload_n hC 0 dX10_greatestPower_31 rfl rfl ?_
          refine m_iconst hC dX10_greatestPower_32 ?_
          refine m_callV hC (t_X10_ofBroom hF hl hV ha hB (x := i) (y := 0) 2 rfl (by decide) (by omega)) dX10_greatestPower_33 kc_X10_ofBroom kV_X10_87 hV.ob rfl rfl rfl rfl (Nat.le_of_ble_eq_true rfl) (by decide) (by decide) m_nox (fun v9 M3 h9 => ?_)
          obtain ⟨rfl, rfl⟩ := h9
          refine m_mmax hC dX10_greatestPower_36 kM_X10_90 (by first | omega | (simp [hs_at] <;> omega)) (by decide) (Nat.le_of_ble_eq_true rfl) (by decide) (by decide) ?_
          refine m_istore_n hC dX10_greatestPower_39 rfl (by decide) rfl ?_
          refine m_iinc hC 1 dX10_greatestPower_40 rfl (by decide) rfl ?_
          refine m_goto (tgt := 4) hC dX10_greatestPower_43 (by decide) ?_
          refine m_lvs [0, 1, 2] rfl (ih (i + 1) _ (by omega) (by omega) (by omega) (by rw [h_max_succ _ h0, hq]; first | (rw [if_pos (by omega)]) | (rw [if_neg (by omega)]; rw [← hq]; omega)))
        · refine m_iload_n hC 1 dX10_greatestPower_25 rfl rfl ?_
          refine m_goto (tgt := 39) hC dX10_greatestPower_26 (by decide) ?_
          refine m_istore_n hC dX10_greatestPower_39 rfl (by decide) rfl ?_
          refine m_iinc hC 1 dX10_greatestPower_40 rfl (by decide) rfl ?_
          refine m_goto (tgt := 4) hC dX10_greatestPower_43 (by decide) ?_
          refine m_lvs [0, 1, 2] rfl (ih (i + 1) _ (by omega) (by omega) (by omega) (by rw [h_max_succ _ h0, hq]; first | (rw [if_pos (by omega)]) | (rw [if_neg (by omega)]; rw [← hq]; omega)))
  refine m_lvs [0, 1, 2] rfl (L ((g 0 8 - 0).toNat + 1) 0 0 (by omega) (by omega) (by omega) rfl)

set_option maxHeartbeats 4000000 in
set_option maxRecDepth 100000 in
theorem t_X10_energyOf {D : va_G} {aC : Nat → ClassId} {s0 : State} {l : Launch} (hF : m_F D aC s0) (hl : l.stackTraces = false) {a : Nat} {w g : h_T} {M : m_M} (hV : mmV a w g M) (ha : s0.heap.size ≤ a) (hB : h_B g) {x : Int} (hx : 0 ≤ x ∧ x < g 0 9) : m_Met D aC s0 l yX10_energyOf cX10_energyOf 2 (some .int) 4 (0) (0) [.ref a, VI x] M (fun v M' => v = some (VI (S_energy g x)) ∧ M' = M) m_nx := by
  refine m_entry (lv := [(0, .ref a), (1, VI x)]) (by decide +kernel) (Nat.le_of_ble_eq_true rfl) rfl hF hl ?_
  intro p e s m args below meth c hC hr hno hnm
  change m_C D aC s0 RX10 _ _ _ _ _ _ _ _ _ at hC
  have hn := hB.n9
  refine m_aload_n hC 0 dX10_energyOf_0 rfl rfl ?_
  refine m_iload_n hC 1 dX10_energyOf_1 rfl rfl ?_
  refine m_iconst hC dX10_energyOf_2 ?_
  refine m_callV hC (t_X10_of hF hl hV ha hB (x := x) (y := 0) 4 rfl (by decide) hx) dX10_energyOf_3 kc_X10_of kV_X10_95 hV.ob rfl rfl rfl rfl (Nat.le_of_ble_eq_true rfl) (by decide) (by decide) m_nox (fun v9 M1 h9 => ?_)
  obtain ⟨rfl, rfl⟩ := h9
  refine m_aload_n hC 0 dX10_energyOf_6 rfl rfl ?_
  refine m_callV hC (t_X10_inUse hF hl hV ha hB) dX10_energyOf_7 kc_X10_inUse kV_X10_98 hV.ob rfl rfl rfl rfl (Nat.le_of_ble_eq_true rfl) (by decide) (by decide) m_nox (fun v9 M2 h9 => ?_)
  obtain ⟨rfl, rfl⟩ := h9
  refine m_iconst hC dX10_energyOf_10 ?_
  refine m_iadd hC dX10_energyOf_11 ?_
  refine m_imul hC dX10_energyOf_12 ?_
  exact m_iret hC dX10_energyOf_13 hr (by decide) (by decide) (⟨rfl, rfl⟩)

theorem X_fn {g : h_T} {x i : Int} (hU : h_asc g) (h0 : 0 ≤ i) (h1 : i < g 0 11) (h : g 9 i = x) : i = h_find (fun i => decide (g 9 i = x)) (i + 1).toNat 0 := by
  rw [h_find_up h0]
  rcases h_find_rg (p := fun i => decide (g 9 i = x)) i.toNat 0 (by omega) with q | ⟨q1, q2, q3, -⟩
  · rw [q, if_pos rfl, if_pos (decide_eq_true h)]
  · have := hU _ i q1 (by omega) h1
    have e : g 9 (h_find (fun i => decide (g 9 i = x)) i.toNat 0) = x := of_decide_eq_true q3
    omega
theorem X_fk {g : h_T} {x i q : Int} (h0 : 0 ≤ i) (hq : q = h_find (fun i => decide (g 9 i = x)) i.toNat 0) (h : ¬ g 9 i = x) : q = h_find (fun i => decide (g 9 i = x)) (i + 1).toNat 0 := by
  rw [h_find_up h0, ← hq]
  by_cases hz : q = -1
  · rw [if_pos hz, if_neg (by simpa using h)]
    exact hz
  · rw [if_neg hz]
set_option maxHeartbeats 4000000 in
set_option maxRecDepth 100000 in
theorem t_X10_find {D : va_G} {aC : Nat → ClassId} {s0 : State} {l : Launch} (hF : m_F D aC s0) (hl : l.stackTraces = false) {a : Nat} {w g : h_T} {M : m_M} (hV : mmV a w g M) (ha : s0.heap.size ≤ a) (hB : h_B g) {x : Int} (hx : -2147483648 ≤ x ∧ x < 2147483648) (hU : h_asc g) : m_Met D aC s0 l yX10_find cX10_find 4 (some .int) 2 (0) (0) [.ref a, VI x] M (fun v M' => v = some (VI (S_pos g x)) ∧ M' = M) m_nx := by
  refine m_entry (lv := [(0, .ref a), (1, VI x)]) (by decide +kernel) (Nat.le_of_ble_eq_true rfl) rfl hF hl ?_
  intro p e s m args below meth c hC hr hno hnm
  change m_C D aC s0 RX10 _ _ _ _ _ _ _ _ _ at hC
  have hn11 := hB.n11
  refine m_iconst hC dX10_find_0 ?_
  refine m_istore_n hC dX10_find_1 rfl (by decide) rfl ?_
  refine m_iconst hC dX10_find_2 ?_
  refine m_istore_n hC dX10_find_3 rfl (by decide) rfl ?_
  have L : ∀ (n : Nat) (i q : Int), g 0 11 - i < (n : Int) → 0 ≤ i → i ≤ g 0 11 → q = h_find (fun i => decide (g 9 i = x)) i.toNat 0 → m_W D aC s0 4 p l e (m_R 2 (0) (0)) s m args below meth c (0) (0) (m_Q D aC s0 below (fun v M' => v = some (VI (S_pos g x)) ∧ M' = M) m_nx args s (0) (0)) 4 [(3, VI i), (2, VI q), (1, VI x), (0, .ref a)] [] M := by
    intro n
    induction n with
    | zero =>
      intro i q hn h0 h1 hq
      omega
    | succ n ih =>
      intro i q hn h0 h1 hq
      refine m_iload_n hC 0 dX10_find_4 rfl rfl ?_
      refine m_aload_n hC 3 dX10_find_5 rfl rfl ?_
      refine m_getf hC dX10_find_6 kf_X10_9 hV.ob rfl ?_
      refine m_bipush hC dX10_find_9 (by decide) ?_
      refine m_n0 hC hV dX10_find_11 (by decide) ?_
      refine m_icmp_ge (tgt := 37) hC dX10_find_12 (by decide) (by first | omega | (simp [hs_at] <;> omega)) (fun c1 => ?_) (fun c1 => ?_)
      · refine m_iload_n hC 1 dX10_find_37 rfl rfl ?_
        exact m_iret hC dX10_find_38 hr (by decide) (by decide) (⟨by rw [hq]; unfold S_pos; congr 2; congr 1; congr 1; omega, rfl⟩)
      · have hco := hB.co (i := i) (by omega)
        refine m_aload_n hC 3 dX10_find_15 rfl rfl ?_
        refine m_iload_n hC 0 dX10_find_16 rfl rfl ?_
        refine m_iconst hC dX10_find_17 ?_
        refine m_callV hC (t_X10_ofContract hF hl hV ha hB (x := i) (y := 0) 9 rfl (by decide) (by omega)) dX10_find_18 kc_X10_ofContract kV_X10_84 hV.ob rfl rfl rfl rfl (Nat.le_of_ble_eq_true rfl) (by decide) (by decide) m_nox (fun v9 M2 h9 => ?_)
        obtain ⟨rfl, rfl⟩ := h9
        refine m_iload_n hC 2 dX10_find_21 rfl rfl ?_
        refine m_icmp_ne (tgt := 29) hC dX10_find_22 (by decide) (by first | omega | (simp [hs_at] <;> omega)) (fun cq => ?_) (fun cq => ?_)
        · refine m_iload_n hC 1 dX10_find_29 rfl rfl ?_
          refine m_istore_n hC dX10_find_30 rfl (by decide) rfl ?_
          refine m_iinc hC 1 dX10_find_31 rfl (by decide) rfl ?_
          refine m_goto (tgt := 4) hC dX10_find_34 (by decide) ?_
          refine m_lvs [0, 1, 2, 3] rfl (ih (i + 1) _ (by omega) (by omega) (by omega) (by first | exact X_fn hU h0 (by omega) (by omega) | exact X_fk h0 hq (by omega)))
        · refine m_iload_n hC 0 dX10_find_25 rfl rfl ?_
          refine m_goto (tgt := 30) hC dX10_find_26 (by decide) ?_
          refine m_istore_n hC dX10_find_30 rfl (by decide) rfl ?_
          refine m_iinc hC 1 dX10_find_31 rfl (by decide) rfl ?_
          refine m_goto (tgt := 4) hC dX10_find_34 (by decide) ?_
          refine m_lvs [0, 1, 2, 3] rfl (ih (i + 1) _ (by omega) (by omega) (by omega) (by first | exact X_fn hU h0 (by omega) (by omega) | exact X_fk h0 hq (by omega)))
  refine m_lvs [0, 1, 3, 2] rfl (L ((g 0 11 - 0).toNat + 1) 0 (-1) (by omega) (by omega) (by omega) rfl)

theorem X_h1 {g : h_T} {x y i q : Int} (h0 : 0 ≤ i) (hq : q = b01 (h_find (fun i => decide (g 10 i = x ∧ g 11 i = y)) i.toNat 0 ≠ -1)) (c : q ≠ 0) : 1 = b01 (h_find (fun i => decide (g 10 i = x ∧ g 11 i = y)) (i + 1).toNat 0 ≠ -1) := by
  rw [hq] at c
  have c := b01_ne.mp c
  rw [h_find_up h0, if_neg c]
  exact (b01_t c).symm
theorem X_h2 {g : h_T} {x y i q z : Int} (h0 : 0 ≤ i) (hq : q = b01 (h_find (fun i => decide (g 10 i = x ∧ g 11 i = y)) i.toNat 0 ≠ -1)) (c : q = 0) (hz : z = b01 (g 10 i = x ∧ g 11 i = y)) : z = b01 (h_find (fun i => decide (g 10 i = x ∧ g 11 i = y)) (i + 1).toNat 0 ≠ -1) := by
  rw [hq] at c
  have c : h_find (fun i => decide (g 10 i = x ∧ g 11 i = y)) i.toNat 0 = -1 := by simpa using b01_eq.mp c
  rw [h_find_up h0, if_pos c, hz]
  refine b01_c ?_
  by_cases q : g 10 i = x ∧ g 11 i = y
  · rw [if_pos (decide_eq_true q)]
    exact ⟨fun _ => by omega, fun _ => q⟩
  · rw [if_neg (by simpa using q)]
    exact ⟨fun z => absurd z q, fun z => absurd rfl z⟩
set_option maxHeartbeats 4000000 in
set_option maxRecDepth 100000 in
theorem t_X10_hasFor {D : va_G} {aC : Nat → ClassId} {s0 : State} {l : Launch} (hF : m_F D aC s0) (hl : l.stackTraces = false) {a : Nat} {w g : h_T} {M : m_M} (hV : mmV a w g M) (ha : s0.heap.size ≤ a) (hB : h_B g) {x : Int} {y : Int} (hx : -2147483648 ≤ x ∧ x < 2147483648) (hy : -2147483648 ≤ y ∧ y < 2147483648) : m_Met D aC s0 l yX10_hasFor cX10_hasFor 5 (some .boolean) 1 (0) (0) [.ref a, VI x, VI y] M (fun v M' => v = some (VI (b01 (S_has g x y = true))) ∧ M' = M) m_nx := by
  refine m_entry (lv := [(0, .ref a), (1, VI x), (2, VI y)]) (by decide +kernel) (Nat.le_of_ble_eq_true rfl) rfl hF hl ?_
  intro p e s m args below meth c hC hr hno hnm
  change m_C D aC s0 RX10 _ _ _ _ _ _ _ _ _ at hC
  have hn11 := hB.n11
  refine m_iconst hC dX10_hasFor_0 ?_
  refine m_istore_n hC dX10_hasFor_1 rfl (by decide) rfl ?_
  refine m_iconst hC dX10_hasFor_2 ?_
  refine m_istore hC dX10_hasFor_3 (by decide) rfl ?_
  have L : ∀ (n : Nat) (i q : Int), g 0 11 - i < (n : Int) → 0 ≤ i → i ≤ g 0 11 → q = b01 (h_find (fun i => decide (g 10 i = x ∧ g 11 i = y)) i.toNat 0 ≠ -1) → m_W D aC s0 5 p l e (m_R 1 (0) (0)) s m args below meth c (0) (0) (m_Q D aC s0 below (fun v M' => v = some (VI (b01 (S_has g x y = true))) ∧ M' = M) m_nx args s (0) (0)) 5 [(4, VI i), (3, VI q), (2, VI y), (1, VI x), (0, .ref a)] [] M := by
    intro n
    induction n with
    | zero =>
      intro i q hn h0 h1 hq
      omega
    | succ n ih =>
      intro i q hn h0 h1 hq
      refine m_iload hC 0 dX10_hasFor_5 rfl ?_
      refine m_aload_n hC 4 dX10_hasFor_7 rfl rfl ?_
      refine m_getf hC dX10_hasFor_8 kf_X10_9 hV.ob rfl ?_
      refine m_bipush hC dX10_hasFor_11 (by decide) ?_
      refine m_n0 hC hV dX10_hasFor_13 (by decide) ?_
      refine m_icmp_ge (tgt := 55) hC dX10_hasFor_14 (by decide) (by first | omega | (simp [hs_at] <;> omega)) (fun c1 => ?_) (fun c1 => ?_)
      · refine m_iload_n hC 1 dX10_hasFor_55 rfl rfl ?_
        exact m_zret hC dX10_hasFor_56 hr (by rw [hq]; exact b01_nz) (by decide) (by decide) (⟨by rw [hq]; congr 2; refine b01_c ?_; unfold S_has; rw [decide_eq_true_eq, show i.toNat = (g 0 11).toNat by omega], rfl⟩)
      · have hco := hB.co (i := i) (by omega)
        have hn9 := hB.n9
        refine m_iload_n hC 1 dX10_hasFor_17 rfl rfl ?_
        refine m_if_ne (tgt := 43) hC dX10_hasFor_18 (by decide) (by rw [hq]; exact b01_r) (fun cq => ?_) (fun cq => ?_)
        · refine m_iconst hC dX10_hasFor_43 ?_
          refine m_goto (tgt := 48) hC dX10_hasFor_44 (by decide) ?_
          refine m_istore_n hC dX10_hasFor_48 rfl (by decide) rfl ?_
          refine m_iinc hC 1 dX10_hasFor_49 rfl (by decide) rfl ?_
          refine m_goto (tgt := 5) hC dX10_hasFor_52 (by decide) ?_
          refine m_lvs [0, 1, 2, 3, 4] rfl (ih (i + 1) _ (by omega) (by omega) (by omega) (by first | exact X_h1 h0 hq cq | exact X_h2 h0 hq cq (by first | rfl | exact b01_c (by omega) | exact (b01_f (by omega)).symm)))
        · refine m_aload_n hC 4 dX10_hasFor_21 rfl rfl ?_
          refine m_iload hC 0 dX10_hasFor_22 rfl ?_
          refine m_iconst hC dX10_hasFor_24 ?_
          refine m_callV hC (t_X10_ofContract hF hl hV ha hB (x := i) (y := 1) 10 rfl (by decide) (by omega)) dX10_hasFor_25 kc_X10_ofContract kV_X10_84 hV.ob rfl rfl rfl rfl (Nat.le_of_ble_eq_true rfl) (by decide) (by decide) m_nox (fun v9 M2 h9 => ?_)
          obtain ⟨rfl, rfl⟩ := h9
          refine m_iload_n hC 3 dX10_hasFor_28 rfl rfl ?_
          refine m_icmp_ne (tgt := 47) hC dX10_hasFor_29 (by decide) (by first | omega | (simp [hs_at] <;> omega)) (fun c3 => ?_) (fun c3 => ?_)
          · refine m_iconst hC dX10_hasFor_47 ?_
            refine m_istore_n hC dX10_hasFor_48 rfl (by decide) rfl ?_
            refine m_iinc hC 1 dX10_hasFor_49 rfl (by decide) rfl ?_
            refine m_goto (tgt := 5) hC dX10_hasFor_52 (by decide) ?_
            refine m_lvs [0, 1, 2, 3, 4] rfl (ih (i + 1) _ (by omega) (by omega) (by omega) (by first | exact X_h1 h0 hq cq | exact X_h2 h0 hq cq (by first | rfl | exact b01_c (by omega) | exact (b01_f (by omega)).symm)))
          · refine m_aload_n hC 4 dX10_hasFor_32 rfl rfl ?_
            refine m_iload hC 0 dX10_hasFor_33 rfl ?_
            refine m_iconst hC dX10_hasFor_35 ?_
            refine m_callV hC (t_X10_ofContract hF hl hV ha hB (x := i) (y := 2) 11 rfl (by decide) (by omega)) dX10_hasFor_36 kc_X10_ofContract kV_X10_84 hV.ob rfl rfl rfl rfl (Nat.le_of_ble_eq_true rfl) (by decide) (by decide) m_nox (fun v9 M4 h9 => ?_)
            obtain ⟨rfl, rfl⟩ := h9
            refine m_iload_n hC 2 dX10_hasFor_39 rfl rfl ?_
            refine m_dia_icmp_ne hC dX10_hasFor_40 dX10_hasFor_43 dX10_hasFor_44 dX10_hasFor_47 rfl rfl (by first | omega | (simp [hs_at] <;> omega)) ?_
            refine m_istore_n hC dX10_hasFor_48 rfl (by decide) rfl ?_
            refine m_iinc hC 1 dX10_hasFor_49 rfl (by decide) rfl ?_
            refine m_goto (tgt := 5) hC dX10_hasFor_52 (by decide) ?_
            refine m_lvs [0, 1, 2, 3, 4] rfl (ih (i + 1) _ (by omega) (by omega) (by omega) (by first | exact X_h1 h0 hq cq | exact X_h2 h0 hq cq (by first | rfl | exact b01_c (by omega) | exact (b01_f (by omega)).symm)))
  refine m_lvs [0, 1, 4, 3, 2] rfl (L ((g 0 11 - 0).toNat + 1) 0 0 (by omega) (by omega) (by omega) rfl)

