theorem h_B.st {g : h_T} (h : h_B g) {c : Nat} {i v : Int} (hc : c = 3 ∨ c = 8) (hv : v = 0 ∨ v = 1) : h_B (hs g c i v) := by
  have e0 : hs g c i v 0 = g 0 := hs_c (by omega)
  have e : ∀ c', c' ≠ c → hs g c i v c' = g c' := fun c' q => hs_c q
  have e3 : ∀ c' j, c' = c → (hs g c i v c' j = v ∨ hs g c i v c' j = g c' j) := fun c' j _ => by
    rw [hs_at]; split
    · exact Or.inl rfl
    · exact Or.inr rfl
  obtain ⟨h0, h1, h2, h3, h4, h5, h6, h7⟩ := h
  unfold h_B
  rw [e0, e 1 (by omega), e 2 (by omega), e 4 (by omega), e 5 (by omega), e 6 (by omega), e 7 (by omega), e 9 (by omega), e 10 (by omega), e 11 (by omega), e 12 (by omega), e 13 (by omega)]
  refine ⟨h0, h1, h2, h3, h4, fun j hj => ?_, fun j hj => ?_, h7⟩
  · have a := h5 j hj
    refine ⟨a.1, a.2.1, ?_⟩
    by_cases q : (3 : Nat) = c
    · rcases e3 3 j q with w | w <;> rw [w]
      · exact hv
      · exact a.2.2
    · rw [e 3 q]; exact a.2.2
  · have a := h6 j hj
    refine ⟨a.1, a.2.1, a.2.2.1, a.2.2.2.1, a.2.2.2.2.1, a.2.2.2.2.2.1, a.2.2.2.2.2.2.1, a.2.2.2.2.2.2.2.1, ?_⟩
    by_cases q : (8 : Nat) = c
    · rcases e3 8 j q with w | w <;> rw [w]
      · exact hv
      · exact a.2.2.2.2.2.2.2.2
    · rw [e 8 q]; exact a.2.2.2.2.2.2.2.2
theorem h_B.st3 {g : h_T} (h : h_B g) {i v : Int} (hi : 0 ≤ i) (hv : v = 0 ∨ v = 1) : h_B (hs g 3 i v) := h.st (Or.inl rfl) hv
theorem h_B.st8 {g : h_T} (h : h_B g) {i v : Int} (hi : 0 ≤ i) (hv : v = 0 ∨ v = 1) : h_B (hs g 8 i v) := h.st (Or.inr rfl) hv
set_option maxHeartbeats 4000000 in
set_option maxRecDepth 100000 in
theorem t_X7_takeGoblin {D : va_G} {aC : Nat → ClassId} {s0 : State} {l : Launch} (hF : m_F D aC s0) (hl : l.stackTraces = false) {b : Nat} {g : h_T} {M : m_M} (hR : hhR b g M) (hB : h_B g) (hb : s0.heap.size ≤ b) {x : Int} (hx : -2147483648 ≤ x ∧ x < 2147483648) : m_Met D aC s0 l yX7_takeGoblin cX7_takeGoblin 3 (some .int) 0 (0) (0) [.ref b, VI x] M (h_op b M (S_addGoblin g x)) m_nx := by
  refine m_entry (lv := [(0, .ref b), (1, VI x)]) (by decide +kernel) (Nat.le_of_ble_eq_true rfl) rfl hF hl ?_
  intro p e s m args below meth c hC hr hno hnm
  change m_C D aC s0 RX7 _ _ _ _ _ _ _ _ _ at hC
  obtain ⟨t, hP, he, hbt⟩ := hR
  have e9 := he.s 9 (by omega)
  have hn9 := hB.n9
  refine m_iload_n hC 1 dX7_takeGoblin_0 rfl rfl ?_
  refine m_iconst hC dX7_takeGoblin_1 ?_
  refine m_icmp_lt (tgt := 11) hC dX7_takeGoblin_2 (by decide) (by first | omega | (simp [hs_at] <;> omega)) (fun c1 => ?_) (fun c1 => ?_)
  · refine m_bipush hC dX7_takeGoblin_11 (by decide) ?_
    exact m_iret hC dX7_takeGoblin_13 hr (by decide) (by decide) (h_op.mk (by unfold S_addGoblin; rw [if_pos (by omega)]; try rfl) ⟨t, hP, he, hbt⟩ m_fr.rf)
  · refine m_iload_n hC 1 dX7_takeGoblin_5 rfl rfl ?_
    refine m_bipush hC dX7_takeGoblin_6 (by decide) ?_
    refine m_icmp_le (tgt := 14) hC dX7_takeGoblin_8 (by decide) (by first | omega | (simp [hs_at] <;> omega)) (fun c2 => ?_) (fun c2 => ?_)
    · refine m_aload_n hC 0 dX7_takeGoblin_14 rfl rfl ?_
      refine m_getf hC dX7_takeGoblin_15 kf_X7_25 hP.1 rfl ?_
      refine m_getf hC dX7_takeGoblin_18 kf_X7_130 hP.2.2.2.1.1 rfl ?_
      refine m_istore_n hC dX7_takeGoblin_21 rfl (by decide) rfl ?_
      refine m_iload_n hC 0 dX7_takeGoblin_22 rfl rfl ?_
      refine m_iconst hC dX7_takeGoblin_23 ?_
      refine m_icmp_lt (tgt := 30) hC dX7_takeGoblin_24 (by decide) (by first | omega | (simp [hs_at] <;> omega)) (fun c3 => ?_) (fun c3 => ?_)
      · refine m_aload_n hC 1 dX7_takeGoblin_30 rfl rfl ?_
        refine m_getf hC dX7_takeGoblin_31 kf_X7_25 hP.1 rfl ?_
        refine m_getf hC dX7_takeGoblin_34 kf_X7_133 hP.2.2.2.1.1 rfl ?_
        refine m_iload_n hC 0 dX7_takeGoblin_37 rfl rfl ?_
        refine m_iload_n hC 2 dX7_takeGoblin_38 rfl rfl ?_
        refine m_hst4 hC hP hb dX7_takeGoblin_39 (by first | omega | (simp [hs_at] <;> omega)) (fun M4 R5 f6 => ?_)
        refine m_aload_n hC 1 dX7_takeGoblin_40 rfl rfl ?_
        refine m_getf hC dX7_takeGoblin_41 kf_X7_25 R5.1 rfl ?_
        refine m_getf hC dX7_takeGoblin_44 kf_X7_136 R5.2.2.2.1.1 rfl ?_
        refine m_iload_n hC 0 dX7_takeGoblin_47 rfl rfl ?_
        refine m_iconst hC dX7_takeGoblin_48 ?_
        refine m_hst5 hC R5 hb dX7_takeGoblin_49 (by first | omega | (simp [hs_at] <;> omega)) (fun M7 R8 f9 => ?_)
        refine m_aload_n hC 1 dX7_takeGoblin_50 rfl rfl ?_
        refine m_getf hC dX7_takeGoblin_51 kf_X7_25 R8.1 rfl ?_
        refine m_getf hC dX7_takeGoblin_54 kf_X7_139 R8.2.2.2.1.1 rfl ?_
        refine m_iload_n hC 0 dX7_takeGoblin_57 rfl rfl ?_
        refine m_iconst hC dX7_takeGoblin_58 ?_
        refine m_hst6 hC R8 hb dX7_takeGoblin_59 (by first | omega | (simp [hs_at] <;> omega)) (fun M10 R11 f12 => ?_)
        refine m_aload_n hC 1 dX7_takeGoblin_60 rfl rfl ?_
        refine m_getf hC dX7_takeGoblin_61 kf_X7_25 R11.1 rfl ?_
        refine m_getf hC dX7_takeGoblin_64 kf_X7_142 R11.2.2.2.1.1 rfl ?_
        refine m_iload_n hC 0 dX7_takeGoblin_67 rfl rfl ?_
        refine m_iconst hC dX7_takeGoblin_68 ?_
        refine m_hst7 hC R11 hb dX7_takeGoblin_69 (by first | omega | (simp [hs_at] <;> omega)) (fun M13 R14 f15 => ?_)
        refine m_aload_n hC 1 dX7_takeGoblin_70 rfl rfl ?_
        refine m_getf hC dX7_takeGoblin_71 kf_X7_25 R14.1 rfl ?_
        refine m_getf hC dX7_takeGoblin_74 kf_X7_145 R14.2.2.2.1.1 rfl ?_
        refine m_iload_n hC 0 dX7_takeGoblin_77 rfl rfl ?_
        refine m_iconst hC dX7_takeGoblin_78 ?_
        refine m_hst8 hC R14 hb dX7_takeGoblin_79 (by first | omega | (simp [hs_at] <;> omega)) (by first | omega | (simp [hs_at] <;> omega)) (fun M16 R17 f18 => ?_)
        refine m_aload_n hC 1 dX7_takeGoblin_80 rfl rfl ?_
        refine m_getf hC dX7_takeGoblin_81 kf_X7_25 R17.1 rfl ?_
        refine m_dup hC dX7_takeGoblin_84 rfl ?_
        refine m_getf hC dX7_takeGoblin_85 kf_X7_130 R17.2.2.2.1.1 rfl ?_
        refine m_iconst hC dX7_takeGoblin_88 ?_
        refine m_iadd hC dX7_takeGoblin_89 ?_
        refine m_hss9 hC R17 hb dX7_takeGoblin_90 kf_X7_130 (fun M19 R20 f21 => ?_)
        refine m_iload_n hC 0 dX7_takeGoblin_93 rfl rfl ?_
        exact m_iret hC dX7_takeGoblin_94 hr (by decide) (by decide) (h_op.mk (by unfold S_addGoblin; rw [if_neg (by omega), if_neg (by omega), e9]; try rfl) ⟨_, R20, he.gob x, hbt.gob x⟩ (f6.tr (f9.tr (f12.tr (f15.tr (f18.tr f21))))))
      · refine m_bipush hC dX7_takeGoblin_27 (by decide) ?_
        exact m_iret hC dX7_takeGoblin_29 hr (by decide) (by decide) (h_op.mk (by unfold S_addGoblin; rw [if_neg (by omega), if_pos (by omega)]; try rfl) ⟨t, hP, he, hbt⟩ m_fr.rf)
    · refine m_bipush hC dX7_takeGoblin_11 (by decide) ?_
      exact m_iret hC dX7_takeGoblin_13 hr (by decide) (by decide) (h_op.mk (by unfold S_addGoblin; rw [if_pos (by omega)]; try rfl) ⟨t, hP, he, hbt⟩ m_fr.rf)

set_option maxHeartbeats 4000000 in
set_option maxRecDepth 100000 in
theorem t_X7_takeBroom {D : va_G} {aC : Nat → ClassId} {s0 : State} {l : Launch} (hF : m_F D aC s0) (hl : l.stackTraces = false) {b : Nat} {g : h_T} {M : m_M} (hR : hhR b g M) (hB : h_B g) (hb : s0.heap.size ≤ b) {x : Int} (hx : -2147483648 ≤ x ∧ x < 2147483648) : m_Met D aC s0 l yX7_takeBroom cX7_takeBroom 3 (some .int) 0 (0) (0) [.ref b, VI x] M (h_op b M (S_addBroom g x)) m_nx := by
  refine m_entry (lv := [(0, .ref b), (1, VI x)]) (by decide +kernel) (Nat.le_of_ble_eq_true rfl) rfl hF hl ?_
  intro p e s m args below meth c hC hr hno hnm
  change m_C D aC s0 RX7 _ _ _ _ _ _ _ _ _ at hC
  obtain ⟨t, hP, he, hbt⟩ := hR
  have e8 := he.s 8 (by omega)
  have hn8 := hB.n8
  refine m_iload_n hC 1 dX7_takeBroom_0 rfl rfl ?_
  refine m_iconst hC dX7_takeBroom_1 ?_
  refine m_icmp_lt (tgt := 11) hC dX7_takeBroom_2 (by decide) (by first | omega | (simp [hs_at] <;> omega)) (fun c1 => ?_) (fun c1 => ?_)
  · refine m_bipush hC dX7_takeBroom_11 (by decide) ?_
    exact m_iret hC dX7_takeBroom_13 hr (by decide) (by decide) (h_op.mk (by unfold S_addBroom; rw [if_pos (by omega)]; try rfl) ⟨t, hP, he, hbt⟩ m_fr.rf)
  · refine m_iload_n hC 1 dX7_takeBroom_5 rfl rfl ?_
    refine m_bipush hC dX7_takeBroom_6 (by decide) ?_
    refine m_icmp_le (tgt := 14) hC dX7_takeBroom_8 (by decide) (by first | omega | (simp [hs_at] <;> omega)) (fun c2 => ?_) (fun c2 => ?_)
    · refine m_aload_n hC 0 dX7_takeBroom_14 rfl rfl ?_
      refine m_getf hC dX7_takeBroom_15 kf_X7_18 hP.1 rfl ?_
      refine m_getf hC dX7_takeBroom_18 kf_X7_149 hP.2.2.1.1 rfl ?_
      refine m_istore_n hC dX7_takeBroom_21 rfl (by decide) rfl ?_
      refine m_iload_n hC 0 dX7_takeBroom_22 rfl rfl ?_
      refine m_iconst hC dX7_takeBroom_23 ?_
      refine m_icmp_lt (tgt := 30) hC dX7_takeBroom_24 (by decide) (by first | omega | (simp [hs_at] <;> omega)) (fun c3 => ?_) (fun c3 => ?_)
      · refine m_aload_n hC 1 dX7_takeBroom_30 rfl rfl ?_
        refine m_getf hC dX7_takeBroom_31 kf_X7_18 hP.1 rfl ?_
        refine m_getf hC dX7_takeBroom_34 kf_X7_150 hP.2.2.1.1 rfl ?_
        refine m_iload_n hC 0 dX7_takeBroom_37 rfl rfl ?_
        refine m_iload_n hC 2 dX7_takeBroom_38 rfl rfl ?_
        refine m_hst2 hC hP hb dX7_takeBroom_39 (by first | omega | (simp [hs_at] <;> omega)) (fun M4 R5 f6 => ?_)
        refine m_aload_n hC 1 dX7_takeBroom_40 rfl rfl ?_
        refine m_getf hC dX7_takeBroom_41 kf_X7_18 R5.1 rfl ?_
        refine m_getf hC dX7_takeBroom_44 kf_X7_153 R5.2.2.1.1 rfl ?_
        refine m_iload_n hC 0 dX7_takeBroom_47 rfl rfl ?_
        refine m_iconst hC dX7_takeBroom_48 ?_
        refine m_hst3 hC R5 hb dX7_takeBroom_49 (by first | omega | (simp [hs_at] <;> omega)) (by first | omega | (simp [hs_at] <;> omega)) (fun M7 R8 f9 => ?_)
        refine m_aload_n hC 1 dX7_takeBroom_50 rfl rfl ?_
        refine m_getf hC dX7_takeBroom_51 kf_X7_18 R8.1 rfl ?_
        refine m_dup hC dX7_takeBroom_54 rfl ?_
        refine m_getf hC dX7_takeBroom_55 kf_X7_149 R8.2.2.1.1 rfl ?_
        refine m_iconst hC dX7_takeBroom_58 ?_
        refine m_iadd hC dX7_takeBroom_59 ?_
        refine m_hss8 hC R8 hb dX7_takeBroom_60 kf_X7_149 (fun M10 R11 f12 => ?_)
        refine m_iload_n hC 0 dX7_takeBroom_63 rfl rfl ?_
        exact m_iret hC dX7_takeBroom_64 hr (by decide) (by decide) (h_op.mk (by unfold S_addBroom; rw [if_neg (by omega), if_neg (by omega), e8]; try rfl) ⟨_, R11, he.bro x, hbt.bro x⟩ (f6.tr (f9.tr f12)))
      · refine m_bipush hC dX7_takeBroom_27 (by decide) ?_
        exact m_iret hC dX7_takeBroom_29 hr (by decide) (by decide) (h_op.mk (by unfold S_addBroom; rw [if_neg (by omega), if_pos (by omega)]; try rfl) ⟨t, hP, he, hbt⟩ m_fr.rf)
    · refine m_bipush hC dX7_takeBroom_11 (by decide) ?_
      exact m_iret hC dX7_takeBroom_13 hr (by decide) (by decide) (h_op.mk (by unfold S_addBroom; rw [if_pos (by omega)]; try rfl) ⟨t, hP, he, hbt⟩ m_fr.rf)

set_option maxHeartbeats 4000000 in
set_option maxRecDepth 100000 in
theorem t_X7_putBroomAway {D : va_G} {aC : Nat → ClassId} {s0 : State} {l : Launch} (hF : m_F D aC s0) (hl : l.stackTraces = false) {b : Nat} {g : h_T} {M : m_M} (hR : hhR b g M) (hB : h_B g) (hb : s0.heap.size ≤ b) {x : Int} (hx : -2147483648 ≤ x ∧ x < 2147483648) : m_Met D aC s0 l yX7_putBroomAway cX7_putBroomAway 2 (some .int) 1 (0) (0) [.ref b, VI x] M (h_op b M (S_banish g x)) m_nx := by
  refine m_entry (lv := [(0, .ref b), (1, VI x)]) (by decide +kernel) (Nat.le_of_ble_eq_true rfl) rfl hF hl ?_
  intro p e s m args below meth c hC hr hno hnm
  change m_C D aC s0 RX7 _ _ _ _ _ _ _ _ _ at hC
  have hn8 := hB.n8
  refine m_aload_n hC 0 dX7_putBroomAway_0 rfl rfl ?_
  refine m_getf hC dX7_putBroomAway_1 kf_X7_18 hR.ob rfl ?_
  refine m_iload_n hC 1 dX7_putBroomAway_4 rfl rfl ?_
  refine m_callV hC (t_X1_has hF hl hR hB hx) dX7_putBroomAway_5 kc_X1_has kV_X7_156 hR.br rfl rfl rfl rfl (Nat.le_of_ble_eq_true rfl) (by decide) (by decide) m_nox (fun v9 M1 h9 => ?_)
  obtain ⟨rfl, rfl⟩ := h9
  generalize hw : (if 0 ≤ x ∧ x < g 0 8 then (1 : Int) else 0) = w
  have hw := m_b01 hw
  refine m_if_ne (tgt := 13) hC dX7_putBroomAway_8 (by decide) (by first | omega | (simp [hs_at] <;> omega)) (fun c2 => ?_) (fun c2 => ?_)
  · refine m_aload_n hC 0 dX7_putBroomAway_13 rfl rfl ?_
    refine m_getf hC dX7_putBroomAway_14 kf_X7_18 hR.ob rfl ?_
    refine m_getf hC dX7_putBroomAway_17 kf_X7_153 hR.br rfl ?_
    refine m_iload_n hC 1 dX7_putBroomAway_20 rfl rfl ?_
    have hbr := hB.br (i := x) (by omega)
    refine m_ld3 hC hR dX7_putBroomAway_21 (by first | omega | (simp [hs_at] <;> omega)) (by first | omega | (simp [hs_at] <;> omega)) ?_
    refine m_if_eq (tgt := 28) hC dX7_putBroomAway_22 (by decide) (by first | omega | (simp [hs_at] <;> omega)) (fun c3 => ?_) (fun c3 => ?_)
    · refine m_aload_n hC 0 dX7_putBroomAway_28 rfl rfl ?_
      refine m_getf hC dX7_putBroomAway_29 kf_X7_18 hR.ob rfl ?_
      refine m_getf hC dX7_putBroomAway_32 kf_X7_153 hR.br rfl ?_
      refine m_iload_n hC 1 dX7_putBroomAway_35 rfl rfl ?_
      refine m_iconst hC dX7_putBroomAway_36 ?_
      refine m_st3 hC hR hb dX7_putBroomAway_37 (by first | omega | (simp [hs_at] <;> omega)) (by first | omega | (simp [hs_at] <;> omega)) (fun M4 R5 f6 => ?_)
      refine m_aload_n hC 0 dX7_putBroomAway_38 rfl rfl ?_
      refine m_getf hC dX7_putBroomAway_39 kf_X7_18 R5.ob rfl ?_
      refine m_callV hC (t_X1_inUse hF hl R5 (hB.st3 (by omega) (by omega))) dX7_putBroomAway_42 kc_X1_inUse kV_X7_160 R5.br rfl rfl rfl rfl (Nat.le_of_ble_eq_true rfl) (by decide) (by decide) m_nox (fun v9 M7 h9 => ?_)
      obtain ⟨rfl, rfl⟩ := h9
      exact m_iret hC dX7_putBroomAway_45 hr (by decide) (by decide) (h_op.mk (by unfold S_banish; rw [if_neg (by omega), if_neg (by omega)]; try rfl) R5 f6)
    · refine m_bipush hC dX7_putBroomAway_25 (by decide) ?_
      exact m_iret hC dX7_putBroomAway_27 hr (by decide) (by decide) (h_op.mk (by unfold S_banish; rw [if_neg (by omega), if_pos (by omega)]; try rfl) hR m_fr.rf)
  · refine m_iconst hC dX7_putBroomAway_11 ?_
    exact m_iret hC dX7_putBroomAway_12 hr (by decide) (by decide) (h_op.mk (by unfold S_banish; rw [if_pos (by omega)]; try rfl) hR m_fr.rf)

set_option maxHeartbeats 4000000 in
set_option maxRecDepth 100000 in
theorem t_X7_fetchBroom {D : va_G} {aC : Nat → ClassId} {s0 : State} {l : Launch} (hF : m_F D aC s0) (hl : l.stackTraces = false) {b : Nat} {g : h_T} {M : m_M} (hR : hhR b g M) (hB : h_B g) (hb : s0.heap.size ≤ b) {x : Int} (hx : -2147483648 ≤ x ∧ x < 2147483648) : m_Met D aC s0 l yX7_fetchBroom cX7_fetchBroom 2 (some .int) 1 (0) (0) [.ref b, VI x] M (h_op b M (S_recall g x)) m_nx := by
  refine m_entry (lv := [(0, .ref b), (1, VI x)]) (by decide +kernel) (Nat.le_of_ble_eq_true rfl) rfl hF hl ?_
  intro p e s m args below meth c hC hr hno hnm
  change m_C D aC s0 RX7 _ _ _ _ _ _ _ _ _ at hC
  have hn8 := hB.n8
  refine m_aload_n hC 0 dX7_fetchBroom_0 rfl rfl ?_
  refine m_getf hC dX7_fetchBroom_1 kf_X7_18 hR.ob rfl ?_
  refine m_iload_n hC 1 dX7_fetchBroom_4 rfl rfl ?_
  refine m_callV hC (t_X1_has hF hl hR hB hx) dX7_fetchBroom_5 kc_X1_has kV_X7_156 hR.br rfl rfl rfl rfl (Nat.le_of_ble_eq_true rfl) (by decide) (by decide) m_nox (fun v9 M1 h9 => ?_)
  obtain ⟨rfl, rfl⟩ := h9
  generalize hw : (if 0 ≤ x ∧ x < g 0 8 then (1 : Int) else 0) = w
  have hw := m_b01 hw
  refine m_if_ne (tgt := 13) hC dX7_fetchBroom_8 (by decide) (by first | omega | (simp [hs_at] <;> omega)) (fun c2 => ?_) (fun c2 => ?_)
  · refine m_aload_n hC 0 dX7_fetchBroom_13 rfl rfl ?_
    refine m_getf hC dX7_fetchBroom_14 kf_X7_18 hR.ob rfl ?_
    refine m_getf hC dX7_fetchBroom_17 kf_X7_153 hR.br rfl ?_
    refine m_iload_n hC 1 dX7_fetchBroom_20 rfl rfl ?_
    have hbr := hB.br (i := x) (by omega)
    refine m_ld3 hC hR dX7_fetchBroom_21 (by first | omega | (simp [hs_at] <;> omega)) (by first | omega | (simp [hs_at] <;> omega)) ?_
    refine m_if_ne (tgt := 28) hC dX7_fetchBroom_22 (by decide) (by first | omega | (simp [hs_at] <;> omega)) (fun c3 => ?_) (fun c3 => ?_)
    · refine m_aload_n hC 0 dX7_fetchBroom_28 rfl rfl ?_
      refine m_getf hC dX7_fetchBroom_29 kf_X7_18 hR.ob rfl ?_
      refine m_getf hC dX7_fetchBroom_32 kf_X7_153 hR.br rfl ?_
      refine m_iload_n hC 1 dX7_fetchBroom_35 rfl rfl ?_
      refine m_iconst hC dX7_fetchBroom_36 ?_
      refine m_st3 hC hR hb dX7_fetchBroom_37 (by first | omega | (simp [hs_at] <;> omega)) (by first | omega | (simp [hs_at] <;> omega)) (fun M4 R5 f6 => ?_)
      refine m_aload_n hC 0 dX7_fetchBroom_38 rfl rfl ?_
      refine m_getf hC dX7_fetchBroom_39 kf_X7_18 R5.ob rfl ?_
      refine m_callV hC (t_X1_inUse hF hl R5 (hB.st3 (by omega) (by omega))) dX7_fetchBroom_42 kc_X1_inUse kV_X7_160 R5.br rfl rfl rfl rfl (Nat.le_of_ble_eq_true rfl) (by decide) (by decide) m_nox (fun v9 M7 h9 => ?_)
      obtain ⟨rfl, rfl⟩ := h9
      exact m_iret hC dX7_fetchBroom_45 hr (by decide) (by decide) (h_op.mk (by unfold S_recall; rw [if_neg (by omega), if_neg (by omega)]; try rfl) R5 f6)
    · refine m_bipush hC dX7_fetchBroom_25 (by decide) ?_
      exact m_iret hC dX7_fetchBroom_27 hr (by decide) (by decide) (h_op.mk (by unfold S_recall; rw [if_neg (by omega), if_pos (by omega)]; try rfl) hR m_fr.rf)
  · refine m_iconst hC dX7_fetchBroom_11 ?_
    exact m_iret hC dX7_fetchBroom_12 hr (by decide) (by decide) (h_op.mk (by unfold S_recall; rw [if_pos (by omega)]; try rfl) hR m_fr.rf)

set_option maxHeartbeats 4000000 in
set_option maxRecDepth 100000 in
theorem t_X7_sendToBed {D : va_G} {aC : Nat → ClassId} {s0 : State} {l : Launch} (hF : m_F D aC s0) (hl : l.stackTraces = false) {b : Nat} {g : h_T} {M : m_M} (hR : hhR b g M) (hB : h_B g) (hb : s0.heap.size ≤ b) {x : Int} (hx : -2147483648 ≤ x ∧ x < 2147483648) : m_Met D aC s0 l yX7_sendToBed cX7_sendToBed 2 (some .int) 1 (0) (0) [.ref b, VI x] M (h_op b M (S_rest g x)) m_nx := by
  refine m_entry (lv := [(0, .ref b), (1, VI x)]) (by decide +kernel) (Nat.le_of_ble_eq_true rfl) rfl hF hl ?_
  intro p e s m args below meth c hC hr hno hnm
  change m_C D aC s0 RX7 _ _ _ _ _ _ _ _ _ at hC
  have hn9 := hB.n9
  refine m_aload_n hC 0 dX7_sendToBed_0 rfl rfl ?_
  refine m_getf hC dX7_sendToBed_1 kf_X7_25 hR.ob rfl ?_
  refine m_iload_n hC 1 dX7_sendToBed_4 rfl rfl ?_
  refine m_callV hC (t_X5_has hF hl hR hB hx) dX7_sendToBed_5 kc_X5_has kV_X7_163 hR.go rfl rfl rfl rfl (Nat.le_of_ble_eq_true rfl) (by decide) (by decide) m_nox (fun v9 M1 h9 => ?_)
  obtain ⟨rfl, rfl⟩ := h9
  generalize hw : (if 0 ≤ x ∧ x < g 0 9 then (1 : Int) else 0) = w
  have hw := m_b01 hw
  refine m_if_ne (tgt := 13) hC dX7_sendToBed_8 (by decide) (by first | omega | (simp [hs_at] <;> omega)) (fun c2 => ?_) (fun c2 => ?_)
  · refine m_aload_n hC 0 dX7_sendToBed_13 rfl rfl ?_
    refine m_getf hC dX7_sendToBed_14 kf_X7_25 hR.ob rfl ?_
    refine m_getf hC dX7_sendToBed_17 kf_X7_145 hR.go rfl ?_
    refine m_iload_n hC 1 dX7_sendToBed_20 rfl rfl ?_
    have hgo := hB.go (i := x) (by omega)
    refine m_ld8 hC hR dX7_sendToBed_21 (by first | omega | (simp [hs_at] <;> omega)) (by first | omega | (simp [hs_at] <;> omega)) ?_
    refine m_if_eq (tgt := 28) hC dX7_sendToBed_22 (by decide) (by first | omega | (simp [hs_at] <;> omega)) (fun c3 => ?_) (fun c3 => ?_)
    · refine m_aload_n hC 0 dX7_sendToBed_28 rfl rfl ?_
      refine m_getf hC dX7_sendToBed_29 kf_X7_25 hR.ob rfl ?_
      refine m_getf hC dX7_sendToBed_32 kf_X7_145 hR.go rfl ?_
      refine m_iload_n hC 1 dX7_sendToBed_35 rfl rfl ?_
      refine m_iconst hC dX7_sendToBed_36 ?_
      refine m_st8 hC hR hb dX7_sendToBed_37 (by first | omega | (simp [hs_at] <;> omega)) (by first | omega | (simp [hs_at] <;> omega)) (fun M4 R5 f6 => ?_)
      refine m_aload_n hC 0 dX7_sendToBed_38 rfl rfl ?_
      refine m_getf hC dX7_sendToBed_39 kf_X7_25 R5.ob rfl ?_
      refine m_callV hC (t_X5_numberResting hF hl R5 (hB.st8 (by omega) (by omega))) dX7_sendToBed_42 kc_X5_numberResting kV_X7_198 R5.go rfl rfl rfl rfl (Nat.le_of_ble_eq_true rfl) (by decide) (by decide) m_nox (fun v9 M7 h9 => ?_)
      obtain ⟨rfl, rfl⟩ := h9
      exact m_iret hC dX7_sendToBed_45 hr (by decide) (by decide) (h_op.mk (by unfold S_rest; rw [if_neg (by omega), if_neg (by omega)]; try rfl) R5 f6)
    · refine m_bipush hC dX7_sendToBed_25 (by decide) ?_
      exact m_iret hC dX7_sendToBed_27 hr (by decide) (by decide) (h_op.mk (by unfold S_rest; rw [if_neg (by omega), if_pos (by omega)]; try rfl) hR m_fr.rf)
  · refine m_iconst hC dX7_sendToBed_11 ?_
    exact m_iret hC dX7_sendToBed_12 hr (by decide) (by decide) (h_op.mk (by unfold S_rest; rw [if_pos (by omega)]; try rfl) hR m_fr.rf)

set_option maxHeartbeats 4000000 in
set_option maxRecDepth 100000 in
theorem t_X7_getOutOfBed {D : va_G} {aC : Nat → ClassId} {s0 : State} {l : Launch} (hF : m_F D aC s0) (hl : l.stackTraces = false) {b : Nat} {g : h_T} {M : m_M} (hR : hhR b g M) (hB : h_B g) (hb : s0.heap.size ≤ b) {x : Int} (hx : -2147483648 ≤ x ∧ x < 2147483648) : m_Met D aC s0 l yX7_getOutOfBed cX7_getOutOfBed 2 (some .int) 1 (0) (0) [.ref b, VI x] M (h_op b M (S_wake g x)) m_nx := by
  refine m_entry (lv := [(0, .ref b), (1, VI x)]) (by decide +kernel) (Nat.le_of_ble_eq_true rfl) rfl hF hl ?_
  intro p e s m args below meth c hC hr hno hnm
  change m_C D aC s0 RX7 _ _ _ _ _ _ _ _ _ at hC
  have hn9 := hB.n9
  refine m_aload_n hC 0 dX7_getOutOfBed_0 rfl rfl ?_
  refine m_getf hC dX7_getOutOfBed_1 kf_X7_25 hR.ob rfl ?_
  refine m_iload_n hC 1 dX7_getOutOfBed_4 rfl rfl ?_
  refine m_callV hC (t_X5_has hF hl hR hB hx) dX7_getOutOfBed_5 kc_X5_has kV_X7_163 hR.go rfl rfl rfl rfl (Nat.le_of_ble_eq_true rfl) (by decide) (by decide) m_nox (fun v9 M1 h9 => ?_)
  obtain ⟨rfl, rfl⟩ := h9
  generalize hw : (if 0 ≤ x ∧ x < g 0 9 then (1 : Int) else 0) = w
  have hw := m_b01 hw
  refine m_if_ne (tgt := 13) hC dX7_getOutOfBed_8 (by decide) (by first | omega | (simp [hs_at] <;> omega)) (fun c2 => ?_) (fun c2 => ?_)
  · refine m_aload_n hC 0 dX7_getOutOfBed_13 rfl rfl ?_
    refine m_getf hC dX7_getOutOfBed_14 kf_X7_25 hR.ob rfl ?_
    refine m_getf hC dX7_getOutOfBed_17 kf_X7_145 hR.go rfl ?_
    refine m_iload_n hC 1 dX7_getOutOfBed_20 rfl rfl ?_
    have hgo := hB.go (i := x) (by omega)
    refine m_ld8 hC hR dX7_getOutOfBed_21 (by first | omega | (simp [hs_at] <;> omega)) (by first | omega | (simp [hs_at] <;> omega)) ?_
    refine m_if_ne (tgt := 28) hC dX7_getOutOfBed_22 (by decide) (by first | omega | (simp [hs_at] <;> omega)) (fun c3 => ?_) (fun c3 => ?_)
    · refine m_aload_n hC 0 dX7_getOutOfBed_28 rfl rfl ?_
      refine m_getf hC dX7_getOutOfBed_29 kf_X7_25 hR.ob rfl ?_
      refine m_getf hC dX7_getOutOfBed_32 kf_X7_145 hR.go rfl ?_
      refine m_iload_n hC 1 dX7_getOutOfBed_35 rfl rfl ?_
      refine m_iconst hC dX7_getOutOfBed_36 ?_
      refine m_st8 hC hR hb dX7_getOutOfBed_37 (by first | omega | (simp [hs_at] <;> omega)) (by first | omega | (simp [hs_at] <;> omega)) (fun M4 R5 f6 => ?_)
      refine m_aload_n hC 0 dX7_getOutOfBed_38 rfl rfl ?_
      refine m_getf hC dX7_getOutOfBed_39 kf_X7_25 R5.ob rfl ?_
      refine m_getf hC dX7_getOutOfBed_42 kf_X7_142 R5.go rfl ?_
      refine m_iload_n hC 1 dX7_getOutOfBed_45 rfl rfl ?_
      refine m_ld7 hC R5 dX7_getOutOfBed_46 (by first | omega | (simp [hs_at] <;> omega)) (by first | omega | (simp [hs_at] <;> omega)) ?_
      exact m_iret hC dX7_getOutOfBed_47 hr (by decide) (by decide) (h_op.mk (by unfold S_wake; rw [if_neg (by omega), if_neg (by omega)]; try rfl) R5 f6)
    · refine m_bipush hC dX7_getOutOfBed_25 (by decide) ?_
      exact m_iret hC dX7_getOutOfBed_27 hr (by decide) (by decide) (h_op.mk (by unfold S_wake; rw [if_neg (by omega), if_pos (by omega)]; try rfl) hR m_fr.rf)
  · refine m_iconst hC dX7_getOutOfBed_11 ?_
    exact m_iret hC dX7_getOutOfBed_12 hr (by decide) (by decide) (h_op.mk (by unfold S_wake; rw [if_pos (by omega)]; try rfl) hR m_fr.rf)

set_option maxHeartbeats 4000000 in
set_option maxRecDepth 100000 in
theorem t_X7_signContract {D : va_G} {aC : Nat → ClassId} {s0 : State} {l : Launch} (hF : m_F D aC s0) (hl : l.stackTraces = false) {b : Nat} {g : h_T} {M : m_M} (hR : hhR b g M) (hB : h_B g) (hb : s0.heap.size ≤ b) {x : Int} {r : Int} {w : Int} {ef : Int} (hx : -2147483648 ≤ x ∧ x < 2147483648) (hr : -2147483648 ≤ r ∧ r < 2147483648) (hw : -2147483648 ≤ w ∧ w < 2147483648) (hef : -2147483648 ≤ ef ∧ ef < 2147483648) : m_Met D aC s0 l yX7_signContract cX7_signContract 7 (some .int) 1 (0) (0) [.ref b, VI x, VI r, VI w, VI ef] M (h_op b M (S_hire g x r w ef)) m_nx := by
  refine m_entry (lv := [(0, .ref b), (1, VI x), (2, VI r), (3, VI w), (4, VI ef)]) (by decide +kernel) (Nat.le_of_ble_eq_true rfl) rfl hF hl ?_
  intro p e s m args below meth c hC hr hno hnm
  change m_C D aC s0 RX7 _ _ _ _ _ _ _ _ _ at hC
  obtain ⟨t, hP, he, hbt⟩ := hR
  have hR0 : hhR b g M := ⟨t, hP, he, hbt⟩
  have e11 := he.s 11 (by omega)
  have e10 := he.s 10 (by omega)
  have hn9 := hB.n9
  have hn11 := hB.n11
  refine m_aload_n hC 0 dX7_signContract_0 rfl rfl ?_
  refine m_getf hC dX7_signContract_1 kf_X7_25 hP.1 rfl ?_
  refine m_iload_n hC 1 dX7_signContract_4 rfl rfl ?_
  refine m_callV hC (t_X5_has hF hl hR0 hB hx) dX7_signContract_5 kc_X5_has kV_X7_163 hP.2.2.2.1.1 rfl rfl rfl rfl (Nat.le_of_ble_eq_true rfl) (by decide) (by decide) m_nox (fun v9 M1 h9 => ?_)
  obtain ⟨rfl, rfl⟩ := h9
  generalize hw9 : (if 0 ≤ x ∧ x < g 0 9 then (1 : Int) else 0) = w9
  have hw9 := m_b01 hw9
  refine m_if_eq (tgt := 21) hC dX7_signContract_8 (by decide) (by first | omega | (simp [hs_at] <;> omega)) (fun c2 => ?_) (fun c2 => ?_)
  · refine m_iconst hC dX7_signContract_21 ?_
    exact m_iret hC dX7_signContract_22 hr (by decide) (by decide) (h_op.mk (by unfold S_hire; rw [if_pos (by omega)]; try rfl) ⟨t, hP, he, hbt⟩ m_fr.rf)
  · refine m_iload_n hC 2 dX7_signContract_11 rfl rfl ?_
    refine m_if_lt (tgt := 21) hC dX7_signContract_12 (by decide) (by first | omega | (simp [hs_at] <;> omega)) (fun c3 => ?_) (fun c3 => ?_)
    · refine m_iconst hC dX7_signContract_21 ?_
      exact m_iret hC dX7_signContract_22 hr (by decide) (by decide) (h_op.mk (by unfold S_hire; rw [if_pos (by omega)]; try rfl) ⟨t, hP, he, hbt⟩ m_fr.rf)
    · refine m_iload_n hC 2 dX7_signContract_15 rfl rfl ?_
      refine m_bipush hC dX7_signContract_16 (by decide) ?_
      refine m_icmp_lt (tgt := 23) hC dX7_signContract_18 (by decide) (by first | omega | (simp [hs_at] <;> omega)) (fun c4 => ?_) (fun c4 => ?_)
      · refine m_iload_n hC 3 dX7_signContract_23 rfl rfl ?_
        refine m_iconst hC dX7_signContract_24 ?_
        refine m_icmp_lt (tgt := 47) hC dX7_signContract_25 (by decide) (by first | omega | (simp [hs_at] <;> omega)) (fun c5 => ?_) (fun c5 => ?_)
        · refine m_bipush hC dX7_signContract_47 (by decide) ?_
          exact m_iret hC dX7_signContract_49 hr (by decide) (by decide) (h_op.mk (by unfold S_hire; rw [if_neg (by omega), if_pos (by omega)]; try rfl) ⟨t, hP, he, hbt⟩ m_fr.rf)
        · refine m_iload_n hC 3 dX7_signContract_28 rfl rfl ?_
          refine m_bipush hC dX7_signContract_29 (by decide) ?_
          refine m_icmp_gt (tgt := 47) hC dX7_signContract_31 (by decide) (by first | omega | (simp [hs_at] <;> omega)) (fun c6 => ?_) (fun c6 => ?_)
          · refine m_bipush hC dX7_signContract_47 (by decide) ?_
            exact m_iret hC dX7_signContract_49 hr (by decide) (by decide) (h_op.mk (by unfold S_hire; rw [if_neg (by omega), if_pos (by omega)]; try rfl) ⟨t, hP, he, hbt⟩ m_fr.rf)
          · refine m_iload hC 4 dX7_signContract_34 rfl ?_
            refine m_iconst hC dX7_signContract_36 ?_
            refine m_icmp_lt (tgt := 47) hC dX7_signContract_37 (by decide) (by first | omega | (simp [hs_at] <;> omega)) (fun c7 => ?_) (fun c7 => ?_)
            · refine m_bipush hC dX7_signContract_47 (by decide) ?_
              exact m_iret hC dX7_signContract_49 hr (by decide) (by decide) (h_op.mk (by unfold S_hire; rw [if_neg (by omega), if_pos (by omega)]; try rfl) ⟨t, hP, he, hbt⟩ m_fr.rf)
            · refine m_iload hC 4 dX7_signContract_40 rfl ?_
              refine m_bipush hC dX7_signContract_42 (by decide) ?_
              refine m_icmp_le (tgt := 50) hC dX7_signContract_44 (by decide) (by first | omega | (simp [hs_at] <;> omega)) (fun c8 => ?_) (fun c8 => ?_)
              · refine m_aload_n hC 0 dX7_signContract_50 rfl rfl ?_
                refine m_getf hC dX7_signContract_51 kf_X7_32 hP.1 rfl ?_
                refine m_getf hC dX7_signContract_54 kf_X7_164 hP.2.2.2.2.1 rfl ?_
                refine m_istore hC dX7_signContract_57 (by decide) rfl ?_
                refine m_iload hC 0 dX7_signContract_59 rfl ?_
                refine m_bipush hC dX7_signContract_61 (by decide) ?_
                refine m_icmp_lt (tgt := 69) hC dX7_signContract_63 (by decide) (by first | omega | (simp [hs_at] <;> omega)) (fun c9 => ?_) (fun c9 => ?_)
                · refine m_aload_n hC 1 dX7_signContract_69 rfl rfl ?_
                  refine m_getf hC dX7_signContract_70 kf_X7_32 hP.1 rfl ?_
                  refine m_iload_n hC 2 dX7_signContract_73 rfl rfl ?_
                  refine m_iload_n hC 3 dX7_signContract_74 rfl rfl ?_
                  refine m_callV hC (t_X3_areFor hF hl (hR0) hB (x := x) (y := r) (by omega) (by omega)) dX7_signContract_75 kc_X3_areFor kV_X7_165 hP.2.2.2.2.1 rfl rfl rfl rfl (Nat.le_of_ble_eq_true rfl) (by decide) (by decide) m_nox (fun v9 M10 h9 => ?_)
                  obtain ⟨rfl, rfl⟩ := h9
                  generalize hq : (if S_has g x r = true then (1 : Int) else 0) = q
                  have hq := m_b01 hq
                  refine m_if_eq (tgt := 84) hC dX7_signContract_78 (by decide) (by first | omega | (simp [hs_at] <;> omega)) (fun c11 => ?_) (fun c11 => ?_)
                  · refine m_aload_n hC 1 dX7_signContract_84 rfl rfl ?_
                    refine m_getf hC dX7_signContract_85 kf_X7_32 hP.1 rfl ?_
                    refine m_getf hC dX7_signContract_88 kf_X7_169 hP.2.2.2.2.1 rfl ?_
                    refine m_istore hC dX7_signContract_91 (by decide) rfl ?_
                    refine m_aload_n hC 2 dX7_signContract_93 rfl rfl ?_
                    refine m_getf hC dX7_signContract_94 kf_X7_32 hP.1 rfl ?_
                    refine m_getf hC dX7_signContract_97 kf_X7_172 hP.2.2.2.2.1 rfl ?_
                    refine m_iload hC 1 dX7_signContract_100 rfl ?_
                    refine m_iload hC 0 dX7_signContract_102 rfl ?_
                    refine m_hst9 hC hP hb dX7_signContract_104 (by first | omega | (simp [hs_at] <;> omega)) (fun M12 R13 f14 => ?_)
                    refine m_aload_n hC 2 dX7_signContract_105 rfl rfl ?_
                    refine m_getf hC dX7_signContract_106 kf_X7_32 R13.1 rfl ?_
                    refine m_getf hC dX7_signContract_109 kf_X7_175 R13.2.2.2.2.1 rfl ?_
                    refine m_iload hC 1 dX7_signContract_112 rfl ?_
                    refine m_iload_n hC 3 dX7_signContract_114 rfl rfl ?_
                    refine m_hst10 hC R13 hb dX7_signContract_115 (by first | omega | (simp [hs_at] <;> omega)) (fun M15 R16 f17 => ?_)
                    refine m_aload_n hC 2 dX7_signContract_116 rfl rfl ?_
                    refine m_getf hC dX7_signContract_117 kf_X7_32 R16.1 rfl ?_
                    refine m_getf hC dX7_signContract_120 kf_X7_177 R16.2.2.2.2.1 rfl ?_
                    refine m_iload hC 1 dX7_signContract_123 rfl ?_
                    refine m_iload_n hC 4 dX7_signContract_125 rfl rfl ?_
                    refine m_hst11 hC R16 hb dX7_signContract_126 (by first | omega | (simp [hs_at] <;> omega)) (fun M18 R19 f20 => ?_)
                    refine m_aload_n hC 2 dX7_signContract_127 rfl rfl ?_
                    refine m_getf hC dX7_signContract_128 kf_X7_32 R19.1 rfl ?_
                    refine m_getf hC dX7_signContract_131 kf_X7_180 R19.2.2.2.2.1 rfl ?_
                    refine m_iload hC 1 dX7_signContract_134 rfl ?_
                    refine m_iload_n hC 5 dX7_signContract_136 rfl rfl ?_
                    refine m_hst12 hC R19 hb dX7_signContract_137 (by first | omega | (simp [hs_at] <;> omega)) (fun M21 R22 f23 => ?_)
                    refine m_aload_n hC 2 dX7_signContract_138 rfl rfl ?_
                    refine m_getf hC dX7_signContract_139 kf_X7_32 R22.1 rfl ?_
                    refine m_getf hC dX7_signContract_142 kf_X7_183 R22.2.2.2.2.1 rfl ?_
                    refine m_iload hC 1 dX7_signContract_145 rfl ?_
                    refine m_iload hC 6 dX7_signContract_147 rfl ?_
                    refine m_hst13 hC R22 hb dX7_signContract_149 (by first | omega | (simp [hs_at] <;> omega)) (fun M24 R25 f26 => ?_)
                    refine m_aload_n hC 2 dX7_signContract_150 rfl rfl ?_
                    refine m_getf hC dX7_signContract_151 kf_X7_32 R25.1 rfl ?_
                    refine m_dup hC dX7_signContract_154 rfl ?_
                    refine m_getf hC dX7_signContract_155 kf_X7_164 R25.2.2.2.2.1 rfl ?_
                    refine m_iconst hC dX7_signContract_158 ?_
                    refine m_iadd hC dX7_signContract_159 ?_
                    refine m_hss11 hC R25 hb dX7_signContract_160 kf_X7_164 (fun M27 R28 f29 => ?_)
                    refine m_aload_n hC 2 dX7_signContract_163 rfl rfl ?_
                    refine m_getf hC dX7_signContract_164 kf_X7_32 R28.1 rfl ?_
                    refine m_dup hC dX7_signContract_167 rfl ?_
                    refine m_getf hC dX7_signContract_168 kf_X7_169 R28.2.2.2.2.1 rfl ?_
                    refine m_iconst hC dX7_signContract_171 ?_
                    refine m_iadd hC dX7_signContract_172 ?_
                    refine m_hss10 hC R28 hb dX7_signContract_173 kf_X7_169 (fun M30 R31 f32 => ?_)
                    refine m_iload hC 0 dX7_signContract_176 rfl ?_
                    exact m_iret hC dX7_signContract_178 hr (by decide) (by decide) (h_op.mk (by unfold S_hire; rw [if_neg (by omega), if_neg (by omega), if_neg (by omega), if_neg (by rcases hq with hq | hq; omega; exact hq.1), e10]; try rfl) ⟨_, R31, he.con x r w ef, hbt.con x r w ef⟩ (f14.tr (f17.tr (f20.tr (f23.tr (f26.tr (f29.tr f32)))))))
                  · refine m_bipush hC dX7_signContract_81 (by decide) ?_
                    exact m_iret hC dX7_signContract_83 hr (by decide) (by decide) (h_op.mk (by unfold S_hire; rw [if_neg (by omega), if_neg (by omega), if_neg (by omega), if_pos (by rcases hq with hq | hq; exact hq.1; omega)]) ⟨t, hP, he, hbt⟩ m_fr.rf)
                · refine m_bipush hC dX7_signContract_66 (by decide) ?_
                  exact m_iret hC dX7_signContract_68 hr (by decide) (by decide) (h_op.mk (by unfold S_hire; rw [if_neg (by omega), if_neg (by omega), if_pos (by omega)]; try rfl) ⟨t, hP, he, hbt⟩ m_fr.rf)
              · refine m_bipush hC dX7_signContract_47 (by decide) ?_
                exact m_iret hC dX7_signContract_49 hr (by decide) (by decide) (h_op.mk (by unfold S_hire; rw [if_neg (by omega), if_pos (by omega)]; try rfl) ⟨t, hP, he, hbt⟩ m_fr.rf)
      · refine m_iconst hC dX7_signContract_21 ?_
        exact m_iret hC dX7_signContract_22 hr (by decide) (by decide) (h_op.mk (by unfold S_hire; rw [if_pos (by omega)]; try rfl) ⟨t, hP, he, hbt⟩ m_fr.rf)

set_option maxHeartbeats 4000000 in
set_option maxRecDepth 100000 in
theorem t_X7_advanceCrumbs {D : va_G} {aC : Nat → ClassId} {s0 : State} {l : Launch} (hF : m_F D aC s0) (hl : l.stackTraces = false) {b : Nat} {g : h_T} {M : m_M} (hR : hhR b g M) (hB : h_B g) (hb : s0.heap.size ≤ b) {x : Int} {c : Int} (hx : -2147483648 ≤ x ∧ x < 2147483648) (hc : -2147483648 ≤ c ∧ c < 2147483648) : m_Met D aC s0 l yX7_advanceCrumbs cX7_advanceCrumbs 4 (some .int) 1 (0) (0) [.ref b, VI x, VI c] M (h_op b M (S_lend g x c)) m_nx := by
  refine m_entry (lv := [(0, .ref b), (1, VI x), (2, VI c)]) (by decide +kernel) (Nat.le_of_ble_eq_true rfl) rfl hF hl ?_
  intro p e s m args below meth c hC hr hno hnm
  change m_C D aC s0 RX7 _ _ _ _ _ _ _ _ _ at hC
  have hn9 := hB.n9
  have h1 := hB.s 1 (by omega)
  refine m_aload_n hC 0 dX7_advanceCrumbs_0 rfl rfl ?_
  refine m_getf hC dX7_advanceCrumbs_1 kf_X7_25 hR.ob rfl ?_
  refine m_iload_n hC 1 dX7_advanceCrumbs_4 rfl rfl ?_
  refine m_callV hC (t_X5_has hF hl hR hB hx) dX7_advanceCrumbs_5 kc_X5_has kV_X7_163 hR.go rfl rfl rfl rfl (Nat.le_of_ble_eq_true rfl) (by decide) (by decide) m_nox (fun v9 M1 h9 => ?_)
  obtain ⟨rfl, rfl⟩ := h9
  generalize hw : (if 0 ≤ x ∧ x < g 0 9 then (1 : Int) else 0) = w
  have hw := m_b01 hw
  refine m_if_ne (tgt := 13) hC dX7_advanceCrumbs_8 (by decide) (by first | omega | (simp [hs_at] <;> omega)) (fun c2 => ?_) (fun c2 => ?_)
  · refine m_iload_n hC 2 dX7_advanceCrumbs_13 rfl rfl ?_
    refine m_iconst hC dX7_advanceCrumbs_14 ?_
    refine m_icmp_lt (tgt := 24) hC dX7_advanceCrumbs_15 (by decide) (by first | omega | (simp [hs_at] <;> omega)) (fun c3 => ?_) (fun c3 => ?_)
    · refine m_bipush hC dX7_advanceCrumbs_24 (by decide) ?_
      exact m_iret hC dX7_advanceCrumbs_26 hr (by decide) (by decide) (h_op.mk (by unfold S_lend; rw [if_neg (by omega), if_pos (by omega)]; try rfl) hR m_fr.rf)
    · refine m_iload_n hC 2 dX7_advanceCrumbs_18 rfl rfl ?_
      refine m_bipush hC dX7_advanceCrumbs_19 (by decide) ?_
      refine m_icmp_le (tgt := 27) hC dX7_advanceCrumbs_21 (by decide) (by first | omega | (simp [hs_at] <;> omega)) (fun c4 => ?_) (fun c4 => ?_)
      · refine m_aload_n hC 0 dX7_advanceCrumbs_27 rfl rfl ?_
        refine m_getf hC dX7_advanceCrumbs_28 kf_X7_25 hR.ob rfl ?_
        refine m_getf hC dX7_advanceCrumbs_31 kf_X7_139 hR.go rfl ?_
        refine m_iload_n hC 1 dX7_advanceCrumbs_34 rfl rfl ?_
        have hgo := hB.go (i := x) (by omega)
        refine m_ld6 hC hR dX7_advanceCrumbs_35 (by first | omega | (simp [hs_at] <;> omega)) (by first | omega | (simp [hs_at] <;> omega)) ?_
        refine m_iload_n hC 2 dX7_advanceCrumbs_36 rfl rfl ?_
        refine m_iadd hC dX7_advanceCrumbs_37 ?_
        refine m_istore_n hC dX7_advanceCrumbs_38 rfl (by decide) rfl ?_
        refine m_aload_n hC 1 dX7_advanceCrumbs_39 rfl rfl ?_
        refine m_getf hC dX7_advanceCrumbs_40 kf_X7_40 hR.ob rfl ?_
        refine m_iload_n hC 3 dX7_advanceCrumbs_43 rfl rfl ?_
        refine m_icmp_lt (tgt := 54) hC dX7_advanceCrumbs_44 (by decide) (by first | omega | (simp [hs_at] <;> omega)) (fun c5 => ?_) (fun c5 => ?_)
        · refine m_bipush hC dX7_advanceCrumbs_54 (by decide) ?_
          exact m_iret hC dX7_advanceCrumbs_56 hr (by decide) (by decide) (h_op.mk (by unfold S_lend; rw [if_neg (by omega), if_neg (by omega), if_pos (by omega)]; try rfl) hR m_fr.rf)
        · refine m_iload_n hC 0 dX7_advanceCrumbs_47 rfl rfl ?_
          refine m_sipush hC dX7_advanceCrumbs_48 (by decide) ?_
          refine m_icmp_le (tgt := 57) hC dX7_advanceCrumbs_51 (by decide) (by first | omega | (simp [hs_at] <;> omega)) (fun c6 => ?_) (fun c6 => ?_)
          · refine m_aload_n hC 1 dX7_advanceCrumbs_57 rfl rfl ?_
            refine m_dup hC dX7_advanceCrumbs_58 rfl ?_
            refine m_getf hC dX7_advanceCrumbs_59 kf_X7_40 hR.ob rfl ?_
            refine m_iload_n hC 3 dX7_advanceCrumbs_62 rfl rfl ?_
            refine m_isub hC dX7_advanceCrumbs_63 ?_
            refine m_ss1 hC hR hb dX7_advanceCrumbs_64 kf_X7_40 (fun M7 R8 f9 => ?_)
            refine m_aload_n hC 1 dX7_advanceCrumbs_67 rfl rfl ?_
            refine m_getf hC dX7_advanceCrumbs_68 kf_X7_25 R8.ob rfl ?_
            refine m_getf hC dX7_advanceCrumbs_71 kf_X7_136 R8.go rfl ?_
            refine m_iload_n hC 2 dX7_advanceCrumbs_74 rfl rfl ?_
            refine m_dup2 hC dX7_advanceCrumbs_75 rfl rfl ?_
            refine m_ld5 hC R8 dX7_advanceCrumbs_76 (by first | omega | (simp [hs_at] <;> omega)) (by first | omega | (simp [hs_at] <;> omega)) ?_
            refine m_iload_n hC 3 dX7_advanceCrumbs_77 rfl rfl ?_
            refine m_iadd hC dX7_advanceCrumbs_78 ?_
            refine m_st5 hC R8 hb dX7_advanceCrumbs_79 (by first | omega | (simp [hs_at] <;> omega)) (fun M10 R11 f12 => ?_)
            refine m_aload_n hC 1 dX7_advanceCrumbs_80 rfl rfl ?_
            refine m_getf hC dX7_advanceCrumbs_81 kf_X7_25 R11.ob rfl ?_
            refine m_getf hC dX7_advanceCrumbs_84 kf_X7_139 R11.go rfl ?_
            refine m_iload_n hC 2 dX7_advanceCrumbs_87 rfl rfl ?_
            refine m_iload_n hC 0 dX7_advanceCrumbs_88 rfl rfl ?_
            refine m_st6 hC R11 hb dX7_advanceCrumbs_89 (by first | omega | (simp [hs_at] <;> omega)) (fun M13 R14 f15 => ?_)
            refine m_iload_n hC 0 dX7_advanceCrumbs_90 rfl rfl ?_
            exact m_iret hC dX7_advanceCrumbs_91 hr (by decide) (by decide) (h_op.mk (by unfold S_lend; rw [if_neg (by omega), if_neg (by omega), if_neg (by omega)]; try rfl) R14 (f9.tr (f12.tr f15)))
          · refine m_bipush hC dX7_advanceCrumbs_54 (by decide) ?_
            exact m_iret hC dX7_advanceCrumbs_56 hr (by decide) (by decide) (h_op.mk (by unfold S_lend; rw [if_neg (by omega), if_neg (by omega), if_pos (by omega)]; try rfl) hR m_fr.rf)
      · refine m_bipush hC dX7_advanceCrumbs_24 (by decide) ?_
        exact m_iret hC dX7_advanceCrumbs_26 hr (by decide) (by decide) (h_op.mk (by unfold S_lend; rw [if_neg (by omega), if_pos (by omega)]; try rfl) hR m_fr.rf)
  · refine m_iconst hC dX7_advanceCrumbs_11 ?_
    exact m_iret hC dX7_advanceCrumbs_12 hr (by decide) (by decide) (h_op.mk (by unfold S_lend; rw [if_pos (by omega)]; try rfl) hR m_fr.rf)

set_option maxHeartbeats 4000000 in
set_option maxRecDepth 100000 in
theorem t_X7_takeCrumbsIn {D : va_G} {aC : Nat → ClassId} {s0 : State} {l : Launch} (hF : m_F D aC s0) (hl : l.stackTraces = false) {b : Nat} {g : h_T} {M : m_M} (hR : hhR b g M) (hB : h_B g) (hb : s0.heap.size ≤ b) {c : Int} (hc : -2147483648 ≤ c ∧ c < 2147483648) : m_Met D aC s0 l yX7_takeCrumbsIn cX7_takeCrumbsIn 2 (some .int) 0 (0) (0) [.ref b, VI c] M (h_op b M (S_fund g c)) m_nx := by
  refine m_entry (lv := [(0, .ref b), (1, VI c)]) (by decide +kernel) (Nat.le_of_ble_eq_true rfl) rfl hF hl ?_
  intro p e s m args below meth c hC hr hno hnm
  change m_C D aC s0 RX7 _ _ _ _ _ _ _ _ _ at hC
  have h1 := hB.s 1 (by omega)
  refine m_iload_n hC 1 dX7_takeCrumbsIn_0 rfl rfl ?_
  refine m_iconst hC dX7_takeCrumbsIn_1 ?_
  refine m_icmp_lt (tgt := 12) hC dX7_takeCrumbsIn_2 (by decide) (by first | omega | (simp [hs_at] <;> omega)) (fun c1 => ?_) (fun c1 => ?_)
  · refine m_bipush hC dX7_takeCrumbsIn_12 (by decide) ?_
    exact m_iret hC dX7_takeCrumbsIn_14 hr (by decide) (by decide) (h_op.mk (by unfold S_fund; rw [if_pos (by omega)]; try rfl) hR m_fr.rf)
  · refine m_iload_n hC 1 dX7_takeCrumbsIn_5 rfl rfl ?_
    refine m_sipush hC dX7_takeCrumbsIn_6 (by decide) ?_
    refine m_icmp_le (tgt := 15) hC dX7_takeCrumbsIn_9 (by decide) (by first | omega | (simp [hs_at] <;> omega)) (fun c2 => ?_) (fun c2 => ?_)
    · refine m_aload_n hC 0 dX7_takeCrumbsIn_15 rfl rfl ?_
      refine m_dup hC dX7_takeCrumbsIn_16 rfl ?_
      refine m_getf hC dX7_takeCrumbsIn_17 kf_X7_40 hR.ob rfl ?_
      refine m_iload_n hC 1 dX7_takeCrumbsIn_20 rfl rfl ?_
      refine m_iadd hC dX7_takeCrumbsIn_21 ?_
      refine m_ss1 hC hR hb dX7_takeCrumbsIn_22 kf_X7_40 (fun M3 R4 f5 => ?_)
      refine m_aload_n hC 0 dX7_takeCrumbsIn_25 rfl rfl ?_
      refine m_dup hC dX7_takeCrumbsIn_26 rfl ?_
      refine m_getf hC dX7_takeCrumbsIn_27 kf_X7_43 R4.ob rfl ?_
      refine m_iload_n hC 1 dX7_takeCrumbsIn_30 rfl rfl ?_
      refine m_iadd hC dX7_takeCrumbsIn_31 ?_
      refine m_ss2 hC R4 hb dX7_takeCrumbsIn_32 kf_X7_43 (fun M6 R7 f8 => ?_)
      refine m_aload_n hC 0 dX7_takeCrumbsIn_35 rfl rfl ?_
      refine m_getf hC dX7_takeCrumbsIn_36 kf_X7_40 R7.ob rfl ?_
      exact m_iret hC dX7_takeCrumbsIn_39 hr (by decide) (by decide) (h_op.mk (by unfold S_fund; rw [if_neg (by omega)]; try rfl) R7 (f5.tr f8))
    · refine m_bipush hC dX7_takeCrumbsIn_12 (by decide) ?_
      exact m_iret hC dX7_takeCrumbsIn_14 hr (by decide) (by decide) (h_op.mk (by unfold S_fund; rw [if_pos (by omega)]; try rfl) hR m_fr.rf)

set_option maxHeartbeats 4000000 in
set_option maxRecDepth 100000 in
theorem t_X7_giveCrumbsOut {D : va_G} {aC : Nat → ClassId} {s0 : State} {l : Launch} (hF : m_F D aC s0) (hl : l.stackTraces = false) {b : Nat} {g : h_T} {M : m_M} (hR : hhR b g M) (hB : h_B g) (hb : s0.heap.size ≤ b) {c : Int} (hc : -2147483648 ≤ c ∧ c < 2147483648) : m_Met D aC s0 l yX7_giveCrumbsOut cX7_giveCrumbsOut 2 (some .int) 0 (0) (0) [.ref b, VI c] M (h_op b M (S_spend g c)) m_nx := by
  refine m_entry (lv := [(0, .ref b), (1, VI c)]) (by decide +kernel) (Nat.le_of_ble_eq_true rfl) rfl hF hl ?_
  intro p e s m args below meth c hC hr hno hnm
  change m_C D aC s0 RX7 _ _ _ _ _ _ _ _ _ at hC
  have h1 := hB.s 1 (by omega)
  refine m_iload_n hC 1 dX7_giveCrumbsOut_0 rfl rfl ?_
  refine m_iconst hC dX7_giveCrumbsOut_1 ?_
  refine m_icmp_lt (tgt := 12) hC dX7_giveCrumbsOut_2 (by decide) (by first | omega | (simp [hs_at] <;> omega)) (fun c1 => ?_) (fun c1 => ?_)
  · refine m_bipush hC dX7_giveCrumbsOut_12 (by decide) ?_
    exact m_iret hC dX7_giveCrumbsOut_14 hr (by decide) (by decide) (h_op.mk (by unfold S_spend; rw [if_pos (by omega)]; try rfl) hR m_fr.rf)
  · refine m_iload_n hC 1 dX7_giveCrumbsOut_5 rfl rfl ?_
    refine m_sipush hC dX7_giveCrumbsOut_6 (by decide) ?_
    refine m_icmp_le (tgt := 15) hC dX7_giveCrumbsOut_9 (by decide) (by first | omega | (simp [hs_at] <;> omega)) (fun c2 => ?_) (fun c2 => ?_)
    · refine m_aload_n hC 0 dX7_giveCrumbsOut_15 rfl rfl ?_
      refine m_getf hC dX7_giveCrumbsOut_16 kf_X7_40 hR.ob rfl ?_
      refine m_iload_n hC 1 dX7_giveCrumbsOut_19 rfl rfl ?_
      refine m_icmp_ge (tgt := 26) hC dX7_giveCrumbsOut_20 (by decide) (by first | omega | (simp [hs_at] <;> omega)) (fun c3 => ?_) (fun c3 => ?_)
      · refine m_aload_n hC 0 dX7_giveCrumbsOut_26 rfl rfl ?_
        refine m_dup hC dX7_giveCrumbsOut_27 rfl ?_
        refine m_getf hC dX7_giveCrumbsOut_28 kf_X7_40 hR.ob rfl ?_
        refine m_iload_n hC 1 dX7_giveCrumbsOut_31 rfl rfl ?_
        refine m_isub hC dX7_giveCrumbsOut_32 ?_
        refine m_ss1 hC hR hb dX7_giveCrumbsOut_33 kf_X7_40 (fun M4 R5 f6 => ?_)
        refine m_aload_n hC 0 dX7_giveCrumbsOut_36 rfl rfl ?_
        refine m_dup hC dX7_giveCrumbsOut_37 rfl ?_
        refine m_getf hC dX7_giveCrumbsOut_38 kf_X7_46 R5.ob rfl ?_
        refine m_iload_n hC 1 dX7_giveCrumbsOut_41 rfl rfl ?_
        refine m_iadd hC dX7_giveCrumbsOut_42 ?_
        refine m_ss3 hC R5 hb dX7_giveCrumbsOut_43 kf_X7_46 (fun M7 R8 f9 => ?_)
        refine m_aload_n hC 0 dX7_giveCrumbsOut_46 rfl rfl ?_
        refine m_getf hC dX7_giveCrumbsOut_47 kf_X7_40 R8.ob rfl ?_
        exact m_iret hC dX7_giveCrumbsOut_50 hr (by decide) (by decide) (h_op.mk (by unfold S_spend; rw [if_neg (by omega), if_neg (by omega)]; try rfl) R8 (f6.tr f9))
      · refine m_bipush hC dX7_giveCrumbsOut_23 (by decide) ?_
        exact m_iret hC dX7_giveCrumbsOut_25 hr (by decide) (by decide) (h_op.mk (by unfold S_spend; rw [if_neg (by omega), if_pos (by omega)]; try rfl) hR m_fr.rf)
    · refine m_bipush hC dX7_giveCrumbsOut_12 (by decide) ?_
      exact m_iret hC dX7_giveCrumbsOut_14 hr (by decide) (by decide) (h_op.mk (by unfold S_spend; rw [if_pos (by omega)]; try rfl) hR m_fr.rf)

