theorem m_opg {P : Prop} [Decidable P] {a : Nat} {w g : h_T} {cs : List Int} {S : Int × h_T} {M M2 : m_M} (h : ¬ P → S.1 < 0 ∧ S.2 = g ∧ o_th cs S.1 = 1) (ch : b01 (b01 P ≠ 0) = 0) (hV : mmV a (hs w 0 14 (if b01 P = 0 then 1 else 0)) g M2) (hf : m_fr a 10 M M2) : m_op a w cs S M (some (VI 0)) M2 := by
  have hP : ¬ P := fun q => absurd (b01_eq.mp ch) (by rw [b01_t q]; decide)
  rw [if_pos (b01_f hP)] at hV
  exact m_opn (h hP) hV hf
set_option maxHeartbeats 4000000 in
set_option maxRecDepth 100000 in
theorem t_X10_funds {D : va_G} {aC : Nat → ClassId} {s0 : State} {l : Launch} (hF : m_F D aC s0) (hl : l.stackTraces = false) {a : Nat} {w g : h_T} {M : m_M} (hV : mmV a w g M) (ha : s0.heap.size ≤ a) (hB : h_B g) {x : Int} (hx : -2147483648 ≤ x ∧ x < 2147483648) : m_Met D aC s0 l yX10_funds cX10_funds 2 (some .int) 2 (0) (0) [.ref a, VI x] M (m_op a w [-2] (S_fund g x) M) m_nx := by
  refine m_entry (lv := [(0, .ref a), (1, VI x)]) (by decide +kernel) (Nat.le_of_ble_eq_true rfl) rfl hF hl ?_
  intro p e s m args below meth c hC hr hno hnm
  change m_C D aC s0 RX10 _ _ _ _ _ _ _ _ _ at hC
  have hn8 := hB.n8
  have hn9 := hB.n9
  have hn11 := hB.n11
  have hnq : g 0 8 ≤ 4 ∧ g 0 9 ≤ 5 ∧ g 0 11 ≤ 8 := hB.c
  refine m_aload_n hC 0 dX10_funds_0 rfl rfl ?_
  refine m_iload_n hC 1 dX10_funds_1 rfl rfl ?_
  refine m_iconst hC dX10_funds_2 ?_
  refine m_sipush hC dX10_funds_3 (by decide) ?_
  refine m_callS hC (t_X10_isIn hF hl (z := x) (lo := 1) (hi := 999) (by omega)) dX10_funds_6 kc_X10_isIn kS_X10_69 rfl rfl (Nat.le_of_ble_eq_true rfl) (by decide) (by decide) m_nox (fun v9 M1 h9 => ?_)
  obtain ⟨rfl, h9⟩ := h9
  replace h9 := h9.symm
  subst h9
  refine m_callV hC (t_X10_goes hF hl hV ha hB (z := b01 (1 ≤ x ∧ x ≤ 999)) (by first | exact b01_r | omega)) dX10_funds_9 kc_X10_goes kV_X10_61 hV.ob rfl rfl rfl rfl (Nat.le_of_ble_eq_true rfl) (by decide) (by decide) m_nox (fun v9 M2 h9 => ?_)
  obtain ⟨rfl, R3, f4⟩ := h9
  refine m_if_ne (tgt := 17) hC dX10_funds_12 (by decide) b01_r (fun ch => ?_) (fun ch => ?_)
  · have k1 := b01_ne.mp (b01_ne.mp ch)
    rw [if_neg (b01_ne.mp ch)] at R3
    have h1 := hB.s 1 (by omega)
    refine m_aload_n hC 0 dX10_funds_17 rfl rfl ?_
    refine m_getf hC dX10_funds_18 kf_X10_9 R3.ob rfl ?_
    refine m_iconst hC dX10_funds_21 ?_
    refine m_dup2 hC dX10_funds_22 rfl rfl ?_
    refine m_n0 hC R3 dX10_funds_23 (by decide) ?_
    refine m_iload_n hC 1 dX10_funds_24 rfl rfl ?_
    refine m_iadd hC dX10_funds_25 ?_
    refine m_s0 hC R3 ha (by first | exact hnq | simpa [hs_at] using hnq) dX10_funds_26 (by decide) (fun M5 R6 f7 => ?_)
    refine m_aload_n hC 0 dX10_funds_27 rfl rfl ?_
    refine m_getf hC dX10_funds_28 kf_X10_9 R6.ob rfl ?_
    refine m_iconst hC dX10_funds_31 ?_
    refine m_dup2 hC dX10_funds_32 rfl rfl ?_
    refine m_n0 hC R6 dX10_funds_33 (by decide) ?_
    refine m_iload_n hC 1 dX10_funds_34 rfl rfl ?_
    refine m_iadd hC dX10_funds_35 ?_
    refine m_s0 hC R6 ha (by first | exact hnq | simpa [hs_at] using hnq) dX10_funds_36 (by decide) (fun M8 R9 f10 => ?_)
    refine m_aload_n hC 0 dX10_funds_37 rfl rfl ?_
    refine m_getf hC dX10_funds_38 kf_X10_9 R9.ob rfl ?_
    refine m_iconst hC dX10_funds_41 ?_
    refine m_n0 hC R9 dX10_funds_42 (by decide) ?_
    exact m_iret hC dX10_funds_43 hr (by decide) (by decide) (m_opy (z := g 0 1 + x) (g := hs (hs g 0 1 (g 0 1 + x)) 0 2 (g 0 2 + x)) (by unfold S_fund; rw [if_neg (by omega)]) (by omega) R9 (f4.tr (f7.tr f10)))
  · refine m_iconst hC dX10_funds_15 ?_
    exact m_iret hC dX10_funds_16 hr (by decide) (by decide) (m_opg (fun hP => by unfold S_fund; rw [if_pos (by omega)]; exact ⟨by (try dsimp only); omega, rfl, by simp [o_th, o_ix]⟩) ch R3 f4)

set_option maxHeartbeats 4000000 in
set_option maxRecDepth 100000 in
theorem t_X10_spends {D : va_G} {aC : Nat → ClassId} {s0 : State} {l : Launch} (hF : m_F D aC s0) (hl : l.stackTraces = false) {a : Nat} {w g : h_T} {M : m_M} (hV : mmV a w g M) (ha : s0.heap.size ≤ a) (hB : h_B g) {x : Int} (hx : -2147483648 ≤ x ∧ x < 2147483648) : m_Met D aC s0 l yX10_spends cX10_spends 2 (some .int) 2 (0) (0) [.ref a, VI x] M (m_op a w [-2, -4] (S_spend g x) M) m_nx := by
  refine m_entry (lv := [(0, .ref a), (1, VI x)]) (by decide +kernel) (Nat.le_of_ble_eq_true rfl) rfl hF hl ?_
  intro p e s m args below meth c hC hr hno hnm
  change m_C D aC s0 RX10 _ _ _ _ _ _ _ _ _ at hC
  have hn8 := hB.n8
  have hn9 := hB.n9
  have hn11 := hB.n11
  have hnq : g 0 8 ≤ 4 ∧ g 0 9 ≤ 5 ∧ g 0 11 ≤ 8 := hB.c
  have h1 := hB.s 1 (by omega)
  refine m_aload_n hC 0 dX10_spends_0 rfl rfl ?_
  refine m_iload_n hC 1 dX10_spends_1 rfl rfl ?_
  refine m_iconst hC dX10_spends_2 ?_
  refine m_sipush hC dX10_spends_3 (by decide) ?_
  refine m_callS hC (t_X10_isIn hF hl (z := x) (lo := 1) (hi := 999) (by omega)) dX10_spends_6 kc_X10_isIn kS_X10_69 rfl rfl (Nat.le_of_ble_eq_true rfl) (by decide) (by decide) m_nox (fun v9 M1 h9 => ?_)
  obtain ⟨rfl, h9⟩ := h9
  replace h9 := h9.symm
  subst h9
  refine m_iload_n hC 1 dX10_spends_9 rfl rfl ?_
  refine m_aload_n hC 0 dX10_spends_10 rfl rfl ?_
  refine m_getf hC dX10_spends_11 kf_X10_9 hV.ob rfl ?_
  refine m_iconst hC dX10_spends_14 ?_
  refine m_n0 hC hV dX10_spends_15 (by decide) ?_
  refine m_dia_icmp_gt hC dX10_spends_16 dX10_spends_19 dX10_spends_20 dX10_spends_23 rfl rfl (by first | omega | (simp [hs_at] <;> omega)) ?_
  refine m_iconst hC dX10_spends_24 ?_
  refine m_iconst hC dX10_spends_25 ?_
  refine m_callV hC (t_X10_holds hF hl hV ha hB (b1 := b01 (1 ≤ x ∧ x ≤ 999)) (b2 := b01 (x ≤ g 0 1)) (b3 := 1) (b4 := 1) (by first | exact b01_r | decide | omega) (by first | exact b01_r | decide | omega) (by first | exact b01_r | decide | omega) (by first | exact b01_r | decide | omega)) dX10_spends_26 kc_X10_holds kV_X10_47 hV.ob rfl rfl rfl rfl (Nat.le_of_ble_eq_true rfl) (by decide) (by decide) m_nox (fun v9 M2 h9 => ?_)
  obtain ⟨rfl, R3, f4⟩ := h9
  refine m_if_ne (tgt := 34) hC dX10_spends_29 (by decide) b01_r (fun ch => ?_) (fun ch => ?_)
  · have c0 := b01_ne.mp ch
    rw [c0] at R3
    obtain ⟨k1, k2, k3, k4⟩ := m_th0.mp c0
    have k1 := b01_ne.mp k1
    have k2 := b01_ne.mp k2
    refine m_aload_n hC 0 dX10_spends_34 rfl rfl ?_
    refine m_getf hC dX10_spends_35 kf_X10_9 R3.ob rfl ?_
    refine m_iconst hC dX10_spends_38 ?_
    refine m_dup2 hC dX10_spends_39 rfl rfl ?_
    refine m_n0 hC R3 dX10_spends_40 (by decide) ?_
    refine m_iload_n hC 1 dX10_spends_41 rfl rfl ?_
    refine m_isub hC dX10_spends_42 ?_
    refine m_s0 hC R3 ha (by first | exact hnq | simpa [hs_at] using hnq) dX10_spends_43 (by decide) (fun M5 R6 f7 => ?_)
    refine m_aload_n hC 0 dX10_spends_44 rfl rfl ?_
    refine m_getf hC dX10_spends_45 kf_X10_9 R6.ob rfl ?_
    refine m_iconst hC dX10_spends_48 ?_
    refine m_dup2 hC dX10_spends_49 rfl rfl ?_
    refine m_n0 hC R6 dX10_spends_50 (by decide) ?_
    refine m_iload_n hC 1 dX10_spends_51 rfl rfl ?_
    refine m_iadd hC dX10_spends_52 ?_
    refine m_s0 hC R6 ha (by first | exact hnq | simpa [hs_at] using hnq) dX10_spends_53 (by decide) (fun M8 R9 f10 => ?_)
    refine m_aload_n hC 0 dX10_spends_54 rfl rfl ?_
    refine m_getf hC dX10_spends_55 kf_X10_9 R9.ob rfl ?_
    refine m_iconst hC dX10_spends_58 ?_
    refine m_n0 hC R9 dX10_spends_59 (by decide) ?_
    exact m_iret hC dX10_spends_60 hr (by decide) (by decide) (m_opy (z := g 0 1 - x) (g := hs (hs g 0 1 (g 0 1 - x)) 0 3 (g 0 3 + x)) (by unfold S_spend; rw [if_neg (by omega), if_neg (by omega)]) (by omega) R9 (f4.tr (f7.tr f10)))
  · refine m_iconst hC dX10_spends_32 ?_
    exact m_iret hC dX10_spends_33 hr (by decide) (by decide) (m_opn (by unfold S_spend; (repeat' split) <;> first | (refine ⟨(by dsimp only; omega), rfl, ?_⟩; simp only [m_th, b01_eq]; (repeat' split) <;> first | omega | (simp [o_th, o_ix])) | (exfalso; refine (b01_eq.mp ch) ?_; simp only [m_th, b01_eq]; (repeat' split) <;> first | omega | (simp [o_th, o_ix]))) R3 f4)

set_option maxHeartbeats 4000000 in
set_option maxRecDepth 100000 in
theorem t_X10_banishes1 {D : va_G} {aC : Nat → ClassId} {s0 : State} {l : Launch} (hF : m_F D aC s0) (hl : l.stackTraces = false) {a : Nat} {w g : h_T} {M : m_M} (hV : mmV a w g M) (ha : s0.heap.size ≤ a) (hB : h_B g) {x : Int} (hx : -2147483648 ≤ x ∧ x < 2147483648) : m_Met D aC s0 l yX10_banishes cX10_banishes 3 (some .int) 4 (0) (0) [.ref a, VI x, VI 1] M (m_op a w [-1, -3] (S_banish g x) M) m_nx := by
  refine m_entry (lv := [(0, .ref a), (1, VI x), (2, VI 1)]) (by decide +kernel) (Nat.le_of_ble_eq_true rfl) rfl hF hl ?_
  intro p e s m args below meth c hC hr hno hnm
  change m_C D aC s0 RX10 _ _ _ _ _ _ _ _ _ at hC
  have hn8 := hB.n8
  have hn9 := hB.n9
  have hn11 := hB.n11
  have hnq : g 0 8 ≤ 4 ∧ g 0 9 ≤ 5 ∧ g 0 11 ≤ 8 := hB.c
  refine m_aload_n hC 0 dX10_banishes_0 rfl rfl ?_
  refine m_aload_n hC 0 dX10_banishes_1 rfl rfl ?_
  refine m_iload_n hC 1 dX10_banishes_2 rfl rfl ?_
  refine m_callV hC (t_X10_isBroom hF hl hV ha hB (x := x) hx) dX10_banishes_3 kc_X10_isBroom kV_X10_73 hV.ob rfl rfl rfl rfl (Nat.le_of_ble_eq_true rfl) (by decide) (by decide) m_nox (fun v9 M1 h9 => ?_)
  obtain ⟨rfl, h9⟩ := h9
  replace h9 := h9.symm
  subst h9
  by_cases hv0 : 0 ≤ x ∧ x < g 0 8
  · refine m_aload_n hC 0 dX10_banishes_6 rfl rfl ?_
    refine m_iload_n hC 1 dX10_banishes_7 rfl rfl ?_
    refine m_iconst hC dX10_banishes_8 ?_
    refine m_callV hC (t_X10_ofBroom hF hl hV ha hB (x := x) (y := 1) 3 rfl (by decide) hv0) dX10_banishes_9 kc_X10_ofBroom kV_X10_87 hV.ob rfl rfl rfl rfl (Nat.le_of_ble_eq_true rfl) (by decide) (by decide) m_nox (fun v9 M2 h9 => ?_)
    obtain ⟨rfl, h9⟩ := h9
    replace h9 := h9.symm
    subst h9
    refine m_iload_n hC 2 dX10_banishes_12 rfl rfl ?_
    have hbr := hB.br hv0
    refine m_dia_icmp_eq hC dX10_banishes_13 dX10_banishes_16 dX10_banishes_17 dX10_banishes_20 rfl rfl (by first | omega | (simp [hs_at] <;> omega)) ?_
    refine m_iconst hC dX10_banishes_21 ?_
    refine m_iconst hC dX10_banishes_22 ?_
    refine m_callV hC (t_X10_holds hF hl hV ha hB (b1 := b01 (0 ≤ x ∧ x < g 0 8)) (b2 := b01 (g 3 x ≠ 1)) (b3 := 1) (b4 := 1) (by first | exact b01_r | decide | omega) (by first | exact b01_r | decide | omega) (by first | exact b01_r | decide | omega) (by first | exact b01_r | decide | omega)) dX10_banishes_23 kc_X10_holds kV_X10_47 hV.ob rfl rfl rfl rfl (Nat.le_of_ble_eq_true rfl) (by decide) (by decide) m_nox (fun v9 M3 h9 => ?_)
    obtain ⟨rfl, R4, f5⟩ := h9
    refine m_if_ne (tgt := 31) hC dX10_banishes_26 (by decide) b01_r (fun ch => ?_) (fun ch => ?_)
    · have c0 := b01_ne.mp ch
      rw [c0] at R4
      obtain ⟨k1, k2, k3, k4⟩ := m_th0.mp c0
      have k1 := b01_ne.mp k1
      have k2 := b01_ne.mp k2
      have hB3 : h_B (hs g 3 x 1) := hB.st3 (by omega) (by decide)
      have hui := S_inUse_bd hB3
      refine m_aload_n hC 0 dX10_banishes_31 rfl rfl ?_
      refine m_getf hC dX10_banishes_32 kf_X10_9 R4.ob rfl ?_
      refine m_bipush hC dX10_banishes_35 (by decide) ?_
      refine m_iconst hC dX10_banishes_37 ?_
      refine m_iload_n hC 1 dX10_banishes_38 rfl rfl ?_
      refine m_imul hC dX10_banishes_39 ?_
      refine m_iadd hC dX10_banishes_40 ?_
      refine m_iconst hC dX10_banishes_41 ?_
      refine m_iadd hC dX10_banishes_42 ?_
      refine m_iload_n hC 2 dX10_banishes_43 rfl rfl ?_
      refine m_s3 hC (x) R4 ha (by first | exact hnq | simpa [hs_at] using hnq) dX10_banishes_44 (by omega) (by omega) (fun M6 R7 f8 => ?_)
      refine m_aload_n hC 0 dX10_banishes_45 rfl rfl ?_
      refine m_callV hC (t_X10_inUse hF hl R7 ha hB3) dX10_banishes_46 kc_X10_inUse kV_X10_98 R7.ob rfl rfl rfl rfl (Nat.le_of_ble_eq_true rfl) (by decide) (by decide) m_nox (fun v9 M9 h9 => ?_)
      obtain ⟨rfl, h9⟩ := h9
      replace h9 := h9.symm
      subst h9
      exact m_iret hC dX10_banishes_49 hr (by decide) (by decide) (m_opy (z := S_inUse (hs g 3 x 1)) (g := hs g 3 x 1) (by unfold S_banish; rw [if_neg (by omega), if_neg (by omega)]) (by omega) R7 (f5.tr f8))
    · refine m_iconst hC dX10_banishes_29 ?_
      exact m_iret hC dX10_banishes_30 hr (by decide) (by decide) (m_opn (by unfold S_banish; (repeat' split) <;> first | (refine ⟨(by dsimp only; omega), rfl, ?_⟩; simp only [m_th, b01_eq]; (repeat' split) <;> first | omega | (simp [o_th, o_ix])) | (exfalso; refine (b01_eq.mp ch) ?_; simp only [m_th, b01_eq]; (repeat' split) <;> first | omega | (simp [o_th, o_ix]))) R4 f5)
  · refine m_aload_n hC 0 dX10_banishes_6 rfl rfl ?_
    refine m_iload_n hC 1 dX10_banishes_7 rfl rfl ?_
    refine m_iconst hC dX10_banishes_8 ?_
    refine m_callV hC (t_X10_ofBroom_y hF hl hV ha hB (x := x) (y := 1) hx (by decide)) dX10_banishes_9 kc_X10_ofBroom kV_X10_87 hV.ob rfl rfl rfl rfl (Nat.le_of_ble_eq_true rfl) (by decide) (by decide) m_nox (fun v9 M10 h9 => ?_)
    obtain ⟨⟨z9, rfl, hz9⟩, h9⟩ := h9
    replace h9 := h9.symm
    subst h9
    refine m_iload_n hC 2 dX10_banishes_12 rfl rfl ?_
    refine m_dia_icmp_eq hC dX10_banishes_13 dX10_banishes_16 dX10_banishes_17 dX10_banishes_20 rfl rfl (by first | omega | (simp [hs_at] <;> omega)) ?_
    refine m_iconst hC dX10_banishes_21 ?_
    refine m_iconst hC dX10_banishes_22 ?_
    refine m_callV hC (t_X10_holds hF hl hV ha hB (b1 := b01 (0 ≤ x ∧ x < g 0 8)) (b2 := b01 (z9 ≠ 1)) (b3 := 1) (b4 := 1) (by first | exact b01_r | decide | omega) (by first | exact b01_r | decide | omega) (by first | exact b01_r | decide | omega) (by first | exact b01_r | decide | omega)) dX10_banishes_23 kc_X10_holds kV_X10_47 hV.ob rfl rfl rfl rfl (Nat.le_of_ble_eq_true rfl) (by decide) (by decide) m_nox (fun v9 M11 h9 => ?_)
    obtain ⟨rfl, R12, f13⟩ := h9
    refine m_if_ne (tgt := 31) hC dX10_banishes_26 (by decide) b01_r (fun ch => ?_) (fun ch => ?_)
    · have c0 := b01_ne.mp ch
      rw [c0] at R12
      obtain ⟨k1, k2, k3, k4⟩ := m_th0.mp c0
      have k1 := b01_ne.mp k1
      have k2 := b01_ne.mp k2
      exact absurd k1 hv0
    · refine m_iconst hC dX10_banishes_29 ?_
      exact m_iret hC dX10_banishes_30 hr (by decide) (by decide) (m_opn (by unfold S_banish; (repeat' split) <;> first | (refine ⟨(by dsimp only; omega), rfl, ?_⟩; simp only [m_th, b01_eq]; (repeat' split) <;> first | omega | (simp [o_th, o_ix])) | (exfalso; refine (b01_eq.mp ch) ?_; simp only [m_th, b01_eq]; (repeat' split) <;> first | omega | (simp [o_th, o_ix]))) R12 f13)

set_option maxHeartbeats 4000000 in
set_option maxRecDepth 100000 in
theorem t_X10_banishes0 {D : va_G} {aC : Nat → ClassId} {s0 : State} {l : Launch} (hF : m_F D aC s0) (hl : l.stackTraces = false) {a : Nat} {w g : h_T} {M : m_M} (hV : mmV a w g M) (ha : s0.heap.size ≤ a) (hB : h_B g) {x : Int} (hx : -2147483648 ≤ x ∧ x < 2147483648) : m_Met D aC s0 l yX10_banishes cX10_banishes 3 (some .int) 4 (0) (0) [.ref a, VI x, VI 0] M (m_op a w [-1, -3] (S_recall g x) M) m_nx := by
  refine m_entry (lv := [(0, .ref a), (1, VI x), (2, VI 0)]) (by decide +kernel) (Nat.le_of_ble_eq_true rfl) rfl hF hl ?_
  intro p e s m args below meth c hC hr hno hnm
  change m_C D aC s0 RX10 _ _ _ _ _ _ _ _ _ at hC
  have hn8 := hB.n8
  have hn9 := hB.n9
  have hn11 := hB.n11
  have hnq : g 0 8 ≤ 4 ∧ g 0 9 ≤ 5 ∧ g 0 11 ≤ 8 := hB.c
  refine m_aload_n hC 0 dX10_banishes_0 rfl rfl ?_
  refine m_aload_n hC 0 dX10_banishes_1 rfl rfl ?_
  refine m_iload_n hC 1 dX10_banishes_2 rfl rfl ?_
  refine m_callV hC (t_X10_isBroom hF hl hV ha hB (x := x) hx) dX10_banishes_3 kc_X10_isBroom kV_X10_73 hV.ob rfl rfl rfl rfl (Nat.le_of_ble_eq_true rfl) (by decide) (by decide) m_nox (fun v9 M1 h9 => ?_)
  obtain ⟨rfl, h9⟩ := h9
  replace h9 := h9.symm
  subst h9
  by_cases hv0 : 0 ≤ x ∧ x < g 0 8
  · refine m_aload_n hC 0 dX10_banishes_6 rfl rfl ?_
    refine m_iload_n hC 1 dX10_banishes_7 rfl rfl ?_
    refine m_iconst hC dX10_banishes_8 ?_
    refine m_callV hC (t_X10_ofBroom hF hl hV ha hB (x := x) (y := 1) 3 rfl (by decide) hv0) dX10_banishes_9 kc_X10_ofBroom kV_X10_87 hV.ob rfl rfl rfl rfl (Nat.le_of_ble_eq_true rfl) (by decide) (by decide) m_nox (fun v9 M2 h9 => ?_)
    obtain ⟨rfl, h9⟩ := h9
    replace h9 := h9.symm
    subst h9
    refine m_iload_n hC 2 dX10_banishes_12 rfl rfl ?_
    have hbr := hB.br hv0
    refine m_dia_icmp_eq hC dX10_banishes_13 dX10_banishes_16 dX10_banishes_17 dX10_banishes_20 rfl rfl (by first | omega | (simp [hs_at] <;> omega)) ?_
    refine m_iconst hC dX10_banishes_21 ?_
    refine m_iconst hC dX10_banishes_22 ?_
    refine m_callV hC (t_X10_holds hF hl hV ha hB (b1 := b01 (0 ≤ x ∧ x < g 0 8)) (b2 := b01 (g 3 x ≠ 0)) (b3 := 1) (b4 := 1) (by first | exact b01_r | decide | omega) (by first | exact b01_r | decide | omega) (by first | exact b01_r | decide | omega) (by first | exact b01_r | decide | omega)) dX10_banishes_23 kc_X10_holds kV_X10_47 hV.ob rfl rfl rfl rfl (Nat.le_of_ble_eq_true rfl) (by decide) (by decide) m_nox (fun v9 M3 h9 => ?_)
    obtain ⟨rfl, R4, f5⟩ := h9
    refine m_if_ne (tgt := 31) hC dX10_banishes_26 (by decide) b01_r (fun ch => ?_) (fun ch => ?_)
    · have c0 := b01_ne.mp ch
      rw [c0] at R4
      obtain ⟨k1, k2, k3, k4⟩ := m_th0.mp c0
      have k1 := b01_ne.mp k1
      have k2 := b01_ne.mp k2
      have hB3 : h_B (hs g 3 x 0) := hB.st3 (by omega) (by decide)
      have hui := S_inUse_bd hB3
      refine m_aload_n hC 0 dX10_banishes_31 rfl rfl ?_
      refine m_getf hC dX10_banishes_32 kf_X10_9 R4.ob rfl ?_
      refine m_bipush hC dX10_banishes_35 (by decide) ?_
      refine m_iconst hC dX10_banishes_37 ?_
      refine m_iload_n hC 1 dX10_banishes_38 rfl rfl ?_
      refine m_imul hC dX10_banishes_39 ?_
      refine m_iadd hC dX10_banishes_40 ?_
      refine m_iconst hC dX10_banishes_41 ?_
      refine m_iadd hC dX10_banishes_42 ?_
      refine m_iload_n hC 2 dX10_banishes_43 rfl rfl ?_
      refine m_s3 hC (x) R4 ha (by first | exact hnq | simpa [hs_at] using hnq) dX10_banishes_44 (by omega) (by omega) (fun M6 R7 f8 => ?_)
      refine m_aload_n hC 0 dX10_banishes_45 rfl rfl ?_
      refine m_callV hC (t_X10_inUse hF hl R7 ha hB3) dX10_banishes_46 kc_X10_inUse kV_X10_98 R7.ob rfl rfl rfl rfl (Nat.le_of_ble_eq_true rfl) (by decide) (by decide) m_nox (fun v9 M9 h9 => ?_)
      obtain ⟨rfl, h9⟩ := h9
      replace h9 := h9.symm
      subst h9
      exact m_iret hC dX10_banishes_49 hr (by decide) (by decide) (m_opy (z := S_inUse (hs g 3 x 0)) (g := hs g 3 x 0) (by unfold S_recall; rw [if_neg (by omega), if_neg (by omega)]) (by omega) R7 (f5.tr f8))
    · refine m_iconst hC dX10_banishes_29 ?_
      exact m_iret hC dX10_banishes_30 hr (by decide) (by decide) (m_opn (by unfold S_recall; (repeat' split) <;> first | (refine ⟨(by dsimp only; omega), rfl, ?_⟩; simp only [m_th, b01_eq]; (repeat' split) <;> first | omega | (simp [o_th, o_ix])) | (exfalso; refine (b01_eq.mp ch) ?_; simp only [m_th, b01_eq]; (repeat' split) <;> first | omega | (simp [o_th, o_ix]))) R4 f5)
  · refine m_aload_n hC 0 dX10_banishes_6 rfl rfl ?_
    refine m_iload_n hC 1 dX10_banishes_7 rfl rfl ?_
    refine m_iconst hC dX10_banishes_8 ?_
    refine m_callV hC (t_X10_ofBroom_y hF hl hV ha hB (x := x) (y := 1) hx (by decide)) dX10_banishes_9 kc_X10_ofBroom kV_X10_87 hV.ob rfl rfl rfl rfl (Nat.le_of_ble_eq_true rfl) (by decide) (by decide) m_nox (fun v9 M10 h9 => ?_)
    obtain ⟨⟨z9, rfl, hz9⟩, h9⟩ := h9
    replace h9 := h9.symm
    subst h9
    refine m_iload_n hC 2 dX10_banishes_12 rfl rfl ?_
    refine m_dia_icmp_eq hC dX10_banishes_13 dX10_banishes_16 dX10_banishes_17 dX10_banishes_20 rfl rfl (by first | omega | (simp [hs_at] <;> omega)) ?_
    refine m_iconst hC dX10_banishes_21 ?_
    refine m_iconst hC dX10_banishes_22 ?_
    refine m_callV hC (t_X10_holds hF hl hV ha hB (b1 := b01 (0 ≤ x ∧ x < g 0 8)) (b2 := b01 (z9 ≠ 0)) (b3 := 1) (b4 := 1) (by first | exact b01_r | decide | omega) (by first | exact b01_r | decide | omega) (by first | exact b01_r | decide | omega) (by first | exact b01_r | decide | omega)) dX10_banishes_23 kc_X10_holds kV_X10_47 hV.ob rfl rfl rfl rfl (Nat.le_of_ble_eq_true rfl) (by decide) (by decide) m_nox (fun v9 M11 h9 => ?_)
    obtain ⟨rfl, R12, f13⟩ := h9
    refine m_if_ne (tgt := 31) hC dX10_banishes_26 (by decide) b01_r (fun ch => ?_) (fun ch => ?_)
    · have c0 := b01_ne.mp ch
      rw [c0] at R12
      obtain ⟨k1, k2, k3, k4⟩ := m_th0.mp c0
      have k1 := b01_ne.mp k1
      have k2 := b01_ne.mp k2
      exact absurd k1 hv0
    · refine m_iconst hC dX10_banishes_29 ?_
      exact m_iret hC dX10_banishes_30 hr (by decide) (by decide) (m_opn (by unfold S_recall; (repeat' split) <;> first | (refine ⟨(by dsimp only; omega), rfl, ?_⟩; simp only [m_th, b01_eq]; (repeat' split) <;> first | omega | (simp [o_th, o_ix])) | (exfalso; refine (b01_eq.mp ch) ?_; simp only [m_th, b01_eq]; (repeat' split) <;> first | omega | (simp [o_th, o_ix]))) R12 f13)

set_option maxHeartbeats 4000000 in
set_option maxRecDepth 100000 in
theorem t_X10_rests1 {D : va_G} {aC : Nat → ClassId} {s0 : State} {l : Launch} (hF : m_F D aC s0) (hl : l.stackTraces = false) {a : Nat} {w g : h_T} {M : m_M} (hV : mmV a w g M) (ha : s0.heap.size ≤ a) (hB : h_B g) {x : Int} (hx : -2147483648 ≤ x ∧ x < 2147483648) : m_Met D aC s0 l yX10_rests cX10_rests 5 (some .int) 4 (0) (0) [.ref a, VI x, VI 1] M (m_op a w [-1, -3] (S_rest g x) M) m_nx := by
  refine m_entry (lv := [(0, .ref a), (1, VI x), (2, VI 1)]) (by decide +kernel) (Nat.le_of_ble_eq_true rfl) rfl hF hl ?_
  intro p e s m args below meth c hC hr hno hnm
  change m_C D aC s0 RX10 _ _ _ _ _ _ _ _ _ at hC
  have hn8 := hB.n8
  have hn9 := hB.n9
  have hn11 := hB.n11
  have hnq : g 0 8 ≤ 4 ∧ g 0 9 ≤ 5 ∧ g 0 11 ≤ 8 := hB.c
  refine m_aload_n hC 0 dX10_rests_0 rfl rfl ?_
  refine m_aload_n hC 0 dX10_rests_1 rfl rfl ?_
  refine m_iload_n hC 1 dX10_rests_2 rfl rfl ?_
  refine m_callV hC (t_X10_isGoblin hF hl hV ha hB (x := x) hx) dX10_rests_3 kc_X10_isGoblin kV_X10_77 hV.ob rfl rfl rfl rfl (Nat.le_of_ble_eq_true rfl) (by decide) (by decide) m_nox (fun v9 M1 h9 => ?_)
  obtain ⟨rfl, h9⟩ := h9
  replace h9 := h9.symm
  subst h9
  by_cases hv0 : 0 ≤ x ∧ x < g 0 9
  · refine m_aload_n hC 0 dX10_rests_6 rfl rfl ?_
    refine m_iload_n hC 1 dX10_rests_7 rfl rfl ?_
    refine m_iconst hC dX10_rests_8 ?_
    refine m_callV hC (t_X10_of hF hl hV ha hB (x := x) (y := 4) 8 rfl (by decide) hv0) dX10_rests_9 kc_X10_of kV_X10_95 hV.ob rfl rfl rfl rfl (Nat.le_of_ble_eq_true rfl) (by decide) (by decide) m_nox (fun v9 M2 h9 => ?_)
    obtain ⟨rfl, h9⟩ := h9
    replace h9 := h9.symm
    subst h9
    refine m_iload_n hC 2 dX10_rests_12 rfl rfl ?_
    have hbr := hB.go hv0
    refine m_dia_icmp_eq hC dX10_rests_13 dX10_rests_16 dX10_rests_17 dX10_rests_20 rfl rfl (by first | omega | (simp [hs_at] <;> omega)) ?_
    refine m_iconst hC dX10_rests_21 ?_
    refine m_iconst hC dX10_rests_22 ?_
    refine m_callV hC (t_X10_holds hF hl hV ha hB (b1 := b01 (0 ≤ x ∧ x < g 0 9)) (b2 := b01 (g 8 x ≠ 1)) (b3 := 1) (b4 := 1) (by first | exact b01_r | decide | omega) (by first | exact b01_r | decide | omega) (by first | exact b01_r | decide | omega) (by first | exact b01_r | decide | omega)) dX10_rests_23 kc_X10_holds kV_X10_47 hV.ob rfl rfl rfl rfl (Nat.le_of_ble_eq_true rfl) (by decide) (by decide) m_nox (fun v9 M3 h9 => ?_)
    obtain ⟨rfl, R4, f5⟩ := h9
    refine m_if_ne (tgt := 31) hC dX10_rests_26 (by decide) b01_r (fun ch => ?_) (fun ch => ?_)
    · have c0 := b01_ne.mp ch
      rw [c0] at R4
      obtain ⟨k1, k2, k3, k4⟩ := m_th0.mp c0
      have k1 := b01_ne.mp k1
      have k2 := b01_ne.mp k2
      have hB3 : h_B (hs g 8 x 1) := hB.st8 (by omega) (by decide)
      have hui := S_resting_bd hB3
      refine m_aload_n hC 0 dX10_rests_31 rfl rfl ?_
      refine m_getf hC dX10_rests_32 kf_X10_9 R4.ob rfl ?_
      refine m_aload_n hC 0 dX10_rests_35 rfl rfl ?_
      refine m_iload_n hC 1 dX10_rests_36 rfl rfl ?_
      refine m_iconst hC dX10_rests_37 ?_
      refine m_callV hC (t_X10_place hF hl R4 ha hB (x := x) (y := 4) hx) dX10_rests_38 kc_X10_place kV_X10_80 R4.ob rfl rfl rfl rfl (Nat.le_of_ble_eq_true rfl) (by decide) (by decide) m_nox (fun v9 M6 h9 => ?_)
      obtain ⟨rfl, h9⟩ := h9
      replace h9 := h9.symm
      subst h9
      rw [if_pos hv0]
      refine m_iload_n hC 2 dX10_rests_41 rfl rfl ?_
      refine m_s8 hC (x) R4 ha (by first | exact hnq | simpa [hs_at] using hnq) dX10_rests_42 (by omega) (by omega) (fun M7 R8 f9 => ?_)
      refine m_iconst hC dX10_rests_43 ?_
      refine m_istore_n hC dX10_rests_44 rfl (by decide) rfl ?_
      refine m_iconst hC dX10_rests_45 ?_
      refine m_istore hC dX10_rests_46 (by decide) rfl ?_
      have hfr0 := (f5.tr f9)
      have e9 : hs g 8 x 1 0 9 = g 0 9 := rfl
      have L : ∀ (n : Nat) (i q : Int), g 0 9 - i < (n : Int) → 0 ≤ i → i ≤ g 0 9 → q = h_sum (fun j => hs g 8 x 1 8 j) i.toNat → m_W D aC s0 5 p l e (m_R 4 (0) (0)) s m args below meth c (0) (0) (m_Q D aC s0 below (m_op a w [-1, -3] (S_rest g x) M) m_nx args s (0) (0)) 48 [(4, VI i), (3, VI q), (2, VI 1), (1, VI x), (0, .ref a)] [] M7 := by
        intro n
        induction n with
        | zero =>
          intro i q hn h0 h1 hq
          omega
        | succ n ih =>
          intro i q hn h0 h1 hq
          refine m_iload hC 0 dX10_rests_48 rfl ?_
          refine m_aload_n hC 4 dX10_rests_50 rfl rfl ?_
          refine m_getf hC dX10_rests_51 kf_X10_9 R8.ob rfl ?_
          refine m_bipush hC dX10_rests_54 (by decide) ?_
          refine m_n0 hC R8 dX10_rests_56 (by decide) ?_
          refine m_icmp_ge (tgt := 76) hC dX10_rests_57 (by decide) (by first | omega | (simp [hs_at] <;> omega)) (fun c10 => ?_) (fun c10 => ?_)
          · refine m_iload_n hC 2 dX10_rests_76 rfl rfl ?_
            refine m_iconst hC dX10_rests_77 ?_
            refine m_icmp_ne (tgt := 85) hC dX10_rests_78 (by decide) (by first | omega | (simp [hs_at] <;> omega)) (fun c11 => by omega) (fun c11 => ?_)
            refine m_iload_n hC 1 dX10_rests_81 rfl rfl ?_
            refine m_goto (tgt := 91) hC dX10_rests_82 (by decide) ?_
            rw [show q = S_resting (hs g 8 x 1) by rw [hq]; unfold S_resting; congr 1; rw [e9]; omega]
            exact m_iret hC dX10_rests_91 hr (by decide) (by decide) (m_opy (z := S_resting (hs g 8 x 1)) (g := hs g 8 x 1) (by unfold S_rest; rw [if_neg (by omega), if_neg (by omega)]) (by omega) R8 hfr0)
          · refine m_iload_n hC 1 dX10_rests_60 rfl rfl ?_
            refine m_aload_n hC 4 dX10_rests_61 rfl rfl ?_
            refine m_iload hC 0 dX10_rests_62 rfl ?_
            refine m_iconst hC dX10_rests_64 ?_
            refine m_callV hC (t_X10_of hF hl R8 ha hB3 (x := i) (y := 4) 8 rfl (by decide) (by simpa [hs_at] using (show 0 ≤ i ∧ i < g 0 9 by omega))) dX10_rests_65 kc_X10_of kV_X10_95 R8.ob rfl rfl rfl rfl (Nat.le_of_ble_eq_true rfl) (by decide) (by decide) m_nox (fun v9 M12 h9 => ?_)
            obtain ⟨rfl, h9⟩ := h9
            replace h9 := h9.symm
            subst h9
            refine m_iadd hC dX10_rests_68 ?_
            refine m_istore_n hC dX10_rests_69 rfl (by decide) rfl ?_
            refine m_iinc hC 1 dX10_rests_70 rfl (by decide) rfl ?_
            refine m_goto (tgt := 48) hC dX10_rests_73 (by decide) ?_
            refine m_lvs [0, 1, 2, 3, 4] rfl (ih (i + 1) _ (by omega) (by omega) (by omega) (by rw [h_sum_succ _ h0, hq]; try omega))
      refine m_lvs [0, 1, 4, 3, 2] rfl (L ((g 0 9 - 0).toNat + 1) 0 0 (by omega) (by omega) (by omega) rfl)
    · refine m_iconst hC dX10_rests_29 ?_
      exact m_iret hC dX10_rests_30 hr (by decide) (by decide) (m_opn (by unfold S_rest; (repeat' split) <;> first | (refine ⟨(by dsimp only; omega), rfl, ?_⟩; simp only [m_th, b01_eq]; (repeat' split) <;> first | omega | (simp [o_th, o_ix])) | (exfalso; refine (b01_eq.mp ch) ?_; simp only [m_th, b01_eq]; (repeat' split) <;> first | omega | (simp [o_th, o_ix]))) R4 f5)
  · refine m_aload_n hC 0 dX10_rests_6 rfl rfl ?_
    refine m_iload_n hC 1 dX10_rests_7 rfl rfl ?_
    refine m_iconst hC dX10_rests_8 ?_
    refine m_callV hC (t_X10_of_y hF hl hV ha hB (x := x) (y := 4) hx (by decide)) dX10_rests_9 kc_X10_of kV_X10_95 hV.ob rfl rfl rfl rfl (Nat.le_of_ble_eq_true rfl) (by decide) (by decide) m_nox (fun v9 M13 h9 => ?_)
    obtain ⟨⟨z9, rfl, hz9⟩, h9⟩ := h9
    replace h9 := h9.symm
    subst h9
    refine m_iload_n hC 2 dX10_rests_12 rfl rfl ?_
    refine m_dia_icmp_eq hC dX10_rests_13 dX10_rests_16 dX10_rests_17 dX10_rests_20 rfl rfl (by first | omega | (simp [hs_at] <;> omega)) ?_
    refine m_iconst hC dX10_rests_21 ?_
    refine m_iconst hC dX10_rests_22 ?_
    refine m_callV hC (t_X10_holds hF hl hV ha hB (b1 := b01 (0 ≤ x ∧ x < g 0 9)) (b2 := b01 (z9 ≠ 1)) (b3 := 1) (b4 := 1) (by first | exact b01_r | decide | omega) (by first | exact b01_r | decide | omega) (by first | exact b01_r | decide | omega) (by first | exact b01_r | decide | omega)) dX10_rests_23 kc_X10_holds kV_X10_47 hV.ob rfl rfl rfl rfl (Nat.le_of_ble_eq_true rfl) (by decide) (by decide) m_nox (fun v9 M14 h9 => ?_)
    obtain ⟨rfl, R15, f16⟩ := h9
    refine m_if_ne (tgt := 31) hC dX10_rests_26 (by decide) b01_r (fun ch => ?_) (fun ch => ?_)
    · have c0 := b01_ne.mp ch
      rw [c0] at R15
      obtain ⟨k1, k2, k3, k4⟩ := m_th0.mp c0
      have k1 := b01_ne.mp k1
      have k2 := b01_ne.mp k2
      exact absurd k1 hv0
    · refine m_iconst hC dX10_rests_29 ?_
      exact m_iret hC dX10_rests_30 hr (by decide) (by decide) (m_opn (by unfold S_rest; (repeat' split) <;> first | (refine ⟨(by dsimp only; omega), rfl, ?_⟩; simp only [m_th, b01_eq]; (repeat' split) <;> first | omega | (simp [o_th, o_ix])) | (exfalso; refine (b01_eq.mp ch) ?_; simp only [m_th, b01_eq]; (repeat' split) <;> first | omega | (simp [o_th, o_ix]))) R15 f16)

set_option maxHeartbeats 4000000 in
set_option maxRecDepth 100000 in
theorem t_X10_rests0 {D : va_G} {aC : Nat → ClassId} {s0 : State} {l : Launch} (hF : m_F D aC s0) (hl : l.stackTraces = false) {a : Nat} {w g : h_T} {M : m_M} (hV : mmV a w g M) (ha : s0.heap.size ≤ a) (hB : h_B g) {x : Int} (hx : -2147483648 ≤ x ∧ x < 2147483648) : m_Met D aC s0 l yX10_rests cX10_rests 5 (some .int) 4 (0) (0) [.ref a, VI x, VI 0] M (m_op a w [-1, -3] (S_wake g x) M) m_nx := by
  refine m_entry (lv := [(0, .ref a), (1, VI x), (2, VI 0)]) (by decide +kernel) (Nat.le_of_ble_eq_true rfl) rfl hF hl ?_
  intro p e s m args below meth c hC hr hno hnm
  change m_C D aC s0 RX10 _ _ _ _ _ _ _ _ _ at hC
  have hn8 := hB.n8
  have hn9 := hB.n9
  have hn11 := hB.n11
  have hnq : g 0 8 ≤ 4 ∧ g 0 9 ≤ 5 ∧ g 0 11 ≤ 8 := hB.c
  refine m_aload_n hC 0 dX10_rests_0 rfl rfl ?_
  refine m_aload_n hC 0 dX10_rests_1 rfl rfl ?_
  refine m_iload_n hC 1 dX10_rests_2 rfl rfl ?_
  refine m_callV hC (t_X10_isGoblin hF hl hV ha hB (x := x) hx) dX10_rests_3 kc_X10_isGoblin kV_X10_77 hV.ob rfl rfl rfl rfl (Nat.le_of_ble_eq_true rfl) (by decide) (by decide) m_nox (fun v9 M1 h9 => ?_)
  obtain ⟨rfl, h9⟩ := h9
  replace h9 := h9.symm
  subst h9
  by_cases hv0 : 0 ≤ x ∧ x < g 0 9
  · refine m_aload_n hC 0 dX10_rests_6 rfl rfl ?_
    refine m_iload_n hC 1 dX10_rests_7 rfl rfl ?_
    refine m_iconst hC dX10_rests_8 ?_
    refine m_callV hC (t_X10_of hF hl hV ha hB (x := x) (y := 4) 8 rfl (by decide) hv0) dX10_rests_9 kc_X10_of kV_X10_95 hV.ob rfl rfl rfl rfl (Nat.le_of_ble_eq_true rfl) (by decide) (by decide) m_nox (fun v9 M2 h9 => ?_)
    obtain ⟨rfl, h9⟩ := h9
    replace h9 := h9.symm
    subst h9
    refine m_iload_n hC 2 dX10_rests_12 rfl rfl ?_
    have hbr := hB.go hv0
    refine m_dia_icmp_eq hC dX10_rests_13 dX10_rests_16 dX10_rests_17 dX10_rests_20 rfl rfl (by first | omega | (simp [hs_at] <;> omega)) ?_
    refine m_iconst hC dX10_rests_21 ?_
    refine m_iconst hC dX10_rests_22 ?_
    refine m_callV hC (t_X10_holds hF hl hV ha hB (b1 := b01 (0 ≤ x ∧ x < g 0 9)) (b2 := b01 (g 8 x ≠ 0)) (b3 := 1) (b4 := 1) (by first | exact b01_r | decide | omega) (by first | exact b01_r | decide | omega) (by first | exact b01_r | decide | omega) (by first | exact b01_r | decide | omega)) dX10_rests_23 kc_X10_holds kV_X10_47 hV.ob rfl rfl rfl rfl (Nat.le_of_ble_eq_true rfl) (by decide) (by decide) m_nox (fun v9 M3 h9 => ?_)
    obtain ⟨rfl, R4, f5⟩ := h9
    refine m_if_ne (tgt := 31) hC dX10_rests_26 (by decide) b01_r (fun ch => ?_) (fun ch => ?_)
    · have c0 := b01_ne.mp ch
      rw [c0] at R4
      obtain ⟨k1, k2, k3, k4⟩ := m_th0.mp c0
      have k1 := b01_ne.mp k1
      have k2 := b01_ne.mp k2
      have hB3 : h_B (hs g 8 x 0) := hB.st8 (by omega) (by decide)
      have hui := S_resting_bd hB3
      refine m_aload_n hC 0 dX10_rests_31 rfl rfl ?_
      refine m_getf hC dX10_rests_32 kf_X10_9 R4.ob rfl ?_
      refine m_aload_n hC 0 dX10_rests_35 rfl rfl ?_
      refine m_iload_n hC 1 dX10_rests_36 rfl rfl ?_
      refine m_iconst hC dX10_rests_37 ?_
      refine m_callV hC (t_X10_place hF hl R4 ha hB (x := x) (y := 4) hx) dX10_rests_38 kc_X10_place kV_X10_80 R4.ob rfl rfl rfl rfl (Nat.le_of_ble_eq_true rfl) (by decide) (by decide) m_nox (fun v9 M6 h9 => ?_)
      obtain ⟨rfl, h9⟩ := h9
      replace h9 := h9.symm
      subst h9
      rw [if_pos hv0]
      refine m_iload_n hC 2 dX10_rests_41 rfl rfl ?_
      refine m_s8 hC (x) R4 ha (by first | exact hnq | simpa [hs_at] using hnq) dX10_rests_42 (by omega) (by omega) (fun M7 R8 f9 => ?_)
      refine m_iconst hC dX10_rests_43 ?_
      refine m_istore_n hC dX10_rests_44 rfl (by decide) rfl ?_
      refine m_iconst hC dX10_rests_45 ?_
      refine m_istore hC dX10_rests_46 (by decide) rfl ?_
      have hfr0 := (f5.tr f9)
      have e9 : hs g 8 x 0 0 9 = g 0 9 := rfl
      have L : ∀ (n : Nat) (i q : Int), g 0 9 - i < (n : Int) → 0 ≤ i → i ≤ g 0 9 → q = h_sum (fun j => hs g 8 x 0 8 j) i.toNat → m_W D aC s0 5 p l e (m_R 4 (0) (0)) s m args below meth c (0) (0) (m_Q D aC s0 below (m_op a w [-1, -3] (S_wake g x) M) m_nx args s (0) (0)) 48 [(4, VI i), (3, VI q), (2, VI 0), (1, VI x), (0, .ref a)] [] M7 := by
        intro n
        induction n with
        | zero =>
          intro i q hn h0 h1 hq
          omega
        | succ n ih =>
          intro i q hn h0 h1 hq
          refine m_iload hC 0 dX10_rests_48 rfl ?_
          refine m_aload_n hC 4 dX10_rests_50 rfl rfl ?_
          refine m_getf hC dX10_rests_51 kf_X10_9 R8.ob rfl ?_
          refine m_bipush hC dX10_rests_54 (by decide) ?_
          refine m_n0 hC R8 dX10_rests_56 (by decide) ?_
          refine m_icmp_ge (tgt := 76) hC dX10_rests_57 (by decide) (by first | omega | (simp [hs_at] <;> omega)) (fun c10 => ?_) (fun c10 => ?_)
          · refine m_iload_n hC 2 dX10_rests_76 rfl rfl ?_
            refine m_iconst hC dX10_rests_77 ?_
            refine m_icmp_ne (tgt := 85) hC dX10_rests_78 (by decide) (by first | omega | (simp [hs_at] <;> omega)) (fun c11 => ?_) (fun c11 => by omega)
            refine m_aload_n hC 4 dX10_rests_85 rfl rfl ?_
            refine m_iload_n hC 3 dX10_rests_86 rfl rfl ?_
            refine m_iconst hC dX10_rests_87 ?_
            refine m_callV hC (t_X10_of hF hl R8 ha hB3 (x := x) (y := 3) 7 rfl (by decide) (by simpa [hs_at] using hv0)) dX10_rests_88 kc_X10_of kV_X10_95 R8.ob rfl rfl rfl rfl (Nat.le_of_ble_eq_true rfl) (by decide) (by decide) m_nox (fun v9 M12 h9 => ?_)
            obtain ⟨rfl, h9⟩ := h9
            replace h9 := h9.symm
            subst h9
            exact m_iret hC dX10_rests_91 hr (by decide) (by decide) (m_opy (z := g 7 x) (g := hs g 8 x 0) (by unfold S_wake; rw [if_neg (by omega), if_neg (by omega)]) (by have := hB.go hv0; omega) R8 hfr0)
          · refine m_iload_n hC 1 dX10_rests_60 rfl rfl ?_
            refine m_aload_n hC 4 dX10_rests_61 rfl rfl ?_
            refine m_iload hC 0 dX10_rests_62 rfl ?_
            refine m_iconst hC dX10_rests_64 ?_
            refine m_callV hC (t_X10_of hF hl R8 ha hB3 (x := i) (y := 4) 8 rfl (by decide) (by simpa [hs_at] using (show 0 ≤ i ∧ i < g 0 9 by omega))) dX10_rests_65 kc_X10_of kV_X10_95 R8.ob rfl rfl rfl rfl (Nat.le_of_ble_eq_true rfl) (by decide) (by decide) m_nox (fun v9 M13 h9 => ?_)
            obtain ⟨rfl, h9⟩ := h9
            replace h9 := h9.symm
            subst h9
            refine m_iadd hC dX10_rests_68 ?_
            refine m_istore_n hC dX10_rests_69 rfl (by decide) rfl ?_
            refine m_iinc hC 1 dX10_rests_70 rfl (by decide) rfl ?_
            refine m_goto (tgt := 48) hC dX10_rests_73 (by decide) ?_
            refine m_lvs [0, 1, 2, 3, 4] rfl (ih (i + 1) _ (by omega) (by omega) (by omega) (by rw [h_sum_succ _ h0, hq]; try omega))
      refine m_lvs [0, 1, 4, 3, 2] rfl (L ((g 0 9 - 0).toNat + 1) 0 0 (by omega) (by omega) (by omega) rfl)
    · refine m_iconst hC dX10_rests_29 ?_
      exact m_iret hC dX10_rests_30 hr (by decide) (by decide) (m_opn (by unfold S_wake; (repeat' split) <;> first | (refine ⟨(by dsimp only; omega), rfl, ?_⟩; simp only [m_th, b01_eq]; (repeat' split) <;> first | omega | (simp [o_th, o_ix])) | (exfalso; refine (b01_eq.mp ch) ?_; simp only [m_th, b01_eq]; (repeat' split) <;> first | omega | (simp [o_th, o_ix]))) R4 f5)
  · refine m_aload_n hC 0 dX10_rests_6 rfl rfl ?_
    refine m_iload_n hC 1 dX10_rests_7 rfl rfl ?_
    refine m_iconst hC dX10_rests_8 ?_
    refine m_callV hC (t_X10_of_y hF hl hV ha hB (x := x) (y := 4) hx (by decide)) dX10_rests_9 kc_X10_of kV_X10_95 hV.ob rfl rfl rfl rfl (Nat.le_of_ble_eq_true rfl) (by decide) (by decide) m_nox (fun v9 M14 h9 => ?_)
    obtain ⟨⟨z9, rfl, hz9⟩, h9⟩ := h9
    replace h9 := h9.symm
    subst h9
    refine m_iload_n hC 2 dX10_rests_12 rfl rfl ?_
    refine m_dia_icmp_eq hC dX10_rests_13 dX10_rests_16 dX10_rests_17 dX10_rests_20 rfl rfl (by first | omega | (simp [hs_at] <;> omega)) ?_
    refine m_iconst hC dX10_rests_21 ?_
    refine m_iconst hC dX10_rests_22 ?_
    refine m_callV hC (t_X10_holds hF hl hV ha hB (b1 := b01 (0 ≤ x ∧ x < g 0 9)) (b2 := b01 (z9 ≠ 0)) (b3 := 1) (b4 := 1) (by first | exact b01_r | decide | omega) (by first | exact b01_r | decide | omega) (by first | exact b01_r | decide | omega) (by first | exact b01_r | decide | omega)) dX10_rests_23 kc_X10_holds kV_X10_47 hV.ob rfl rfl rfl rfl (Nat.le_of_ble_eq_true rfl) (by decide) (by decide) m_nox (fun v9 M15 h9 => ?_)
    obtain ⟨rfl, R16, f17⟩ := h9
    refine m_if_ne (tgt := 31) hC dX10_rests_26 (by decide) b01_r (fun ch => ?_) (fun ch => ?_)
    · have c0 := b01_ne.mp ch
      rw [c0] at R16
      obtain ⟨k1, k2, k3, k4⟩ := m_th0.mp c0
      have k1 := b01_ne.mp k1
      have k2 := b01_ne.mp k2
      exact absurd k1 hv0
    · refine m_iconst hC dX10_rests_29 ?_
      exact m_iret hC dX10_rests_30 hr (by decide) (by decide) (m_opn (by unfold S_wake; (repeat' split) <;> first | (refine ⟨(by dsimp only; omega), rfl, ?_⟩; simp only [m_th, b01_eq]; (repeat' split) <;> first | omega | (simp [o_th, o_ix])) | (exfalso; refine (b01_eq.mp ch) ?_; simp only [m_th, b01_eq]; (repeat' split) <;> first | omega | (simp [o_th, o_ix]))) R16 f17)

