theorem m_opz {a : Nat} {w g : h_T} {cs : List Int} {S : Int × h_T} {M M2 : m_M} {z z2 : Int} (h : S = (z, g)) (e : z2 = z) (hz : 0 ≤ z) (hV : mmV a (hs w 0 14 0) g M2) (hf : m_fr a 10 M M2) : m_op a w cs S M (some (VI z2)) M2 := e ▸ m_opy h hz hV hf
theorem hs_cm {g : h_T} {c c' : Nat} {i i' v v' : Int} (h : c ≠ c' ∨ i ≠ i') : hs (hs g c i v) c' i' v' = hs (hs g c' i' v') c i v := by
  funext c9 j
  simp only [hs_at]
  by_cases q : c9 = c ∧ j = i
  · by_cases q2 : c9 = c' ∧ j = i'
    · omega
    · rw [if_neg q2, if_pos q, if_pos q]
  · rw [if_neg q, if_neg q]
theorem X_pay {g : h_T} {x A B C E : Int} : hs (hs (hs (hs g 0 1 A) 6 x B) 5 x C) 0 6 E = hs (hs (hs (hs g 0 6 E) 0 1 A) 6 x B) 5 x C := by
  rw [hs_cm (c := 5) (c' := 0) (Or.inl (by decide)), hs_cm (c := 6) (c' := 0) (Or.inl (by decide)), hs_cm (g := g) (c := 0) (c' := 0) (i := 1) (i' := 6) (Or.inr (by decide))]
set_option maxHeartbeats 4000000 in
set_option maxRecDepth 100000 in
theorem t_X10_hires {D : va_G} {aC : Nat → ClassId} {s0 : State} {l : Launch} (hF : m_F D aC s0) (hl : l.stackTraces = false) {a : Nat} {w g : h_T} {M : m_M} (hV : mmV a w g M) (ha : s0.heap.size ≤ a) (hB : h_B g) {x : Int} {y : Int} {zw : Int} {ze : Int} (hx : -2147483648 ≤ x ∧ x < 2147483648) (hy : -2147483648 ≤ y ∧ y < 2147483648) (hzw : -2147483648 ≤ zw ∧ zw < 2147483648) (hze : -2147483648 ≤ ze ∧ ze < 2147483648) : m_Met D aC s0 l yX10_hires cX10_hires 7 (some .int) 2 (0) (0) [.ref a, VI x, VI y, VI zw, VI ze] M (m_op a w [-1, -2, -3, -4] (S_hire g x y zw ze) M) m_nx := by
  refine m_entry (lv := [(0, .ref a), (1, VI x), (2, VI y), (3, VI zw), (4, VI ze)]) (by decide +kernel) (Nat.le_of_ble_eq_true rfl) rfl hF hl ?_
  intro p e s m args below meth c hC hr hno hnm
  change m_C D aC s0 RX10 _ _ _ _ _ _ _ _ _ at hC
  have hn8 := hB.n8
  have hn9 := hB.n9
  have hn11 := hB.n11
  refine m_iload_n hC 3 dX10_hires_0 rfl rfl ?_
  refine m_iconst hC dX10_hires_1 ?_
  refine m_bipush hC dX10_hires_2 (by decide) ?_
  refine m_callS hC (t_X10_isIn hF hl (z := zw) (lo := 1) (hi := 50) (by omega)) dX10_hires_4 kc_X10_isIn kS_X10_69 rfl rfl (Nat.le_of_ble_eq_true rfl) (by decide) (by decide) m_nox (fun v9 M1 h9 => ?_)
  obtain ⟨rfl, h9⟩ := h9
  replace h9 := h9.symm
  subst h9
  refine m_if_eq (tgt := 25) hC dX10_hires_7 (by decide) b01_r (fun c7 => ?_) (fun c7 => ?_)
  · have d7 := b01_eq.mp c7
    refine m_iconst hC dX10_hires_25 ?_
    refine m_istore hC dX10_hires_26 (by decide) rfl ?_
    refine m_aload_n hC 1 dX10_hires_28 rfl rfl ?_
    refine m_aload_n hC 1 dX10_hires_29 rfl rfl ?_
    refine m_iload_n hC 2 dX10_hires_30 rfl rfl ?_
    refine m_callV hC (t_X10_isGoblin hF hl hV ha hB (x := x) hx) dX10_hires_31 kc_X10_isGoblin kV_X10_77 hV.ob rfl rfl rfl rfl (Nat.le_of_ble_eq_true rfl) (by decide) (by decide) m_nox (fun v9 M2 h9 => ?_)
    obtain ⟨rfl, h9⟩ := h9
    replace h9 := h9.symm
    subst h9
    refine m_if_eq (tgt := 48) hC dX10_hires_34 (by decide) b01_r (fun c34 => ?_) (fun c34 => ?_)
    · have d34 := b01_eq.mp c34
      refine m_iconst hC dX10_hires_48 ?_
      refine m_iload hC 0 dX10_hires_49 rfl ?_
      refine m_aload_n hC 1 dX10_hires_51 rfl rfl ?_
      refine m_getf hC dX10_hires_52 kf_X10_9 hV.ob rfl ?_
      refine m_bipush hC dX10_hires_55 (by decide) ?_
      refine m_n0 hC hV dX10_hires_57 (by decide) ?_
      refine m_bipush hC dX10_hires_58 (by decide) ?_
      refine m_dia_icmp_ge hC dX10_hires_60 dX10_hires_63 dX10_hires_64 dX10_hires_67 rfl rfl (by first | omega | (simp [hs_at] <;> omega)) ?_
      refine m_aload_n hC 1 dX10_hires_68 rfl rfl ?_
      refine m_iload_n hC 2 dX10_hires_69 rfl rfl ?_
      refine m_iload_n hC 3 dX10_hires_70 rfl rfl ?_
      refine m_callV hC (t_X10_hasFor hF hl hV ha hB (x := x) (y := y) hx hy) dX10_hires_71 kc_X10_hasFor kV_X10_124 hV.ob rfl rfl rfl rfl (Nat.le_of_ble_eq_true rfl) (by decide) (by decide) m_nox (fun v9 M3 h9 => ?_)
      obtain ⟨rfl, h9⟩ := h9
      replace h9 := h9.symm
      subst h9
      refine m_dia_if_ne hC dX10_hires_74 dX10_hires_77 dX10_hires_78 dX10_hires_81 rfl rfl b01_r ?_
      refine m_callV hC (t_X10_holds hF hl hV ha hB (b1 := 0) (b2 := 0) (b3 := b01 (g 0 11 < 8)) (b4 := b01 (b01 (S_has g x y = true) = 0)) (by first | exact b01_r | decide | omega) (by first | exact b01_r | decide | omega) (by first | exact b01_r | decide | omega) (by first | exact b01_r | decide | omega)) dX10_hires_82 kc_X10_holds kV_X10_47 hV.ob rfl rfl rfl rfl (Nat.le_of_ble_eq_true rfl) (by decide) (by decide) m_nox (fun v9 M4 h9 => ?_)
      obtain ⟨rfl, R5, f6⟩ := h9
      refine m_if_ne (tgt := 90) hC dX10_hires_85 (by decide) b01_r (fun ch => ?_) (fun ch => ?_)
      · have c0 := b01_ne.mp ch
        rw [c0] at R5
        obtain ⟨k1, k2, k3, k4⟩ := m_th0.mp c0
        exact absurd rfl k1
      · refine m_iconst hC dX10_hires_88 ?_
        exact m_iret hC dX10_hires_89 hr (by decide) (by decide) (m_opn (by unfold S_hire; (repeat' split) <;> first | (refine ⟨(by (try dsimp only); omega), rfl, ?_⟩; simp only [m_th, b01_eq, ne_eq]; (repeat' split) <;> first | omega | (simp [o_th, o_ix]; done) | (exfalso; simp_all; done) | (exfalso; simp_all; omega)) | (exfalso; refine (b01_eq.mp ch) ?_; simp only [m_th, b01_eq, ne_eq]; (repeat' split) <;> first | rfl | omega | (exfalso; simp_all; done) | (exfalso; simp_all; omega))) R5 f6)
    · have d34 := b01_ne.mp c34
      refine m_iload_n hC 3 dX10_hires_37 rfl rfl ?_
      refine m_callS hC (t_X10_isRoom hF hl (x := y) hy) dX10_hires_38 kc_X10_isRoom kS_X10_121 rfl rfl (Nat.le_of_ble_eq_true rfl) (by decide) (by decide) m_nox (fun v9 M7 h9 => ?_)
      obtain ⟨rfl, h9⟩ := h9
      replace h9 := h9.symm
      subst h9
      refine m_dia_if_eq hC dX10_hires_41 dX10_hires_44 dX10_hires_45 dX10_hires_48 rfl rfl b01_r ?_
      refine m_iload hC 0 dX10_hires_49 rfl ?_
      refine m_aload_n hC 1 dX10_hires_51 rfl rfl ?_
      refine m_getf hC dX10_hires_52 kf_X10_9 hV.ob rfl ?_
      refine m_bipush hC dX10_hires_55 (by decide) ?_
      refine m_n0 hC hV dX10_hires_57 (by decide) ?_
      refine m_bipush hC dX10_hires_58 (by decide) ?_
      refine m_dia_icmp_ge hC dX10_hires_60 dX10_hires_63 dX10_hires_64 dX10_hires_67 rfl rfl (by first | omega | (simp [hs_at] <;> omega)) ?_
      refine m_aload_n hC 1 dX10_hires_68 rfl rfl ?_
      refine m_iload_n hC 2 dX10_hires_69 rfl rfl ?_
      refine m_iload_n hC 3 dX10_hires_70 rfl rfl ?_
      refine m_callV hC (t_X10_hasFor hF hl hV ha hB (x := x) (y := y) hx hy) dX10_hires_71 kc_X10_hasFor kV_X10_124 hV.ob rfl rfl rfl rfl (Nat.le_of_ble_eq_true rfl) (by decide) (by decide) m_nox (fun v9 M8 h9 => ?_)
      obtain ⟨rfl, h9⟩ := h9
      replace h9 := h9.symm
      subst h9
      refine m_dia_if_ne hC dX10_hires_74 dX10_hires_77 dX10_hires_78 dX10_hires_81 rfl rfl b01_r ?_
      refine m_callV hC (t_X10_holds hF hl hV ha hB (b1 := b01 (b01 (0 ≤ y ∧ y < 6) ≠ 0)) (b2 := 0) (b3 := b01 (g 0 11 < 8)) (b4 := b01 (b01 (S_has g x y = true) = 0)) (by first | exact b01_r | decide | omega) (by first | exact b01_r | decide | omega) (by first | exact b01_r | decide | omega) (by first | exact b01_r | decide | omega)) dX10_hires_82 kc_X10_holds kV_X10_47 hV.ob rfl rfl rfl rfl (Nat.le_of_ble_eq_true rfl) (by decide) (by decide) m_nox (fun v9 M9 h9 => ?_)
      obtain ⟨rfl, R10, f11⟩ := h9
      refine m_if_ne (tgt := 90) hC dX10_hires_85 (by decide) b01_r (fun ch => ?_) (fun ch => ?_)
      · have c0 := b01_ne.mp ch
        rw [c0] at R10
        obtain ⟨k1, k2, k3, k4⟩ := m_th0.mp c0
        exact absurd rfl k2
      · refine m_iconst hC dX10_hires_88 ?_
        exact m_iret hC dX10_hires_89 hr (by decide) (by decide) (m_opn (by unfold S_hire; (repeat' split) <;> first | (refine ⟨(by (try dsimp only); omega), rfl, ?_⟩; simp only [m_th, b01_eq, ne_eq]; (repeat' split) <;> first | omega | (simp [o_th, o_ix]; done) | (exfalso; simp_all; done) | (exfalso; simp_all; omega)) | (exfalso; refine (b01_eq.mp ch) ?_; simp only [m_th, b01_eq, ne_eq]; (repeat' split) <;> first | rfl | omega | (exfalso; simp_all; done) | (exfalso; simp_all; omega))) R10 f11)
  · have d7 := b01_ne.mp c7
    refine m_iload hC 4 dX10_hires_10 rfl ?_
    refine m_iconst hC dX10_hires_12 ?_
    refine m_bipush hC dX10_hires_13 (by decide) ?_
    refine m_callS hC (t_X10_isIn hF hl (z := ze) (lo := 1) (hi := 20) (by omega)) dX10_hires_15 kc_X10_isIn kS_X10_69 rfl rfl (Nat.le_of_ble_eq_true rfl) (by decide) (by decide) m_nox (fun v9 M12 h9 => ?_)
    obtain ⟨rfl, h9⟩ := h9
    replace h9 := h9.symm
    subst h9
    refine m_dia_if_eq hC dX10_hires_18 dX10_hires_21 dX10_hires_22 dX10_hires_25 rfl rfl b01_r ?_
    refine m_istore hC dX10_hires_26 (by decide) rfl ?_
    refine m_aload_n hC 1 dX10_hires_28 rfl rfl ?_
    refine m_aload_n hC 1 dX10_hires_29 rfl rfl ?_
    refine m_iload_n hC 2 dX10_hires_30 rfl rfl ?_
    refine m_callV hC (t_X10_isGoblin hF hl hV ha hB (x := x) hx) dX10_hires_31 kc_X10_isGoblin kV_X10_77 hV.ob rfl rfl rfl rfl (Nat.le_of_ble_eq_true rfl) (by decide) (by decide) m_nox (fun v9 M13 h9 => ?_)
    obtain ⟨rfl, h9⟩ := h9
    replace h9 := h9.symm
    subst h9
    refine m_if_eq (tgt := 48) hC dX10_hires_34 (by decide) b01_r (fun c34 => ?_) (fun c34 => ?_)
    · have d34 := b01_eq.mp c34
      refine m_iconst hC dX10_hires_48 ?_
      refine m_iload hC 0 dX10_hires_49 rfl ?_
      refine m_aload_n hC 1 dX10_hires_51 rfl rfl ?_
      refine m_getf hC dX10_hires_52 kf_X10_9 hV.ob rfl ?_
      refine m_bipush hC dX10_hires_55 (by decide) ?_
      refine m_n0 hC hV dX10_hires_57 (by decide) ?_
      refine m_bipush hC dX10_hires_58 (by decide) ?_
      refine m_dia_icmp_ge hC dX10_hires_60 dX10_hires_63 dX10_hires_64 dX10_hires_67 rfl rfl (by first | omega | (simp [hs_at] <;> omega)) ?_
      refine m_aload_n hC 1 dX10_hires_68 rfl rfl ?_
      refine m_iload_n hC 2 dX10_hires_69 rfl rfl ?_
      refine m_iload_n hC 3 dX10_hires_70 rfl rfl ?_
      refine m_callV hC (t_X10_hasFor hF hl hV ha hB (x := x) (y := y) hx hy) dX10_hires_71 kc_X10_hasFor kV_X10_124 hV.ob rfl rfl rfl rfl (Nat.le_of_ble_eq_true rfl) (by decide) (by decide) m_nox (fun v9 M14 h9 => ?_)
      obtain ⟨rfl, h9⟩ := h9
      replace h9 := h9.symm
      subst h9
      refine m_dia_if_ne hC dX10_hires_74 dX10_hires_77 dX10_hires_78 dX10_hires_81 rfl rfl b01_r ?_
      refine m_callV hC (t_X10_holds hF hl hV ha hB (b1 := 0) (b2 := b01 (b01 (1 ≤ ze ∧ ze ≤ 20) ≠ 0)) (b3 := b01 (g 0 11 < 8)) (b4 := b01 (b01 (S_has g x y = true) = 0)) (by first | exact b01_r | decide | omega) (by first | exact b01_r | decide | omega) (by first | exact b01_r | decide | omega) (by first | exact b01_r | decide | omega)) dX10_hires_82 kc_X10_holds kV_X10_47 hV.ob rfl rfl rfl rfl (Nat.le_of_ble_eq_true rfl) (by decide) (by decide) m_nox (fun v9 M15 h9 => ?_)
      obtain ⟨rfl, R16, f17⟩ := h9
      refine m_if_ne (tgt := 90) hC dX10_hires_85 (by decide) b01_r (fun ch => ?_) (fun ch => ?_)
      · have c0 := b01_ne.mp ch
        rw [c0] at R16
        obtain ⟨k1, k2, k3, k4⟩ := m_th0.mp c0
        exact absurd rfl k1
      · refine m_iconst hC dX10_hires_88 ?_
        exact m_iret hC dX10_hires_89 hr (by decide) (by decide) (m_opn (by unfold S_hire; (repeat' split) <;> first | (refine ⟨(by (try dsimp only); omega), rfl, ?_⟩; simp only [m_th, b01_eq, ne_eq]; (repeat' split) <;> first | omega | (simp [o_th, o_ix]; done) | (exfalso; simp_all; done) | (exfalso; simp_all; omega)) | (exfalso; refine (b01_eq.mp ch) ?_; simp only [m_th, b01_eq, ne_eq]; (repeat' split) <;> first | rfl | omega | (exfalso; simp_all; done) | (exfalso; simp_all; omega))) R16 f17)
    · have d34 := b01_ne.mp c34
      refine m_iload_n hC 3 dX10_hires_37 rfl rfl ?_
      refine m_callS hC (t_X10_isRoom hF hl (x := y) hy) dX10_hires_38 kc_X10_isRoom kS_X10_121 rfl rfl (Nat.le_of_ble_eq_true rfl) (by decide) (by decide) m_nox (fun v9 M18 h9 => ?_)
      obtain ⟨rfl, h9⟩ := h9
      replace h9 := h9.symm
      subst h9
      refine m_dia_if_eq hC dX10_hires_41 dX10_hires_44 dX10_hires_45 dX10_hires_48 rfl rfl b01_r ?_
      refine m_iload hC 0 dX10_hires_49 rfl ?_
      refine m_aload_n hC 1 dX10_hires_51 rfl rfl ?_
      refine m_getf hC dX10_hires_52 kf_X10_9 hV.ob rfl ?_
      refine m_bipush hC dX10_hires_55 (by decide) ?_
      refine m_n0 hC hV dX10_hires_57 (by decide) ?_
      refine m_bipush hC dX10_hires_58 (by decide) ?_
      refine m_dia_icmp_ge hC dX10_hires_60 dX10_hires_63 dX10_hires_64 dX10_hires_67 rfl rfl (by first | omega | (simp [hs_at] <;> omega)) ?_
      refine m_aload_n hC 1 dX10_hires_68 rfl rfl ?_
      refine m_iload_n hC 2 dX10_hires_69 rfl rfl ?_
      refine m_iload_n hC 3 dX10_hires_70 rfl rfl ?_
      refine m_callV hC (t_X10_hasFor hF hl hV ha hB (x := x) (y := y) hx hy) dX10_hires_71 kc_X10_hasFor kV_X10_124 hV.ob rfl rfl rfl rfl (Nat.le_of_ble_eq_true rfl) (by decide) (by decide) m_nox (fun v9 M19 h9 => ?_)
      obtain ⟨rfl, h9⟩ := h9
      replace h9 := h9.symm
      subst h9
      refine m_dia_if_ne hC dX10_hires_74 dX10_hires_77 dX10_hires_78 dX10_hires_81 rfl rfl b01_r ?_
      refine m_callV hC (t_X10_holds hF hl hV ha hB (b1 := b01 (b01 (0 ≤ y ∧ y < 6) ≠ 0)) (b2 := b01 (b01 (1 ≤ ze ∧ ze ≤ 20) ≠ 0)) (b3 := b01 (g 0 11 < 8)) (b4 := b01 (b01 (S_has g x y = true) = 0)) (by first | exact b01_r | decide | omega) (by first | exact b01_r | decide | omega) (by first | exact b01_r | decide | omega) (by first | exact b01_r | decide | omega)) dX10_hires_82 kc_X10_holds kV_X10_47 hV.ob rfl rfl rfl rfl (Nat.le_of_ble_eq_true rfl) (by decide) (by decide) m_nox (fun v9 M20 h9 => ?_)
      obtain ⟨rfl, R21, f22⟩ := h9
      refine m_if_ne (tgt := 90) hC dX10_hires_85 (by decide) b01_r (fun ch => ?_) (fun ch => ?_)
      · have c0 := b01_ne.mp ch
        rw [c0] at R21
        obtain ⟨k1, k2, k3, k4⟩ := m_th0.mp c0
        have k1 := b01_ne.mp (b01_ne.mp k1)
        have k2 := b01_ne.mp (b01_ne.mp k2)
        have k3 := b01_ne.mp k3
        have k4 := b01_eq.mp (b01_ne.mp k4)
        have h10 := hB.s 10 (by omega)
        obtain ⟨G, R23, he⟩ := R21.A
        have e8 : G 0 8 = g 0 8 := he.s 8 (by omega)
        have e9 : G 0 9 = g 0 9 := he.s 9 (by omega)
        have e10 : G 0 10 = g 0 10 := he.s 10 (by omega)
        have e11 : G 0 11 = g 0 11 := he.s 11 (by omega)
        refine m_bipush hC dX10_hires_90 (by decide) ?_
        refine m_iconst hC dX10_hires_92 ?_
        refine m_aload_n hC 1 dX10_hires_93 rfl rfl ?_
        refine m_getf hC dX10_hires_94 kf_X10_9 R23.ob rfl ?_
        refine m_bipush hC dX10_hires_97 (by decide) ?_
        refine m_ar hC 0 (11) R23 dX10_hires_99 rfl (by decide) (show 0 ≤ (11 : Int) ∧ (11 : Int) < 12 by omega) ?_
        refine m_imul hC dX10_hires_100 ?_
        refine m_iadd hC dX10_hires_101 ?_
        refine m_istore hC dX10_hires_102 (by decide) rfl ?_
        refine m_aload_n hC 2 dX10_hires_104 rfl rfl ?_
        refine m_getf hC dX10_hires_105 kf_X10_9 R23.ob rfl ?_
        refine m_iload hC 0 dX10_hires_108 rfl ?_
        refine m_iconst hC dX10_hires_110 ?_
        refine m_iadd hC dX10_hires_111 ?_
        refine m_aload_n hC 2 dX10_hires_112 rfl rfl ?_
        refine m_getf hC dX10_hires_113 kf_X10_9 R23.ob rfl ?_
        refine m_bipush hC dX10_hires_116 (by decide) ?_
        refine m_ar hC 0 (10) R23 dX10_hires_118 rfl (by decide) (show 0 ≤ (10 : Int) ∧ (10 : Int) < 12 by omega) ?_
        refine m_aw hC 9 (G 0 11) R23 ha dX10_hires_119 rfl (by decide) (show 0 ≤ G 0 11 ∧ G 0 11 < 8 by omega) (fun M25 R26 f27 => ?_)
        refine m_aload_n hC 2 dX10_hires_120 rfl rfl ?_
        refine m_getf hC dX10_hires_121 kf_X10_9 R26.ob rfl ?_
        refine m_iload hC 0 dX10_hires_124 rfl ?_
        refine m_iconst hC dX10_hires_126 ?_
        refine m_iadd hC dX10_hires_127 ?_
        refine m_iload_n hC 3 dX10_hires_128 rfl rfl ?_
        refine m_aw hC 10 (G 0 11) R26 ha dX10_hires_129 rfl (by decide) (show 0 ≤ G 0 11 ∧ G 0 11 < 8 by omega) (fun M28 R29 f30 => ?_)
        refine m_aload_n hC 2 dX10_hires_130 rfl rfl ?_
        refine m_getf hC dX10_hires_131 kf_X10_9 R29.ob rfl ?_
        refine m_iload hC 0 dX10_hires_134 rfl ?_
        refine m_iconst hC dX10_hires_136 ?_
        refine m_iadd hC dX10_hires_137 ?_
        refine m_iload_n hC 4 dX10_hires_138 rfl rfl ?_
        refine m_aw hC 11 (G 0 11) R29 ha dX10_hires_139 rfl (by decide) (show 0 ≤ G 0 11 ∧ G 0 11 < 8 by omega) (fun M31 R32 f33 => ?_)
        refine m_aload_n hC 2 dX10_hires_140 rfl rfl ?_
        refine m_getf hC dX10_hires_141 kf_X10_9 R32.ob rfl ?_
        refine m_iload hC 0 dX10_hires_144 rfl ?_
        refine m_iconst hC dX10_hires_146 ?_
        refine m_iadd hC dX10_hires_147 ?_
        refine m_iload_n hC 5 dX10_hires_148 rfl rfl ?_
        refine m_aw hC 12 (G 0 11) R32 ha dX10_hires_149 rfl (by decide) (show 0 ≤ G 0 11 ∧ G 0 11 < 8 by omega) (fun M34 R35 f36 => ?_)
        refine m_aload_n hC 2 dX10_hires_150 rfl rfl ?_
        refine m_getf hC dX10_hires_151 kf_X10_9 R35.ob rfl ?_
        refine m_iload hC 0 dX10_hires_154 rfl ?_
        refine m_iconst hC dX10_hires_156 ?_
        refine m_iadd hC dX10_hires_157 ?_
        refine m_iload hC 6 dX10_hires_158 rfl ?_
        refine m_aw hC 13 (G 0 11) R35 ha dX10_hires_160 rfl (by decide) (show 0 ≤ G 0 11 ∧ G 0 11 < 8 by omega) (fun M37 R38 f39 => ?_)
        refine m_aload_n hC 2 dX10_hires_161 rfl rfl ?_
        refine m_getf hC dX10_hires_162 kf_X10_9 R38.ob rfl ?_
        refine m_bipush hC dX10_hires_165 (by decide) ?_
        refine m_dup2 hC dX10_hires_167 rfl rfl ?_
        refine m_ar hC 0 (11) R38 dX10_hires_168 rfl (by decide) (show 0 ≤ (11 : Int) ∧ (11 : Int) < 12 by omega) ?_
        refine m_iconst hC dX10_hires_169 ?_
        refine m_iadd hC dX10_hires_170 ?_
        refine m_aw hC 0 (11) R38 ha dX10_hires_171 rfl (by decide) (show 0 ≤ (11 : Int) ∧ (11 : Int) < 12 by omega) (fun M40 R41 f42 => ?_)
        refine m_aload_n hC 2 dX10_hires_172 rfl rfl ?_
        refine m_getf hC dX10_hires_173 kf_X10_9 R41.ob rfl ?_
        refine m_bipush hC dX10_hires_176 (by decide) ?_
        refine m_dup2 hC dX10_hires_178 rfl rfl ?_
        refine m_ar hC 0 (10) R41 dX10_hires_179 rfl (by decide) (show 0 ≤ (10 : Int) ∧ (10 : Int) < 12 by omega) ?_
        refine m_iconst hC dX10_hires_180 ?_
        refine m_iadd hC dX10_hires_181 ?_
        refine m_aw hC 0 (10) R41 ha dX10_hires_182 rfl (by decide) (show 0 ≤ (10 : Int) ∧ (10 : Int) < 12 by omega) (fun M43 R44 f45 => ?_)
        refine m_aload_n hC 2 dX10_hires_183 rfl rfl ?_
        refine m_getf hC dX10_hires_184 kf_X10_9 R44.ob rfl ?_
        refine m_bipush hC dX10_hires_187 (by decide) ?_
        refine m_ar hC 0 (10) R44 dX10_hires_189 rfl (by decide) (show 0 ≤ (10 : Int) ∧ (10 : Int) < 12 by omega) ?_
        refine m_iconst hC dX10_hires_190 ?_
        refine m_isub hC dX10_hires_191 ?_
        exact m_iret hC dX10_hires_192 hr (by decide) (by decide) ((m_opz (z := g 0 10) (g := S_con g x y zw ze) (by unfold S_hire; rw [if_neg (by omega), if_neg (by omega), if_neg (by omega), if_neg k4]) (by rw [hs_s]; show G 0 10 + 1 - 1 = g 0 10; omega) (by omega) (R44.V (by refine ⟨?_, ?_, ?_⟩ <;> (simp [hs_at]; omega)) (he.con x y zw ze)) (f22.tr (f27.tr (f30.tr (f33.tr (f36.tr (f39.tr (f42.tr f45)))))))))
      · refine m_iconst hC dX10_hires_88 ?_
        exact m_iret hC dX10_hires_89 hr (by decide) (by decide) (m_opn (by unfold S_hire; (repeat' split) <;> first | (refine ⟨(by (try dsimp only); omega), rfl, ?_⟩; simp only [m_th, b01_eq, ne_eq]; (repeat' split) <;> first | omega | (simp [o_th, o_ix]; done) | (exfalso; simp_all; done) | (exfalso; simp_all; omega)) | (exfalso; refine (b01_eq.mp ch) ?_; simp only [m_th, b01_eq, ne_eq]; (repeat' split) <;> first | rfl | omega | (exfalso; simp_all; done) | (exfalso; simp_all; omega))) R21 f22)

set_option maxHeartbeats 4000000 in
set_option maxRecDepth 100000 in
theorem t_X10_cancels {D : va_G} {aC : Nat → ClassId} {s0 : State} {l : Launch} (hF : m_F D aC s0) (hl : l.stackTraces = false) {a : Nat} {w g : h_T} {M : m_M} (hV : mmV a w g M) (ha : s0.heap.size ≤ a) (hB : h_B g) {x : Int} (hx : -2147483648 ≤ x ∧ x < 2147483648) (hU : h_asc g) {K : Int} (hK : h_BK K g) (hKb : K ≤ 90000000) : m_Met D aC s0 l yX10_cancels cX10_cancels 4 (some .int) 3 (0) (0) [.ref a, VI x] M (m_op a w [-5] (S_cancel g x) M) m_nx := by
  refine m_entry (lv := [(0, .ref a), (1, VI x)]) (by decide +kernel) (Nat.le_of_ble_eq_true rfl) rfl hF hl ?_
  intro p e s m args below meth c hC hr hno hnm
  change m_C D aC s0 RX10 _ _ _ _ _ _ _ _ _ at hC
  have hn8 := hB.n8
  have hn9 := hB.n9
  have hn11 := hB.n11
  have hnq : g 0 8 ≤ 4 ∧ g 0 9 ≤ 5 ∧ g 0 11 ≤ 8 := hB.c
  have hp := S_pos_rg (g := g) x hn11.1
  refine m_aload_n hC 0 dX10_cancels_0 rfl rfl ?_
  refine m_iload_n hC 1 dX10_cancels_1 rfl rfl ?_
  refine m_callV hC (t_X10_find hF hl hV ha hB (x := x) hx hU) dX10_cancels_2 kc_X10_find kV_X10_132 hV.ob rfl rfl rfl rfl (Nat.le_of_ble_eq_true rfl) (by decide) (by decide) m_nox (fun v9 M1 h9 => ?_)
  obtain ⟨rfl, h9⟩ := h9
  replace h9 := h9.symm
  subst h9
  refine m_istore_n hC dX10_cancels_5 rfl (by decide) rfl ?_
  refine m_aload_n hC 1 dX10_cancels_6 rfl rfl ?_
  refine m_iload_n hC 0 dX10_cancels_7 rfl rfl ?_
  refine m_iconst hC dX10_cancels_8 ?_
  refine m_dia_icmp_eq hC dX10_cancels_9 dX10_cancels_12 dX10_cancels_13 dX10_cancels_16 rfl rfl (by first | omega | (simp [hs_at] <;> omega)) ?_
  refine m_callV hC (t_X10_goes hF hl hV ha hB (z := b01 (S_pos g x ≠ -1)) (by first | exact b01_r | omega)) dX10_cancels_17 kc_X10_goes kV_X10_61 hV.ob rfl rfl rfl rfl (Nat.le_of_ble_eq_true rfl) (by decide) (by decide) m_nox (fun v9 M2 h9 => ?_)
  obtain ⟨rfl, R3, f4⟩ := h9
  refine m_if_ne (tgt := 25) hC dX10_cancels_20 (by decide) b01_r (fun ch => ?_) (fun ch => ?_)
  · have k1 := b01_ne.mp (b01_ne.mp ch)
    rw [if_neg (b01_ne.mp ch)] at R3
    have hp2 : 0 ≤ S_pos g x ∧ S_pos g x < g 0 11 := by omega
    have hco := hB.co hp2
    have hgo := hK.go (i := g 10 (S_pos g x)) (by omega)
    have h1 := hK.s 1 (by omega)
    refine m_aload_n hC 1 dX10_cancels_25 rfl rfl ?_
    refine m_iload_n hC 0 dX10_cancels_26 rfl rfl ?_
    refine m_iconst hC dX10_cancels_27 ?_
    refine m_callV hC (t_X10_ofContract hF hl R3 ha hB (x := S_pos g x) (y := 3) 12 rfl (by decide) hp2) dX10_cancels_28 kc_X10_ofContract kV_X10_84 R3.ob rfl rfl rfl rfl (Nat.le_of_ble_eq_true rfl) (by decide) (by decide) m_nox (fun v9 M5 h9 => ?_)
    obtain ⟨rfl, h9⟩ := h9
    replace h9 := h9.symm
    subst h9
    refine m_bipush hC dX10_cancels_31 (by decide) ?_
    refine m_idiv hC dX10_cancels_33 (by first | omega | (simp [hs_at] <;> omega)) ?_
    refine m_aload_n hC 1 dX10_cancels_34 rfl rfl ?_
    refine m_getf hC dX10_cancels_35 kf_X10_9 R3.ob rfl ?_
    refine m_iconst hC dX10_cancels_38 ?_
    refine m_n0 hC R3 dX10_cancels_39 (by decide) ?_
    refine m_mmin hC dX10_cancels_40 kM_X10_135 (by first | omega | (simp [hs_at] <;> omega)) (by decide) (Nat.le_of_ble_eq_true rfl) (by decide) (by decide) ?_
    obtain ⟨ct, hct⟩ : ∃ z, z = min (g 12 (S_pos g x) / 10) (g 0 1) := ⟨_, rfl⟩
    rw [← hct]
    refine m_istore_n hC dX10_cancels_43 rfl (by decide) rfl ?_
    refine m_aload_n hC 2 dX10_cancels_44 rfl rfl ?_
    refine m_getf hC dX10_cancels_45 kf_X10_9 R3.ob rfl ?_
    refine m_iconst hC dX10_cancels_48 ?_
    refine m_dup2 hC dX10_cancels_49 rfl rfl ?_
    refine m_n0 hC R3 dX10_cancels_50 (by decide) ?_
    refine m_iload_n hC 0 dX10_cancels_51 rfl rfl ?_
    refine m_isub hC dX10_cancels_52 ?_
    refine m_s0 hC R3 ha (by first | exact hnq | simpa [hs_at] using hnq) dX10_cancels_53 (by decide) (fun M6 R7 f8 => ?_)
    have R9 : mmV a _ (hs g 0 1 (g 0 1 - ct)) M6 := R7
    have hB1 : h_B (hs g 0 1 (g 0 1 - ct)) := h_BK.toB (K := 100000000) ((hK.mono (by omega)).st0 (by decide) (by omega)) (by omega)
    have e9 : hs g 0 1 (g 0 1 - ct) 0 9 = g 0 9 := rfl
    refine m_aload_n hC 2 dX10_cancels_54 rfl rfl ?_
    refine m_getf hC dX10_cancels_55 kf_X10_9 R9.ob rfl ?_
    refine m_aload_n hC 2 dX10_cancels_58 rfl rfl ?_
    refine m_aload_n hC 2 dX10_cancels_59 rfl rfl ?_
    refine m_iload_n hC 1 dX10_cancels_60 rfl rfl ?_
    refine m_iconst hC dX10_cancels_61 ?_
    refine m_callV hC (t_X10_ofContract hF hl R9 ha hB1 (x := S_pos g x) (y := 1) 10 rfl (by decide) hp2) dX10_cancels_62 kc_X10_ofContract kV_X10_84 R9.ob rfl rfl rfl rfl (Nat.le_of_ble_eq_true rfl) (by decide) (by decide) m_nox (fun v9 M10 h9 => ?_)
    obtain ⟨rfl, h9⟩ := h9
    replace h9 := h9.symm
    subst h9
    refine m_iconst hC dX10_cancels_65 ?_
    refine m_callV hC (t_X10_place hF hl R9 ha hB1 (x := g 10 (S_pos g x)) (y := 1) (by omega)) dX10_cancels_66 kc_X10_place kV_X10_80 R9.ob rfl rfl rfl rfl (Nat.le_of_ble_eq_true rfl) (by decide) (by decide) m_nox (fun v9 M11 h9 => ?_)
    obtain ⟨rfl, h9⟩ := h9
    replace h9 := h9.symm
    subst h9
    rw [if_pos (by omega)]
    refine m_dup2 hC dX10_cancels_69 rfl rfl ?_
    refine m_n5 hC (g 10 (S_pos g x)) R9 dX10_cancels_70 (by omega) (by omega) (by omega) ?_
    refine m_iload_n hC 0 dX10_cancels_71 rfl rfl ?_
    refine m_iadd hC dX10_cancels_72 ?_
    refine m_s5 hC (g 10 (S_pos g x)) R9 ha (by first | exact hnq | simpa [hs_at] using hnq) dX10_cancels_73 (by omega) (by omega) (fun M12 R13 f14 => ?_)
    have R15 : mmV a _ (hs (hs g 0 1 (g 0 1 - ct)) 5 (g 10 (S_pos g x)) (g 5 (g 10 (S_pos g x)) + ct)) M12 := R13
    have hB2 : h_B (hs (hs g 0 1 (g 0 1 - ct)) 5 (g 10 (S_pos g x)) (g 5 (g 10 (S_pos g x)) + ct)) := h_BK.toB (K := 100000000) (((hK.mono (by omega)).st0 (by decide) (by omega)).st5 (by omega)) (by omega)
    refine m_aload_n hC 2 dX10_cancels_74 rfl rfl ?_
    refine m_iload_n hC 1 dX10_cancels_75 rfl rfl ?_
    refine m_callV hC (t_X10_drops hF hl R15 ha hB2 (x := S_pos g x) hp2) dX10_cancels_76 kc_X10_drops kV_X10_138 R15.ob rfl rfl rfl rfl (Nat.le_of_ble_eq_true rfl) (by decide) (by decide) m_nox (fun v9 M16 h9 => ?_)
    obtain ⟨rfl, R17, f18⟩ := h9
    refine m_iload_n hC 0 dX10_cancels_79 rfl rfl ?_
    exact m_iret hC dX10_cancels_80 hr (by decide) (by decide) (m_opy (z := ct) (g := S_del (hs (hs g 0 1 (g 0 1 - ct)) 5 (g 10 (S_pos g x)) (g 5 (g 10 (S_pos g x)) + ct)) (S_pos g x)) (by unfold S_cancel; rw [if_neg k1, hct]; rfl) (by omega) R17 (f4.tr (f8.tr (f14.tr f18))))
  · refine m_iconst hC dX10_cancels_23 ?_
    exact m_iret hC dX10_cancels_24 hr (by decide) (by decide) (m_opg (fun hP => by unfold S_cancel; rw [if_pos (by omega)]; exact ⟨by (try dsimp only); omega, rfl, by simp [o_th, o_ix]⟩) ch R3 f4)

set_option maxHeartbeats 4000000 in
set_option maxRecDepth 100000 in
theorem t_X10_lends {D : va_G} {aC : Nat → ClassId} {s0 : State} {l : Launch} (hF : m_F D aC s0) (hl : l.stackTraces = false) {a : Nat} {w g : h_T} {M : m_M} (hV : mmV a w g M) (ha : s0.heap.size ≤ a) (hB : h_B g) {x : Int} {y : Int} (hx : -2147483648 ≤ x ∧ x < 2147483648) (hy : -2147483648 ≤ y ∧ y < 2147483648) {K : Int} (hK : h_BK K g) (hKb : K ≤ 90000000) : m_Met D aC s0 l yX10_lends cX10_lends 5 (some .int) 4 (0) (0) [.ref a, VI x, VI y] M (m_op a w [-1, -2, -4] (S_lend g x y) M) m_nx := by
  refine m_entry (lv := [(0, .ref a), (1, VI x), (2, VI y)]) (by decide +kernel) (Nat.le_of_ble_eq_true rfl) rfl hF hl ?_
  intro p e s m args below meth c hC hr hno hnm
  change m_C D aC s0 RX10 _ _ _ _ _ _ _ _ _ at hC
  have hn8 := hB.n8
  have hn9 := hB.n9
  have hn11 := hB.n11
  have hnq : g 0 8 ≤ 4 ∧ g 0 9 ≤ 5 ∧ g 0 11 ≤ 8 := hB.c
  refine m_iload_n hC 2 dX10_lends_0 rfl rfl ?_
  refine m_iconst hC dX10_lends_1 ?_
  refine m_bipush hC dX10_lends_2 (by decide) ?_
  refine m_callS hC (t_X10_isIn hF hl (z := y) (lo := 1) (hi := 99) (by omega)) dX10_lends_4 kc_X10_isIn kS_X10_69 rfl rfl (Nat.le_of_ble_eq_true rfl) (by decide) (by decide) m_nox (fun v9 M1 h9 => ?_)
  obtain ⟨rfl, h9⟩ := h9
  replace h9 := h9.symm
  subst h9
  refine m_istore_n hC dX10_lends_7 rfl (by decide) rfl ?_
  refine m_iload_n hC 0 dX10_lends_8 rfl rfl ?_
  refine m_if_eq (tgt := 40) hC dX10_lends_9 (by decide) b01_r (fun c9 => ?_) (fun c9 => ?_)
  · first | have d9 := b01_eq.mp c9 | skip
    refine m_iconst hC dX10_lends_40 ?_
    refine m_istore hC dX10_lends_41 (by decide) rfl ?_
    refine m_aload_n hC 2 dX10_lends_43 rfl rfl ?_
    refine m_aload_n hC 2 dX10_lends_44 rfl rfl ?_
    refine m_iload_n hC 3 dX10_lends_45 rfl rfl ?_
    refine m_callV hC (t_X10_isGoblin hF hl hV ha hB (x := x) hx) dX10_lends_46 kc_X10_isGoblin kV_X10_77 hV.ob rfl rfl rfl rfl (Nat.le_of_ble_eq_true rfl) (by decide) (by decide) m_nox (fun v9 M2 h9 => ?_)
    obtain ⟨rfl, h9⟩ := h9
    replace h9 := h9.symm
    subst h9
    refine m_iload_n hC 1 dX10_lends_49 rfl rfl ?_
    refine m_iload hC 0 dX10_lends_50 rfl ?_
    refine m_iconst hC dX10_lends_52 ?_
    refine m_callV hC (t_X10_holds hF hl hV ha hB (b1 := b01 (0 ≤ x ∧ x < g 0 9)) (b2 := b01 (1 ≤ y ∧ y ≤ 99)) (b3 := 0) (b4 := 1) (by first | exact b01_r | decide | omega) (by first | exact b01_r | decide | omega) (by first | exact b01_r | decide | omega) (by first | exact b01_r | decide | omega)) dX10_lends_53 kc_X10_holds kV_X10_47 hV.ob rfl rfl rfl rfl (Nat.le_of_ble_eq_true rfl) (by decide) (by decide) m_nox (fun v9 M3 h9 => ?_)
    obtain ⟨rfl, R4, f5⟩ := h9
    refine m_if_ne (tgt := 61) hC dX10_lends_56 (by decide) b01_r (fun ch => ?_) (fun ch => ?_)
    · have c0 := b01_ne.mp ch
      rw [c0] at R4
      obtain ⟨k1, k2, k3, k4⟩ := m_th0.mp c0
      exact absurd rfl k3
    · refine m_iconst hC dX10_lends_59 ?_
      exact m_iret hC dX10_lends_60 hr (by decide) (by decide) (m_opn (by unfold S_lend; (repeat' split) <;> first | (refine ⟨(by (try dsimp only); omega), rfl, ?_⟩; simp only [m_th, b01_eq, ne_eq]; (repeat' split) <;> first | omega | (simp [o_th, o_ix]; done) | (exfalso; simp_all; done) | (exfalso; simp_all; omega)) | (exfalso; refine (b01_eq.mp ch) ?_; simp only [m_th, b01_eq, ne_eq]; (repeat' split) <;> first | rfl | omega | (exfalso; simp_all; done) | (exfalso; simp_all; omega))) R4 f5)
  · have d9 := b01_ne.mp c9
    have h1 := hK.s 1 (by omega)
    refine m_iload_n hC 3 dX10_lends_12 rfl rfl ?_
    refine m_aload_n hC 1 dX10_lends_13 rfl rfl ?_
    refine m_getf hC dX10_lends_14 kf_X10_9 hV.ob rfl ?_
    refine m_iconst hC dX10_lends_17 ?_
    refine m_n0 hC hV dX10_lends_18 (by decide) ?_
    refine m_icmp_gt (tgt := 40) hC dX10_lends_19 (by decide) (by first | omega | (simp [hs_at] <;> omega)) (fun c19 => ?_) (fun c19 => ?_)
    · first | have d9 := b01_eq.mp c9 | skip
      refine m_iconst hC dX10_lends_40 ?_
      refine m_istore hC dX10_lends_41 (by decide) rfl ?_
      refine m_aload_n hC 2 dX10_lends_43 rfl rfl ?_
      refine m_aload_n hC 2 dX10_lends_44 rfl rfl ?_
      refine m_iload_n hC 3 dX10_lends_45 rfl rfl ?_
      refine m_callV hC (t_X10_isGoblin hF hl hV ha hB (x := x) hx) dX10_lends_46 kc_X10_isGoblin kV_X10_77 hV.ob rfl rfl rfl rfl (Nat.le_of_ble_eq_true rfl) (by decide) (by decide) m_nox (fun v9 M6 h9 => ?_)
      obtain ⟨rfl, h9⟩ := h9
      replace h9 := h9.symm
      subst h9
      refine m_iload_n hC 1 dX10_lends_49 rfl rfl ?_
      refine m_iload hC 0 dX10_lends_50 rfl ?_
      refine m_iconst hC dX10_lends_52 ?_
      refine m_callV hC (t_X10_holds hF hl hV ha hB (b1 := b01 (0 ≤ x ∧ x < g 0 9)) (b2 := b01 (1 ≤ y ∧ y ≤ 99)) (b3 := 0) (b4 := 1) (by first | exact b01_r | decide | omega) (by first | exact b01_r | decide | omega) (by first | exact b01_r | decide | omega) (by first | exact b01_r | decide | omega)) dX10_lends_53 kc_X10_holds kV_X10_47 hV.ob rfl rfl rfl rfl (Nat.le_of_ble_eq_true rfl) (by decide) (by decide) m_nox (fun v9 M7 h9 => ?_)
      obtain ⟨rfl, R8, f9⟩ := h9
      refine m_if_ne (tgt := 61) hC dX10_lends_56 (by decide) b01_r (fun ch => ?_) (fun ch => ?_)
      · have c0 := b01_ne.mp ch
        rw [c0] at R8
        obtain ⟨k1, k2, k3, k4⟩ := m_th0.mp c0
        exact absurd rfl k3
      · refine m_iconst hC dX10_lends_59 ?_
        exact m_iret hC dX10_lends_60 hr (by decide) (by decide) (m_opn (by unfold S_lend; (repeat' split) <;> first | (refine ⟨(by (try dsimp only); omega), rfl, ?_⟩; simp only [m_th, b01_eq, ne_eq]; (repeat' split) <;> first | omega | (simp [o_th, o_ix]; done) | (exfalso; simp_all; done) | (exfalso; simp_all; omega)) | (exfalso; refine (b01_eq.mp ch) ?_; simp only [m_th, b01_eq, ne_eq]; (repeat' split) <;> first | rfl | omega | (exfalso; simp_all; done) | (exfalso; simp_all; omega))) R8 f9)
    · by_cases hv0 : 0 ≤ x ∧ x < g 0 9
      · refine m_aload_n hC 1 dX10_lends_22 rfl rfl ?_
        refine m_iload_n hC 2 dX10_lends_23 rfl rfl ?_
        refine m_iconst hC dX10_lends_24 ?_
        refine m_callV hC (t_X10_of hF hl hV ha hB (x := x) (y := 2) 6 rfl (by decide) hv0) dX10_lends_25 kc_X10_of kV_X10_95 hV.ob rfl rfl rfl rfl (Nat.le_of_ble_eq_true rfl) (by decide) (by decide) m_nox (fun v9 M10 h9 => ?_)
        obtain ⟨rfl, h9⟩ := h9
        replace h9 := h9.symm
        subst h9
        refine m_iload_n hC 3 dX10_lends_28 rfl rfl ?_
        refine m_iadd hC dX10_lends_29 ?_
        have hgo := hK.go hv0
        refine m_sipush hC dX10_lends_30 (by decide) ?_
        refine m_dia_icmp_gt hC dX10_lends_33 dX10_lends_36 dX10_lends_37 dX10_lends_40 rfl rfl (by first | omega | (simp [hs_at] <;> omega)) ?_
        refine m_istore hC dX10_lends_41 (by decide) rfl ?_
        refine m_aload_n hC 2 dX10_lends_43 rfl rfl ?_
        refine m_aload_n hC 2 dX10_lends_44 rfl rfl ?_
        refine m_iload_n hC 3 dX10_lends_45 rfl rfl ?_
        refine m_callV hC (t_X10_isGoblin hF hl hV ha hB (x := x) hx) dX10_lends_46 kc_X10_isGoblin kV_X10_77 hV.ob rfl rfl rfl rfl (Nat.le_of_ble_eq_true rfl) (by decide) (by decide) m_nox (fun v9 M11 h9 => ?_)
        obtain ⟨rfl, h9⟩ := h9
        replace h9 := h9.symm
        subst h9
        refine m_iload_n hC 1 dX10_lends_49 rfl rfl ?_
        refine m_iload hC 0 dX10_lends_50 rfl ?_
        refine m_iconst hC dX10_lends_52 ?_
        refine m_callV hC (t_X10_holds hF hl hV ha hB (b1 := b01 (0 ≤ x ∧ x < g 0 9)) (b2 := b01 (1 ≤ y ∧ y ≤ 99)) (b3 := b01 (g 6 x + y ≤ 200)) (b4 := 1) (by first | exact b01_r | decide | omega) (by first | exact b01_r | decide | omega) (by first | exact b01_r | decide | omega) (by first | exact b01_r | decide | omega)) dX10_lends_53 kc_X10_holds kV_X10_47 hV.ob rfl rfl rfl rfl (Nat.le_of_ble_eq_true rfl) (by decide) (by decide) m_nox (fun v9 M12 h9 => ?_)
        obtain ⟨rfl, R13, f14⟩ := h9
        refine m_if_ne (tgt := 61) hC dX10_lends_56 (by decide) b01_r (fun ch => ?_) (fun ch => ?_)
        · have c0 := b01_ne.mp ch
          rw [c0] at R13
          obtain ⟨k1, k2, k3, k4⟩ := m_th0.mp c0
          have k2 := b01_ne.mp k2
          have k3 := b01_ne.mp k3
          refine m_aload_n hC 2 dX10_lends_61 rfl rfl ?_
          refine m_getf hC dX10_lends_62 kf_X10_9 R13.ob rfl ?_
          refine m_iconst hC dX10_lends_65 ?_
          refine m_dup2 hC dX10_lends_66 rfl rfl ?_
          refine m_n0 hC R13 dX10_lends_67 (by decide) ?_
          refine m_iload_n hC 4 dX10_lends_68 rfl rfl ?_
          refine m_isub hC dX10_lends_69 ?_
          refine m_s0 hC R13 ha (by first | exact hnq | simpa [hs_at] using hnq) dX10_lends_70 (by decide) (fun M15 R16 f17 => ?_)
          have R18 : mmV a _ (hs g 0 1 (g 0 1 - y)) M15 := R16
          have hB1 : h_B (hs g 0 1 (g 0 1 - y)) := h_BK.toB (K := 100000000) ((hK.mono (by omega)).st0 (by decide) (by omega)) (by omega)
          have e91 : hs g 0 1 (g 0 1 - y) 0 9 = g 0 9 := rfl
          refine m_aload_n hC 2 dX10_lends_71 rfl rfl ?_
          refine m_getf hC dX10_lends_72 kf_X10_9 R18.ob rfl ?_
          refine m_aload_n hC 2 dX10_lends_75 rfl rfl ?_
          refine m_iload_n hC 3 dX10_lends_76 rfl rfl ?_
          refine m_iconst hC dX10_lends_77 ?_
          refine m_callV hC (t_X10_place hF hl R18 ha hB1 (x := x) (y := 1) hx) dX10_lends_78 kc_X10_place kV_X10_80 R18.ob rfl rfl rfl rfl (Nat.le_of_ble_eq_true rfl) (by decide) (by decide) m_nox (fun v9 M19 h9 => ?_)
          obtain ⟨rfl, h9⟩ := h9
          replace h9 := h9.symm
          subst h9
          rw [if_pos (by omega)]
          refine m_dup2 hC dX10_lends_81 rfl rfl ?_
          refine m_n5 hC (x) R18 dX10_lends_82 (by omega) (show 0 ≤ x ∧ x < g 0 9 by omega) (by omega) ?_
          refine m_iload_n hC 4 dX10_lends_83 rfl rfl ?_
          refine m_iadd hC dX10_lends_84 ?_
          refine m_s5 hC (x) R18 ha (by first | exact hnq | simpa [hs_at] using hnq) dX10_lends_85 (by omega) (by omega) (fun M20 R21 f22 => ?_)
          have R23 : mmV a _ (hs (hs g 0 1 (g 0 1 - y)) 5 x (g 5 x + y)) M20 := R21
          have hB2 : h_B (hs (hs g 0 1 (g 0 1 - y)) 5 x (g 5 x + y)) := h_BK.toB (K := 100000000) (((hK.mono (by omega)).st0 (by decide) (by omega)).st5 (by omega)) (by omega)
          have e92 : hs (hs g 0 1 (g 0 1 - y)) 5 x (g 5 x + y) 0 9 = g 0 9 := rfl
          refine m_aload_n hC 2 dX10_lends_86 rfl rfl ?_
          refine m_getf hC dX10_lends_87 kf_X10_9 R23.ob rfl ?_
          refine m_aload_n hC 2 dX10_lends_90 rfl rfl ?_
          refine m_iload_n hC 3 dX10_lends_91 rfl rfl ?_
          refine m_iconst hC dX10_lends_92 ?_
          refine m_callV hC (t_X10_place hF hl R23 ha hB2 (x := x) (y := 2) hx) dX10_lends_93 kc_X10_place kV_X10_80 R23.ob rfl rfl rfl rfl (Nat.le_of_ble_eq_true rfl) (by decide) (by decide) m_nox (fun v9 M24 h9 => ?_)
          obtain ⟨rfl, h9⟩ := h9
          replace h9 := h9.symm
          subst h9
          rw [if_pos (by omega)]
          refine m_dup2 hC dX10_lends_96 rfl rfl ?_
          refine m_n6 hC (x) R23 dX10_lends_97 (by omega) (show 0 ≤ x ∧ x < g 0 9 by omega) (by omega) ?_
          refine m_iload_n hC 4 dX10_lends_98 rfl rfl ?_
          refine m_iadd hC dX10_lends_99 ?_
          refine m_s6 hC (x) R23 ha (by first | exact hnq | simpa [hs_at] using hnq) dX10_lends_100 (by omega) (by omega) (fun M25 R26 f27 => ?_)
          have R28 : mmV a _ (hs (hs (hs g 0 1 (g 0 1 - y)) 5 x (g 5 x + y)) 6 x (g 6 x + y)) M25 := R26
          have hB3 : h_B (hs (hs (hs g 0 1 (g 0 1 - y)) 5 x (g 5 x + y)) 6 x (g 6 x + y)) := h_BK.toB (K := 100000000) ((((hK.mono (by omega)).st0 (by decide) (by omega)).st5 (by omega)).st6 (by omega)) (by omega)
          refine m_aload_n hC 2 dX10_lends_101 rfl rfl ?_
          refine m_iload_n hC 3 dX10_lends_102 rfl rfl ?_
          refine m_iconst hC dX10_lends_103 ?_
          refine m_callV hC (t_X10_of hF hl R28 ha hB3 (x := x) (y := 2) 6 rfl (by decide) hv0) dX10_lends_104 kc_X10_of kV_X10_95 R28.ob rfl rfl rfl rfl (Nat.le_of_ble_eq_true rfl) (by decide) (by decide) m_nox (fun v9 M29 h9 => ?_)
          obtain ⟨rfl, h9⟩ := h9
          replace h9 := h9.symm
          subst h9
          exact m_iret hC dX10_lends_107 hr (by decide) (by decide) (m_opz (S := S_lend g x y) (z := g 6 x + y) (g := hs (hs (hs g 0 1 (g 0 1 - y)) 5 x (g 5 x + y)) 6 x (g 6 x + y)) (by unfold S_lend; rw [if_neg (by omega), if_neg (by omega), if_neg (by omega)]) hs_s (by omega) R28 (f14.tr (f17.tr (f22.tr f27))))
        · refine m_iconst hC dX10_lends_59 ?_
          exact m_iret hC dX10_lends_60 hr (by decide) (by decide) (m_opn (by unfold S_lend; (repeat' split) <;> first | (refine ⟨(by (try dsimp only); omega), rfl, ?_⟩; simp only [m_th, b01_eq, ne_eq]; (repeat' split) <;> first | omega | (simp [o_th, o_ix]; done) | (exfalso; simp_all; done) | (exfalso; simp_all; omega)) | (exfalso; refine (b01_eq.mp ch) ?_; simp only [m_th, b01_eq, ne_eq]; (repeat' split) <;> first | rfl | omega | (exfalso; simp_all; done) | (exfalso; simp_all; omega))) R13 f14)
      · refine m_aload_n hC 1 dX10_lends_22 rfl rfl ?_
        refine m_iload_n hC 2 dX10_lends_23 rfl rfl ?_
        refine m_iconst hC dX10_lends_24 ?_
        refine m_callV hC (t_X10_of_y hF hl hV ha hB (x := x) (y := 2) hx (by decide)) dX10_lends_25 kc_X10_of kV_X10_95 hV.ob rfl rfl rfl rfl (Nat.le_of_ble_eq_true rfl) (by decide) (by decide) m_nox (fun v9 M30 h9 => ?_)
        obtain ⟨⟨z9, rfl, hz9⟩, h9⟩ := h9
        replace h9 := h9.symm
        subst h9
        refine m_iload_n hC 3 dX10_lends_28 rfl rfl ?_
        refine m_iadd hC dX10_lends_29 ?_
        refine m_tor (fun z8 hz8 => ?_)
        refine m_sipush hC dX10_lends_30 (by decide) ?_
        refine m_dia_icmp_gt hC dX10_lends_33 dX10_lends_36 dX10_lends_37 dX10_lends_40 rfl rfl (by first | omega | (simp [hs_at] <;> omega)) ?_
        refine m_istore hC dX10_lends_41 (by decide) rfl ?_
        refine m_aload_n hC 2 dX10_lends_43 rfl rfl ?_
        refine m_aload_n hC 2 dX10_lends_44 rfl rfl ?_
        refine m_iload_n hC 3 dX10_lends_45 rfl rfl ?_
        refine m_callV hC (t_X10_isGoblin hF hl hV ha hB (x := x) hx) dX10_lends_46 kc_X10_isGoblin kV_X10_77 hV.ob rfl rfl rfl rfl (Nat.le_of_ble_eq_true rfl) (by decide) (by decide) m_nox (fun v9 M31 h9 => ?_)
        obtain ⟨rfl, h9⟩ := h9
        replace h9 := h9.symm
        subst h9
        refine m_iload_n hC 1 dX10_lends_49 rfl rfl ?_
        refine m_iload hC 0 dX10_lends_50 rfl ?_
        refine m_iconst hC dX10_lends_52 ?_
        refine m_callV hC (t_X10_holds hF hl hV ha hB (b1 := b01 (0 ≤ x ∧ x < g 0 9)) (b2 := b01 (1 ≤ y ∧ y ≤ 99)) (b3 := b01 (z8 ≤ 200)) (b4 := 1) (by first | exact b01_r | decide | omega) (by first | exact b01_r | decide | omega) (by first | exact b01_r | decide | omega) (by first | exact b01_r | decide | omega)) dX10_lends_53 kc_X10_holds kV_X10_47 hV.ob rfl rfl rfl rfl (Nat.le_of_ble_eq_true rfl) (by decide) (by decide) m_nox (fun v9 M32 h9 => ?_)
        obtain ⟨rfl, R33, f34⟩ := h9
        refine m_if_ne (tgt := 61) hC dX10_lends_56 (by decide) b01_r (fun ch => ?_) (fun ch => ?_)
        · have c0 := b01_ne.mp ch
          rw [c0] at R33
          obtain ⟨k1, k2, k3, k4⟩ := m_th0.mp c0
          exact absurd (b01_ne.mp k1) hv0
        · refine m_iconst hC dX10_lends_59 ?_
          exact m_iret hC dX10_lends_60 hr (by decide) (by decide) (m_opn (by unfold S_lend; (repeat' split) <;> first | (refine ⟨(by (try dsimp only); omega), rfl, ?_⟩; simp only [m_th, b01_eq, ne_eq]; (repeat' split) <;> first | omega | (simp [o_th, o_ix]; done) | (exfalso; simp_all; done) | (exfalso; simp_all; omega)) | (exfalso; refine (b01_eq.mp ch) ?_; simp only [m_th, b01_eq, ne_eq]; (repeat' split) <;> first | rfl | omega | (exfalso; simp_all; done) | (exfalso; simp_all; omega))) R33 f34)

theorem X_paye {g : h_T} {x z pd bk : Int} (hpd : pd = min z (g 0 1)) (hbk : bk = min pd (g 6 x)) : S_pay g x z = hs (hs (hs (hs g 0 1 (g 0 1 + (bk - pd))) 6 x (g 6 x - bk)) 5 x (g 5 x + (pd - bk))) 0 6 (g 0 6 + (z - pd)) := by
  rw [X_pay]
  unfold S_pay
  rw [← hpd, ← hbk]
set_option maxHeartbeats 4000000 in
set_option maxRecDepth 100000 in
theorem t_X10_pays {D : va_G} {aC : Nat → ClassId} {s0 : State} {l : Launch} (hF : m_F D aC s0) (hl : l.stackTraces = false) {a : Nat} {w g : h_T} {M : m_M} (hV : mmV a w g M) (ha : s0.heap.size ≤ a) (hB : h_B g) {x : Int} (hx : 0 ≤ x ∧ x < g 0 11) {K : Int} (hK : h_BK K g) (hKb : K ≤ 90000000) : m_Met D aC s0 l yX10_pays cX10_pays 5 none 4 (0) (0) [.ref a, VI x] M (fun v M' => v = none ∧ mmV a w (S_pay g (g 10 x) (g 12 x)) M' ∧ m_fr a 10 M M') m_nx := by
  refine m_entry (lv := [(0, .ref a), (1, VI x)]) (by decide +kernel) (Nat.le_of_ble_eq_true rfl) rfl hF hl ?_
  intro p e s m args below meth c hC hr hno hnm
  change m_C D aC s0 RX10 _ _ _ _ _ _ _ _ _ at hC
  have hn8 := hB.n8
  have hn9 := hB.n9
  have hn11 := hB.n11
  have hnq : g 0 8 ≤ 4 ∧ g 0 9 ≤ 5 ∧ g 0 11 ≤ 8 := hB.c
  have hco := hB.co hx
  have hgo := hK.go (i := g 10 x) (by omega)
  have h1 := hK.s 1 (by omega)
  refine m_aload_n hC 0 dX10_pays_0 rfl rfl ?_
  refine m_iload_n hC 1 dX10_pays_1 rfl rfl ?_
  refine m_iconst hC dX10_pays_2 ?_
  refine m_callV hC (t_X10_ofContract hF hl hV ha hB (x := x) (y := 1) 10 rfl (by decide) hx) dX10_pays_3 kc_X10_ofContract kV_X10_84 hV.ob rfl rfl rfl rfl (Nat.le_of_ble_eq_true rfl) (by decide) (by decide) m_nox (fun v9 M1 h9 => ?_)
  obtain ⟨rfl, h9⟩ := h9
  replace h9 := h9.symm
  subst h9
  refine m_istore_n hC dX10_pays_6 rfl (by decide) rfl ?_
  refine m_aload_n hC 1 dX10_pays_7 rfl rfl ?_
  refine m_iload_n hC 2 dX10_pays_8 rfl rfl ?_
  refine m_iconst hC dX10_pays_9 ?_
  refine m_callV hC (t_X10_ofContract hF hl hV ha hB (x := x) (y := 3) 12 rfl (by decide) hx) dX10_pays_10 kc_X10_ofContract kV_X10_84 hV.ob rfl rfl rfl rfl (Nat.le_of_ble_eq_true rfl) (by decide) (by decide) m_nox (fun v9 M2 h9 => ?_)
  obtain ⟨rfl, h9⟩ := h9
  replace h9 := h9.symm
  subst h9
  refine m_aload_n hC 1 dX10_pays_13 rfl rfl ?_
  refine m_getf hC dX10_pays_14 kf_X10_9 hV.ob rfl ?_
  refine m_iconst hC dX10_pays_17 ?_
  refine m_n0 hC hV dX10_pays_18 (by decide) ?_
  refine m_mmin hC dX10_pays_19 kM_X10_135 (by first | omega | (simp [hs_at] <;> omega)) (by decide) (Nat.le_of_ble_eq_true rfl) (by decide) (by decide) ?_
  obtain ⟨pd, hpd⟩ : ∃ z, z = min (g 12 x) (g 0 1) := ⟨_, rfl⟩
  rw [← hpd]
  refine m_istore_n hC dX10_pays_22 rfl (by decide) rfl ?_
  refine m_iload_n hC 0 dX10_pays_23 rfl rfl ?_
  refine m_aload_n hC 2 dX10_pays_24 rfl rfl ?_
  refine m_iload_n hC 1 dX10_pays_25 rfl rfl ?_
  refine m_iconst hC dX10_pays_26 ?_
  refine m_callV hC (t_X10_of hF hl hV ha hB (x := g 10 x) (y := 2) 6 rfl (by decide) (by omega)) dX10_pays_27 kc_X10_of kV_X10_95 hV.ob rfl rfl rfl rfl (Nat.le_of_ble_eq_true rfl) (by decide) (by decide) m_nox (fun v9 M3 h9 => ?_)
  obtain ⟨rfl, h9⟩ := h9
  replace h9 := h9.symm
  subst h9
  refine m_mmin hC dX10_pays_30 kM_X10_135 (by first | omega | (simp [hs_at] <;> omega)) (by decide) (Nat.le_of_ble_eq_true rfl) (by decide) (by decide) ?_
  obtain ⟨bk, hbk⟩ : ∃ z, z = min pd (g 6 (g 10 x)) := ⟨_, rfl⟩
  rw [← hbk]
  refine m_istore hC dX10_pays_33 (by decide) rfl ?_
  refine m_aload_n hC 3 dX10_pays_35 rfl rfl ?_
  refine m_getf hC dX10_pays_36 kf_X10_9 hV.ob rfl ?_
  refine m_iconst hC dX10_pays_39 ?_
  refine m_dup2 hC dX10_pays_40 rfl rfl ?_
  refine m_n0 hC hV dX10_pays_41 (by decide) ?_
  refine m_iload hC 0 dX10_pays_42 rfl ?_
  refine m_iload_n hC 1 dX10_pays_44 rfl rfl ?_
  refine m_isub hC dX10_pays_45 ?_
  refine m_iadd hC dX10_pays_46 ?_
  refine m_s0 hC hV ha (by first | exact hnq | simpa [hs_at] using hnq) dX10_pays_47 (by decide) (fun M4 R5 f6 => ?_)
  have R7 : mmV a _ (hs g 0 1 (g 0 1 + (bk - pd))) M4 := R5
  have hB1 : h_B (hs g 0 1 (g 0 1 + (bk - pd))) := h_BK.toB (K := 100000000) ((hK.mono (by omega)).st0 (by decide) (by omega)) (by omega)
  have e91 : hs g 0 1 (g 0 1 + (bk - pd)) 0 9 = g 0 9 := rfl
  refine m_aload_n hC 3 dX10_pays_48 rfl rfl ?_
  refine m_getf hC dX10_pays_49 kf_X10_9 R7.ob rfl ?_
  refine m_aload_n hC 3 dX10_pays_52 rfl rfl ?_
  refine m_iload_n hC 2 dX10_pays_53 rfl rfl ?_
  refine m_iconst hC dX10_pays_54 ?_
  refine m_callV hC (t_X10_place hF hl R7 ha hB1 (x := g 10 x) (y := 2) (by omega)) dX10_pays_55 kc_X10_place kV_X10_80 R7.ob rfl rfl rfl rfl (Nat.le_of_ble_eq_true rfl) (by decide) (by decide) m_nox (fun v9 M8 h9 => ?_)
  obtain ⟨rfl, h9⟩ := h9
  replace h9 := h9.symm
  subst h9
  rw [if_pos (by omega)]
  refine m_dup2 hC dX10_pays_58 rfl rfl ?_
  refine m_n6 hC (g 10 x) R7 dX10_pays_59 (by omega) (show 0 ≤ g 10 x ∧ g 10 x < g 0 9 by omega) (by omega) ?_
  refine m_iload hC 0 dX10_pays_60 rfl ?_
  refine m_isub hC dX10_pays_62 ?_
  refine m_s6 hC (g 10 x) R7 ha (by first | exact hnq | simpa [hs_at] using hnq) dX10_pays_63 (by omega) (by omega) (fun M9 R10 f11 => ?_)
  have R12 : mmV a _ (hs (hs g 0 1 (g 0 1 + (bk - pd))) 6 (g 10 x) (g 6 (g 10 x) - bk)) M9 := R10
  have hB2 : h_B (hs (hs g 0 1 (g 0 1 + (bk - pd))) 6 (g 10 x) (g 6 (g 10 x) - bk)) := h_BK.toB (K := 100000000) (((hK.mono (by omega)).st0 (by decide) (by omega)).st6 (by omega)) (by omega)
  have e92 : hs (hs g 0 1 (g 0 1 + (bk - pd))) 6 (g 10 x) (g 6 (g 10 x) - bk) 0 9 = g 0 9 := rfl
  refine m_aload_n hC 3 dX10_pays_64 rfl rfl ?_
  refine m_getf hC dX10_pays_65 kf_X10_9 R12.ob rfl ?_
  refine m_aload_n hC 3 dX10_pays_68 rfl rfl ?_
  refine m_iload_n hC 2 dX10_pays_69 rfl rfl ?_
  refine m_iconst hC dX10_pays_70 ?_
  refine m_callV hC (t_X10_place hF hl R12 ha hB2 (x := g 10 x) (y := 1) (by omega)) dX10_pays_71 kc_X10_place kV_X10_80 R12.ob rfl rfl rfl rfl (Nat.le_of_ble_eq_true rfl) (by decide) (by decide) m_nox (fun v9 M13 h9 => ?_)
  obtain ⟨rfl, h9⟩ := h9
  replace h9 := h9.symm
  subst h9
  rw [if_pos (by omega)]
  refine m_dup2 hC dX10_pays_74 rfl rfl ?_
  refine m_n5 hC (g 10 x) R12 dX10_pays_75 (by omega) (show 0 ≤ g 10 x ∧ g 10 x < g 0 9 by omega) (by omega) ?_
  refine m_iload_n hC 1 dX10_pays_76 rfl rfl ?_
  refine m_iload hC 0 dX10_pays_77 rfl ?_
  refine m_isub hC dX10_pays_79 ?_
  refine m_iadd hC dX10_pays_80 ?_
  refine m_s5 hC (g 10 x) R12 ha (by first | exact hnq | simpa [hs_at] using hnq) dX10_pays_81 (by omega) (by omega) (fun M14 R15 f16 => ?_)
  have R17 : mmV a _ (hs (hs (hs g 0 1 (g 0 1 + (bk - pd))) 6 (g 10 x) (g 6 (g 10 x) - bk)) 5 (g 10 x) (g 5 (g 10 x) + (pd - bk))) M14 := R15
  have hB3 : h_B (hs (hs (hs g 0 1 (g 0 1 + (bk - pd))) 6 (g 10 x) (g 6 (g 10 x) - bk)) 5 (g 10 x) (g 5 (g 10 x) + (pd - bk))) := h_BK.toB (K := 100000000) ((((hK.mono (by omega)).st0 (by decide) (by omega)).st6 (by omega)).st5 (by omega)) (by omega)
  have e93 : hs (hs (hs g 0 1 (g 0 1 + (bk - pd))) 6 (g 10 x) (g 6 (g 10 x) - bk)) 5 (g 10 x) (g 5 (g 10 x) + (pd - bk)) 0 9 = g 0 9 := rfl
  refine m_aload_n hC 3 dX10_pays_82 rfl rfl ?_
  refine m_getf hC dX10_pays_83 kf_X10_9 R17.ob rfl ?_
  refine m_bipush hC dX10_pays_86 (by decide) ?_
  refine m_dup2 hC dX10_pays_88 rfl rfl ?_
  refine m_n0 hC R17 dX10_pays_89 (by decide) ?_
  refine m_aload_n hC 3 dX10_pays_90 rfl rfl ?_
  refine m_iload_n hC 4 dX10_pays_91 rfl rfl ?_
  refine m_iconst hC dX10_pays_92 ?_
  refine m_callV hC (t_X10_ofContract hF hl R17 ha hB3 (x := x) (y := 3) 12 rfl (by decide) hx) dX10_pays_93 kc_X10_ofContract kV_X10_84 R17.ob rfl rfl rfl rfl (Nat.le_of_ble_eq_true rfl) (by decide) (by decide) m_nox (fun v9 M18 h9 => ?_)
  obtain ⟨rfl, h9⟩ := h9
  replace h9 := h9.symm
  subst h9
  refine m_iload_n hC 1 dX10_pays_96 rfl rfl ?_
  refine m_isub hC dX10_pays_97 ?_
  refine m_iadd hC dX10_pays_98 ?_
  refine m_s0 hC R17 ha (by first | exact hnq | simpa [hs_at] using hnq) dX10_pays_99 (by decide) (fun M19 R20 f21 => ?_)
  exact m_vret hC dX10_pays_100 hr (by decide) (by decide) (⟨rfl, by rw [X_paye hpd hbk]; exact R20, (f6.tr (f11.tr (f16.tr f21)))⟩)

