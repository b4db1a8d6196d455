def m_op (a : Nat) (w : h_T) (cs : List Int) (S : Int × h_T) (M : m_M) : Option Value → m_M → Prop := fun v M' => v = some (VI (if S.1 < 0 then 0 else S.1)) ∧ mmV a (hs w 0 14 (o_th cs S.1)) S.2 M' ∧ m_fr a 10 M M'
theorem m_opn {a : Nat} {w g : h_T} {cs : List Int} {S : Int × h_T} {M M2 : m_M} {th : Int} (h : S.1 < 0 ∧ S.2 = g ∧ o_th cs S.1 = th) (hV : mmV a (hs w 0 14 th) g M2) (hf : m_fr a 10 M M2) : m_op a w cs S M (some (VI 0)) M2 := by
  obtain ⟨h1, h2, h3⟩ := h
  refine ⟨by rw [if_pos h1], ?_, hf⟩
  rw [h2, h3]
  exact hV
theorem m_opy {a : Nat} {w g : h_T} {cs : List Int} {S : Int × h_T} {M M2 : m_M} {z : Int} (h : S = (z, g)) (hz : 0 ≤ z) (hV : mmV a (hs w 0 14 0) g M2) (hf : m_fr a 10 M M2) : m_op a w cs S M (some (VI z)) M2 := by
  subst h
  refine ⟨by rw [if_neg (by show ¬ z < 0; omega)], ?_, hf⟩
  rw [show o_th cs (z, g).1 = 0 from if_pos hz]
  exact hV
theorem m_th0 {b1 b2 b3 b4 : Int} : m_th b1 b2 b3 b4 = 0 ↔ b1 ≠ 0 ∧ b2 ≠ 0 ∧ b3 ≠ 0 ∧ b4 ≠ 0 := by
  unfold m_th
  (repeat' split) <;> simp_all
theorem mmV.n {a : Nat} {w w2 g : h_T} {M : m_M} (h : mmV a w g M) (e : w = w2) : mmV a w2 g M := e ▸ h
set_option maxHeartbeats 4000000 in
set_option maxRecDepth 100000 in
theorem t_X10_addsBroom {D : va_G} {aC : Nat → ClassId} {s0 : State} {l : Launch} (hF : m_F D aC s0) (hl : l.stackTraces = false) {a : Nat} {w g : h_T} {M : m_M} (hV : mmV a w g M) (ha : s0.heap.size ≤ a) (hB : h_B g) {x : Int} (hx : -2147483648 ≤ x ∧ x < 2147483648) : m_Met D aC s0 l yX10_addsBroom cX10_addsBroom 2 (some .int) 1 (0) (0) [.ref a, VI x] M (m_op a w [-2, -3] (S_addBroom g x) M) m_nx := by
  refine m_entry (lv := [(0, .ref a), (1, VI x)]) (by decide +kernel) (Nat.le_of_ble_eq_true rfl) rfl hF hl ?_
  intro p e s m args below meth c hC hr hno hnm
  change m_C D aC s0 RX10 _ _ _ _ _ _ _ _ _ at hC
  have hn8 := hB.n8
  have hn9 := hB.n9
  have hn11 := hB.n11
  have hn8 := hB.n8
  refine m_aload_n hC 0 dX10_addsBroom_0 rfl rfl ?_
  refine m_iload_n hC 1 dX10_addsBroom_1 rfl rfl ?_
  refine m_iconst hC dX10_addsBroom_2 ?_
  refine m_bipush hC dX10_addsBroom_3 (by decide) ?_
  refine m_callS hC (t_X10_isIn hF hl (z := x) (lo := 1) (hi := 20) (by omega)) dX10_addsBroom_5 kc_X10_isIn kS_X10_69 rfl rfl (Nat.le_of_ble_eq_true rfl) (by decide) (by decide) m_nox (fun v9 M1 h9 => ?_)
  obtain ⟨rfl, h9⟩ := h9
  replace h9 := h9.symm
  subst h9
  refine m_aload_n hC 0 dX10_addsBroom_8 rfl rfl ?_
  refine m_getf hC dX10_addsBroom_9 kf_X10_9 hV.ob rfl ?_
  refine m_bipush hC dX10_addsBroom_12 (by decide) ?_
  refine m_n0 hC hV dX10_addsBroom_14 (by decide) ?_
  refine m_iconst hC dX10_addsBroom_15 ?_
  refine m_dia_icmp_ge hC dX10_addsBroom_16 dX10_addsBroom_19 dX10_addsBroom_20 dX10_addsBroom_23 rfl rfl (by first | omega | (simp [hs_at] <;> omega)) ?_
  refine m_iconst hC dX10_addsBroom_24 ?_
  refine m_iconst hC dX10_addsBroom_25 ?_
  refine m_callV hC (t_X10_holds hF hl hV ha hB (b1 := b01 (1 ≤ x ∧ x ≤ 20)) (b2 := b01 (g 0 8 < 4)) (b3 := 1) (b4 := 1) (by first | exact b01_r | decide | omega) (by first | exact b01_r | decide | omega) (by first | exact b01_r | decide | omega) (by first | exact b01_r | decide | omega)) dX10_addsBroom_26 kc_X10_holds kV_X10_47 hV.ob rfl rfl rfl rfl (Nat.le_of_ble_eq_true rfl) (by decide) (by decide) m_nox (fun v9 M2 h9 => ?_)
  obtain ⟨rfl, R3, f4⟩ := h9
  refine m_if_ne (tgt := 34) hC dX10_addsBroom_29 (by decide) b01_r (fun ch => ?_) (fun ch => ?_)
  · have c0 := b01_ne.mp ch
    rw [c0] at R3
    obtain ⟨k1, k2, k3, k4⟩ := m_th0.mp c0
    have k1 := b01_ne.mp k1
    have k2 := b01_ne.mp k2
    obtain ⟨G, R5, he⟩ := R3.A
    have e8 : G 0 8 = g 0 8 := he.s 8 (by omega)
    have e9 : G 0 9 = g 0 9 := he.s 9 (by omega)
    have e11 : G 0 11 = g 0 11 := he.s 11 (by omega)
    refine m_aload_n hC 0 dX10_addsBroom_34 rfl rfl ?_
    refine m_getf hC dX10_addsBroom_35 kf_X10_9 R5.ob rfl ?_
    refine m_bipush hC dX10_addsBroom_38 (by decide) ?_
    refine m_iconst hC dX10_addsBroom_40 ?_
    refine m_aload_n hC 0 dX10_addsBroom_41 rfl rfl ?_
    refine m_getf hC dX10_addsBroom_42 kf_X10_9 R5.ob rfl ?_
    refine m_bipush hC dX10_addsBroom_45 (by decide) ?_
    refine m_ar hC 0 (8) R5 dX10_addsBroom_47 rfl (by decide) (show 0 ≤ (8 : Int) ∧ (8 : Int) < 12 by omega) ?_
    refine m_imul hC dX10_addsBroom_48 ?_
    refine m_iadd hC dX10_addsBroom_49 ?_
    refine m_iconst hC dX10_addsBroom_50 ?_
    refine m_iadd hC dX10_addsBroom_51 ?_
    refine m_iload_n hC 1 dX10_addsBroom_52 rfl rfl ?_
    refine m_aw hC 2 (G 0 8) R5 ha dX10_addsBroom_53 rfl (by decide) (show 0 ≤ G 0 8 ∧ G 0 8 < 4 by omega) (fun M7 R8 f9 => ?_)
    refine m_aload_n hC 0 dX10_addsBroom_54 rfl rfl ?_
    refine m_getf hC dX10_addsBroom_55 kf_X10_9 R8.ob rfl ?_
    refine m_bipush hC dX10_addsBroom_58 (by decide) ?_
    refine m_iconst hC dX10_addsBroom_60 ?_
    refine m_aload_n hC 0 dX10_addsBroom_61 rfl rfl ?_
    refine m_getf hC dX10_addsBroom_62 kf_X10_9 R8.ob rfl ?_
    refine m_bipush hC dX10_addsBroom_65 (by decide) ?_
    refine m_ar hC 0 (8) R8 dX10_addsBroom_67 rfl (by decide) (show 0 ≤ (8 : Int) ∧ (8 : Int) < 12 by omega) ?_
    refine m_imul hC dX10_addsBroom_68 ?_
    refine m_iadd hC dX10_addsBroom_69 ?_
    refine m_iconst hC dX10_addsBroom_70 ?_
    refine m_iadd hC dX10_addsBroom_71 ?_
    refine m_iconst hC dX10_addsBroom_72 ?_
    refine m_aw hC 3 (G 0 8) R8 ha dX10_addsBroom_73 rfl (by decide) (show 0 ≤ G 0 8 ∧ G 0 8 < 4 by omega) (fun M10 R11 f12 => ?_)
    refine m_aload_n hC 0 dX10_addsBroom_74 rfl rfl ?_
    refine m_getf hC dX10_addsBroom_75 kf_X10_9 R11.ob rfl ?_
    refine m_bipush hC dX10_addsBroom_78 (by decide) ?_
    refine m_dup2 hC dX10_addsBroom_80 rfl rfl ?_
    refine m_ar hC 0 (8) R11 dX10_addsBroom_81 rfl (by decide) (show 0 ≤ (8 : Int) ∧ (8 : Int) < 12 by omega) ?_
    refine m_iconst hC dX10_addsBroom_82 ?_
    refine m_iadd hC dX10_addsBroom_83 ?_
    refine m_aw hC 0 (8) R11 ha dX10_addsBroom_84 rfl (by decide) (show 0 ≤ (8 : Int) ∧ (8 : Int) < 12 by omega) (fun M13 R14 f15 => ?_)
    refine m_aload_n hC 0 dX10_addsBroom_85 rfl rfl ?_
    refine m_getf hC dX10_addsBroom_86 kf_X10_9 R14.ob rfl ?_
    refine m_bipush hC dX10_addsBroom_89 (by decide) ?_
    refine m_ar hC 0 (8) R14 dX10_addsBroom_91 rfl (by decide) (show 0 ≤ (8 : Int) ∧ (8 : Int) < 12 by omega) ?_
    refine m_iconst hC dX10_addsBroom_92 ?_
    refine m_isub hC dX10_addsBroom_93 ?_
    rw [show ∀ q1 q2 q3 : Int, hs (hs (hs G 2 (G 0 8) q1) 3 (G 0 8) q2) 0 8 (q3 + 1) 0 8 - 1 = q3 from fun q1 q2 q3 => by rw [hs_s]; omega, show hs (hs G 2 (G 0 8) x) 3 (G 0 8) 0 0 8 = g 0 8 from e8]
    exact m_iret hC dX10_addsBroom_94 hr (by decide) (by decide) ((m_opy (z := g 0 8) (g := S_bro g x) (by unfold S_addBroom; rw [if_neg (by omega), if_neg (by omega)]) (by omega) (R14.V (by refine ⟨?_, ?_, ?_⟩ <;> (simp [hs_at]; omega)) (he.bro x)) (f4.tr (f9.tr (f12.tr f15)))))
  · refine m_iconst hC dX10_addsBroom_32 ?_
    exact m_iret hC dX10_addsBroom_33 hr (by decide) (by decide) (m_opn (by unfold S_addBroom; (repeat' split) <;> first | (refine ⟨(by dsimp only; omega), rfl, ?_⟩; simp only [m_th, b01_eq]; (repeat' split) <;> first | omega | (simp [o_th, o_ix])) | (exfalso; refine (b01_eq.mp ch) ?_; simp only [m_th, b01_eq]; (repeat' split) <;> first | omega | (simp [o_th, o_ix]))) R3 f4)

set_option maxHeartbeats 4000000 in
set_option maxRecDepth 100000 in
theorem t_X10_addsGoblin {D : va_G} {aC : Nat → ClassId} {s0 : State} {l : Launch} (hF : m_F D aC s0) (hl : l.stackTraces = false) {a : Nat} {w g : h_T} {M : m_M} (hV : mmV a w g M) (ha : s0.heap.size ≤ a) (hB : h_B g) {x : Int} (hx : -2147483648 ≤ x ∧ x < 2147483648) : m_Met D aC s0 l yX10_addsGoblin cX10_addsGoblin 4 (some .int) 1 (0) (0) [.ref a, VI x] M (m_op a w [-2, -3] (S_addGoblin g x) M) m_nx := by
  refine m_entry (lv := [(0, .ref a), (1, VI x)]) (by decide +kernel) (Nat.le_of_ble_eq_true rfl) rfl hF hl ?_
  intro p e s m args below meth c hC hr hno hnm
  change m_C D aC s0 RX10 _ _ _ _ _ _ _ _ _ at hC
  have hn8 := hB.n8
  have hn9 := hB.n9
  have hn11 := hB.n11
  have hn9 := hB.n9
  refine m_aload_n hC 0 dX10_addsGoblin_0 rfl rfl ?_
  refine m_iload_n hC 1 dX10_addsGoblin_1 rfl rfl ?_
  refine m_iconst hC dX10_addsGoblin_2 ?_
  refine m_bipush hC dX10_addsGoblin_3 (by decide) ?_
  refine m_callS hC (t_X10_isIn hF hl (z := x) (lo := 1) (hi := 9) (by omega)) dX10_addsGoblin_5 kc_X10_isIn kS_X10_69 rfl rfl (Nat.le_of_ble_eq_true rfl) (by decide) (by decide) m_nox (fun v9 M1 h9 => ?_)
  obtain ⟨rfl, h9⟩ := h9
  replace h9 := h9.symm
  subst h9
  refine m_aload_n hC 0 dX10_addsGoblin_8 rfl rfl ?_
  refine m_getf hC dX10_addsGoblin_9 kf_X10_9 hV.ob rfl ?_
  refine m_bipush hC dX10_addsGoblin_12 (by decide) ?_
  refine m_n0 hC hV dX10_addsGoblin_14 (by decide) ?_
  refine m_iconst hC dX10_addsGoblin_15 ?_
  refine m_dia_icmp_ge hC dX10_addsGoblin_16 dX10_addsGoblin_19 dX10_addsGoblin_20 dX10_addsGoblin_23 rfl rfl (by first | omega | (simp [hs_at] <;> omega)) ?_
  refine m_iconst hC dX10_addsGoblin_24 ?_
  refine m_iconst hC dX10_addsGoblin_25 ?_
  refine m_callV hC (t_X10_holds hF hl hV ha hB (b1 := b01 (1 ≤ x ∧ x ≤ 9)) (b2 := b01 (g 0 9 < 5)) (b3 := 1) (b4 := 1) (by first | exact b01_r | decide | omega) (by first | exact b01_r | decide | omega) (by first | exact b01_r | decide | omega) (by first | exact b01_r | decide | omega)) dX10_addsGoblin_26 kc_X10_holds kV_X10_47 hV.ob rfl rfl rfl rfl (Nat.le_of_ble_eq_true rfl) (by decide) (by decide) m_nox (fun v9 M2 h9 => ?_)
  obtain ⟨rfl, R3, f4⟩ := h9
  refine m_if_ne (tgt := 34) hC dX10_addsGoblin_29 (by decide) b01_r (fun ch => ?_) (fun ch => ?_)
  · have c0 := b01_ne.mp ch
    rw [c0] at R3
    obtain ⟨k1, k2, k3, k4⟩ := m_th0.mp c0
    have k1 := b01_ne.mp k1
    have k2 := b01_ne.mp k2
    obtain ⟨G, R5, he⟩ := R3.A
    have e8 : G 0 8 = g 0 8 := he.s 8 (by omega)
    have e9 : G 0 9 = g 0 9 := he.s 9 (by omega)
    have e11 : G 0 11 = g 0 11 := he.s 11 (by omega)
    refine m_bipush hC dX10_addsGoblin_34 (by decide) ?_
    refine m_iconst hC dX10_addsGoblin_36 ?_
    refine m_aload_n hC 0 dX10_addsGoblin_37 rfl rfl ?_
    refine m_getf hC dX10_addsGoblin_38 kf_X10_9 R5.ob rfl ?_
    refine m_bipush hC dX10_addsGoblin_41 (by decide) ?_
    refine m_ar hC 0 (9) R5 dX10_addsGoblin_43 rfl (by decide) (show 0 ≤ (9 : Int) ∧ (9 : Int) < 12 by omega) ?_
    refine m_imul hC dX10_addsGoblin_44 ?_
    refine m_iadd hC dX10_addsGoblin_45 ?_
    refine m_istore_n hC dX10_addsGoblin_46 rfl (by decide) rfl ?_
    refine m_iconst hC dX10_addsGoblin_47 ?_
    refine m_istore_n hC dX10_addsGoblin_48 rfl (by decide) rfl ?_
    refine m_lvs [0, 1, 3, 2] (lv2 := [(3, VI 0), (2, VI (26 + 5 * G 0 9)), (1, VI x), (0, .ref a)]) rfl ?_
    refine m_iload_n hC 0 dX10_addsGoblin_49 rfl rfl ?_
    refine m_iconst hC dX10_addsGoblin_50 ?_
    refine m_icmp_ge (tgt := 77) hC dX10_addsGoblin_51 (by decide) (by first | omega | (simp [hs_at] <;> omega)) (fun c7 => by omega) (fun c7 => ?_)
    refine m_aload_n hC 3 dX10_addsGoblin_54 rfl rfl ?_
    refine m_getf hC dX10_addsGoblin_55 kf_X10_9 R5.ob rfl ?_
    refine m_iload_n hC 1 dX10_addsGoblin_58 rfl rfl ?_
    refine m_iload_n hC 0 dX10_addsGoblin_59 rfl rfl ?_
    refine m_iadd hC dX10_addsGoblin_60 ?_
    refine m_iload_n hC 0 dX10_addsGoblin_61 rfl rfl ?_
    refine m_if_ne (tgt := 69) hC dX10_addsGoblin_62 (by decide) (by first | omega | (simp [hs_at] <;> omega)) (fun c8 => by omega) (fun c8 => ?_)
    refine m_iload_n hC 2 dX10_addsGoblin_65 rfl rfl ?_
    refine m_goto (tgt := 70) hC dX10_addsGoblin_66 (by decide) ?_
    refine m_aw hC 4 (G 0 9) R5 ha dX10_addsGoblin_70 rfl (by decide) (show 0 ≤ G 0 9 ∧ G 0 9 < 5 by omega) (fun M9 R10 f11 => ?_)
    refine m_iinc hC 0 dX10_addsGoblin_71 rfl (by decide) rfl ?_
    refine m_goto (tgt := 49) hC dX10_addsGoblin_74 (by decide) ?_
    refine m_lvs [0, 1, 2, 3] (lv2 := [(3, VI 1), (2, VI (26 + 5 * G 0 9)), (1, VI x), (0, .ref a)]) rfl ?_
    refine m_iload_n hC 0 dX10_addsGoblin_49 rfl rfl ?_
    refine m_iconst hC dX10_addsGoblin_50 ?_
    refine m_icmp_ge (tgt := 77) hC dX10_addsGoblin_51 (by decide) (by first | omega | (simp [hs_at] <;> omega)) (fun c12 => by omega) (fun c12 => ?_)
    refine m_aload_n hC 3 dX10_addsGoblin_54 rfl rfl ?_
    refine m_getf hC dX10_addsGoblin_55 kf_X10_9 R10.ob rfl ?_
    refine m_iload_n hC 1 dX10_addsGoblin_58 rfl rfl ?_
    refine m_iload_n hC 0 dX10_addsGoblin_59 rfl rfl ?_
    refine m_iadd hC dX10_addsGoblin_60 ?_
    refine m_iload_n hC 0 dX10_addsGoblin_61 rfl rfl ?_
    refine m_if_ne (tgt := 69) hC dX10_addsGoblin_62 (by decide) (by first | omega | (simp [hs_at] <;> omega)) (fun c13 => ?_) (fun c13 => by omega)
    refine m_iconst hC dX10_addsGoblin_69 ?_
    refine m_aw hC 5 (G 0 9) R10 ha dX10_addsGoblin_70 rfl (by decide) (show 0 ≤ G 0 9 ∧ G 0 9 < 5 by omega) (fun M14 R15 f16 => ?_)
    refine m_iinc hC 0 dX10_addsGoblin_71 rfl (by decide) rfl ?_
    refine m_goto (tgt := 49) hC dX10_addsGoblin_74 (by decide) ?_
    refine m_lvs [0, 1, 2, 3] (lv2 := [(3, VI 2), (2, VI (26 + 5 * G 0 9)), (1, VI x), (0, .ref a)]) rfl ?_
    refine m_iload_n hC 0 dX10_addsGoblin_49 rfl rfl ?_
    refine m_iconst hC dX10_addsGoblin_50 ?_
    refine m_icmp_ge (tgt := 77) hC dX10_addsGoblin_51 (by decide) (by first | omega | (simp [hs_at] <;> omega)) (fun c17 => by omega) (fun c17 => ?_)
    refine m_aload_n hC 3 dX10_addsGoblin_54 rfl rfl ?_
    refine m_getf hC dX10_addsGoblin_55 kf_X10_9 R15.ob rfl ?_
    refine m_iload_n hC 1 dX10_addsGoblin_58 rfl rfl ?_
    refine m_iload_n hC 0 dX10_addsGoblin_59 rfl rfl ?_
    refine m_iadd hC dX10_addsGoblin_60 ?_
    refine m_iload_n hC 0 dX10_addsGoblin_61 rfl rfl ?_
    refine m_if_ne (tgt := 69) hC dX10_addsGoblin_62 (by decide) (by first | omega | (simp [hs_at] <;> omega)) (fun c18 => ?_) (fun c18 => by omega)
    refine m_iconst hC dX10_addsGoblin_69 ?_
    refine m_aw hC 6 (G 0 9) R15 ha dX10_addsGoblin_70 rfl (by decide) (show 0 ≤ G 0 9 ∧ G 0 9 < 5 by omega) (fun M19 R20 f21 => ?_)
    refine m_iinc hC 0 dX10_addsGoblin_71 rfl (by decide) rfl ?_
    refine m_goto (tgt := 49) hC dX10_addsGoblin_74 (by decide) ?_
    refine m_lvs [0, 1, 2, 3] (lv2 := [(3, VI 3), (2, VI (26 + 5 * G 0 9)), (1, VI x), (0, .ref a)]) rfl ?_
    refine m_iload_n hC 0 dX10_addsGoblin_49 rfl rfl ?_
    refine m_iconst hC dX10_addsGoblin_50 ?_
    refine m_icmp_ge (tgt := 77) hC dX10_addsGoblin_51 (by decide) (by first | omega | (simp [hs_at] <;> omega)) (fun c22 => by omega) (fun c22 => ?_)
    refine m_aload_n hC 3 dX10_addsGoblin_54 rfl rfl ?_
    refine m_getf hC dX10_addsGoblin_55 kf_X10_9 R20.ob rfl ?_
    refine m_iload_n hC 1 dX10_addsGoblin_58 rfl rfl ?_
    refine m_iload_n hC 0 dX10_addsGoblin_59 rfl rfl ?_
    refine m_iadd hC dX10_addsGoblin_60 ?_
    refine m_iload_n hC 0 dX10_addsGoblin_61 rfl rfl ?_
    refine m_if_ne (tgt := 69) hC dX10_addsGoblin_62 (by decide) (by first | omega | (simp [hs_at] <;> omega)) (fun c23 => ?_) (fun c23 => by omega)
    refine m_iconst hC dX10_addsGoblin_69 ?_
    refine m_aw hC 7 (G 0 9) R20 ha dX10_addsGoblin_70 rfl (by decide) (show 0 ≤ G 0 9 ∧ G 0 9 < 5 by omega) (fun M24 R25 f26 => ?_)
    refine m_iinc hC 0 dX10_addsGoblin_71 rfl (by decide) rfl ?_
    refine m_goto (tgt := 49) hC dX10_addsGoblin_74 (by decide) ?_
    refine m_lvs [0, 1, 2, 3] (lv2 := [(3, VI 4), (2, VI (26 + 5 * G 0 9)), (1, VI x), (0, .ref a)]) rfl ?_
    refine m_iload_n hC 0 dX10_addsGoblin_49 rfl rfl ?_
    refine m_iconst hC dX10_addsGoblin_50 ?_
    refine m_icmp_ge (tgt := 77) hC dX10_addsGoblin_51 (by decide) (by first | omega | (simp [hs_at] <;> omega)) (fun c27 => by omega) (fun c27 => ?_)
    refine m_aload_n hC 3 dX10_addsGoblin_54 rfl rfl ?_
    refine m_getf hC dX10_addsGoblin_55 kf_X10_9 R25.ob rfl ?_
    refine m_iload_n hC 1 dX10_addsGoblin_58 rfl rfl ?_
    refine m_iload_n hC 0 dX10_addsGoblin_59 rfl rfl ?_
    refine m_iadd hC dX10_addsGoblin_60 ?_
    refine m_iload_n hC 0 dX10_addsGoblin_61 rfl rfl ?_
    refine m_if_ne (tgt := 69) hC dX10_addsGoblin_62 (by decide) (by first | omega | (simp [hs_at] <;> omega)) (fun c28 => ?_) (fun c28 => by omega)
    refine m_iconst hC dX10_addsGoblin_69 ?_
    refine m_aw hC 8 (G 0 9) R25 ha dX10_addsGoblin_70 rfl (by decide) (show 0 ≤ G 0 9 ∧ G 0 9 < 5 by omega) (fun M29 R30 f31 => ?_)
    refine m_iinc hC 0 dX10_addsGoblin_71 rfl (by decide) rfl ?_
    refine m_goto (tgt := 49) hC dX10_addsGoblin_74 (by decide) ?_
    refine m_lvs [0, 1, 2, 3] (lv2 := [(3, VI 5), (2, VI (26 + 5 * G 0 9)), (1, VI x), (0, .ref a)]) rfl ?_
    refine m_iload_n hC 0 dX10_addsGoblin_49 rfl rfl ?_
    refine m_iconst hC dX10_addsGoblin_50 ?_
    refine m_icmp_ge (tgt := 77) hC dX10_addsGoblin_51 (by decide) (by first | omega | (simp [hs_at] <;> omega)) (fun c32 => ?_) (fun c32 => by omega)
    refine m_aload_n hC 3 dX10_addsGoblin_77 rfl rfl ?_
    refine m_getf hC dX10_addsGoblin_78 kf_X10_9 R30.ob rfl ?_
    refine m_bipush hC dX10_addsGoblin_81 (by decide) ?_
    refine m_dup2 hC dX10_addsGoblin_83 rfl rfl ?_
    refine m_ar hC 0 (9) R30 dX10_addsGoblin_84 rfl (by decide) (show 0 ≤ (9 : Int) ∧ (9 : Int) < 12 by omega) ?_
    refine m_iconst hC dX10_addsGoblin_85 ?_
    refine m_iadd hC dX10_addsGoblin_86 ?_
    refine m_aw hC 0 (9) R30 ha dX10_addsGoblin_87 rfl (by decide) (show 0 ≤ (9 : Int) ∧ (9 : Int) < 12 by omega) (fun M33 R34 f35 => ?_)
    refine m_aload_n hC 3 dX10_addsGoblin_88 rfl rfl ?_
    refine m_getf hC dX10_addsGoblin_89 kf_X10_9 R34.ob rfl ?_
    refine m_bipush hC dX10_addsGoblin_92 (by decide) ?_
    refine m_ar hC 0 (9) R34 dX10_addsGoblin_94 rfl (by decide) (show 0 ≤ (9 : Int) ∧ (9 : Int) < 12 by omega) ?_
    refine m_iconst hC dX10_addsGoblin_95 ?_
    refine m_isub hC dX10_addsGoblin_96 ?_
    rw [show ∀ q1 q2 q3 q4 q5 q6 : Int, hs (hs (hs (hs (hs (hs G 4 (G 0 9) q1) 5 (G 0 9) q2) 6 (G 0 9) q3) 7 (G 0 9) q4) 8 (G 0 9) q5) 0 9 (q6 + 1) 0 9 - 1 = q6 from fun q1 q2 q3 q4 q5 q6 => by rw [hs_s]; omega, show hs (hs (hs (hs (hs G 4 (G 0 9) x) 5 (G 0 9) 0) 6 (G 0 9) 0) 7 (G 0 9) 0) 8 (G 0 9) 0 0 9 = g 0 9 from e9]
    exact m_iret hC dX10_addsGoblin_97 hr (by decide) (by decide) ((m_opy (z := g 0 9) (g := S_gob g x) (by unfold S_addGoblin; rw [if_neg (by omega), if_neg (by omega)]) (by omega) (R34.V (by refine ⟨?_, ?_, ?_⟩ <;> (simp [hs_at]; omega)) (he.gob x)) (f4.tr (f11.tr (f16.tr (f21.tr (f26.tr (f31.tr f35))))))))
  · refine m_iconst hC dX10_addsGoblin_32 ?_
    exact m_iret hC dX10_addsGoblin_33 hr (by decide) (by decide) (m_opn (by unfold S_addGoblin; (repeat' split) <;> first | (refine ⟨(by dsimp only; omega), rfl, ?_⟩; simp only [m_th, b01_eq]; (repeat' split) <;> first | omega | (simp [o_th, o_ix])) | (exfalso; refine (b01_eq.mp ch) ?_; simp only [m_th, b01_eq]; (repeat' split) <;> first | omega | (simp [o_th, o_ix]))) R3 f4)

