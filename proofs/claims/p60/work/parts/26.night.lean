set_option maxHeartbeats 4000000 in
set_option maxRecDepth 100000 in
theorem t_X7_passOneNight {D : va_G} {aC : Nat → ClassId} {s0 : State} {l : Launch} (hF : m_F D aC s0) (hl : l.stackTraces = false) {b : Nat} {g : h_T} {M : m_M} {K : Int} (hR : hhR b g M) (hB : h_BK K g) (hK : K ≤ 90000000) (hb : s0.heap.size ≤ b) : m_Met D aC s0 l yX7_passOneNight cX7_passOneNight 2 none 3 (0) (0) [.ref b] M (h_up b M (S_night g)) m_nx := by
  refine m_entry (lv := [(0, .ref b)]) (by decide +kernel) (Nat.le_of_ble_eq_true rfl) rfl hF hl ?_
  intro p e s m args below meth c hC hr hno hnm
  change m_C D aC s0 RX7 _ _ _ _ _ _ _ _ _ at hC
  have hn9 := hB.n9
  have h0 := hB.s 0 (by omega)
  have hN1 := hB.n1
  have hN2 := hB.n2
  have hN3 := hB.n3
  refine m_aload_n hC 0 dX7_passOneNight_0 rfl rfl ?_
  refine m_dup hC dX7_passOneNight_1 rfl ?_
  refine m_getf hC dX7_passOneNight_2 kf_X7_36 hR.ob rfl ?_
  refine m_iconst hC dX7_passOneNight_5 ?_
  refine m_iadd hC dX7_passOneNight_6 ?_
  refine m_ss0 hC hR hb dX7_passOneNight_7 kf_X7_36 (fun M1 R2 f3 => ?_)
  refine m_iconst hC dX7_passOneNight_10 ?_
  refine m_istore_n hC dX7_passOneNight_11 rfl (by decide) rfl ?_
  have L1 : ∀ (n1 : Nat) (i : Int) (M1 : m_M), 6 - i < (n1 : Int) → 0 ≤ i → i ≤ 6 → hhR b (S_dust (hs g 0 0 (g 0 0 + 1)) i.toNat) M1 → m_fr b 17 M M1 → m_W D aC s0 2 p l e (m_R 3 (0) (0)) s m args below meth c (0) (0) (m_Q D aC s0 below (h_up b M (S_night g)) m_nx args s (0) (0)) 12 [(1, VI i), (0, .ref b)] [] M1 := by
    intro n1
    induction n1 with
    | zero =>
      intro i M1 hn h0 h1 hR1 hf1
      omega
    | succ n1 ih1 =>
      intro i M1 hn h0 h1 hR1 hf1
      have hBd := (((hB.mono (show K ≤ K + 1 by omega)).st0 (i := 0) (v := g 0 0 + 1) (by omega) (by omega)).dust i.toNat (by omega))
      refine m_iload_n hC 0 dX7_passOneNight_12 rfl rfl ?_
      refine m_bipush hC dX7_passOneNight_13 (by decide) ?_
      refine m_icmp_ge (tgt := 43) hC dX7_passOneNight_15 (by decide) (by first | omega | (simp [hs_at] <;> omega)) (fun c4 => ?_) (fun c4 => ?_)
      · refine m_iconst hC dX7_passOneNight_43 ?_
        refine m_istore_n hC dX7_passOneNight_44 rfl (by decide) rfl ?_
        have hRd : hhR b (S_n1 g) M1 := by unfold S_n1; rw [show 6 = i.toNat by omega]; exact hR1
        have L2 : ∀ (n2 : Nat) (i : Int) (M1 : m_M), g 0 9 - i < (n2 : Int) → 0 ≤ i → i ≤ g 0 9 → hhR b (S_turns (S_n1 g) i.toNat) M1 → m_fr b 17 M M1 → m_W D aC s0 2 p l e (m_R 3 (0) (0)) s m args below meth c (0) (0) (m_Q D aC s0 below (h_up b M (S_night g)) m_nx args s (0) (0)) 45 [(1, VI i), (0, .ref b)] [] M1 := by
          intro n2
          induction n2 with
          | zero =>
            intro i M1 hn h0 h1 hR1 hf1
            omega
          | succ n2 ih2 =>
            intro i M1 hn h0 h1 hR1 hf1
            have hBt := hN1.1.turns i.toNat (by omega)
            have hB1 := hBt.1.mono (show K + 1 + 401 * (i.toNat : Int) ≤ K + 2406 by omega)
            have e9 := hBt.2.1
            have hn9 := hB1.n9
            refine m_iload_n hC 0 dX7_passOneNight_45 rfl rfl ?_
            refine m_aload_n hC 1 dX7_passOneNight_46 rfl rfl ?_
            refine m_getf hC dX7_passOneNight_47 kf_X7_25 hR1.ob rfl ?_
            refine m_getf hC dX7_passOneNight_50 kf_X7_130 hR1.go rfl ?_
            refine m_icmp_ge (tgt := 105) hC dX7_passOneNight_53 (by decide) (by first | omega | (simp [hs_at] <;> omega)) (fun c5 => ?_) (fun c5 => ?_)
            · have hR2 : hhR b (S_n2 g) M1 := by unfold S_n2; rw [show (S_n1 g 0 9).toNat = i.toNat by omega]; exact hR1
              refine m_aload_n hC 1 dX7_passOneNight_105 rfl rfl ?_
              refine m_callV hC (t_X7_breakContracts hF hl (g := S_n2 g) hR2 hN2.1 (by omega) hb) dX7_passOneNight_106 kc_X7_breakContracts kV_X7_207 hR2.ob rfl rfl rfl rfl (Nat.le_of_ble_eq_true rfl) (by decide) (by decide) m_nox (fun v9 M6 h9 => ?_)
              obtain ⟨rfl, R7, f8⟩ := h9
              have hs0 : 0 ≤ S_brk (S_n2 g 0 11).toNat (S_n2 g) 0 0 ∧ S_brk (S_n2 g 0 11).toNat (S_n2 g) 0 0 ≤ K + 3008 := hN3.1.s 0 (by omega)
              refine m_aload_n hC 1 dX7_passOneNight_109 rfl rfl ?_
              refine m_getf hC dX7_passOneNight_110 kf_X7_36 R7.ob rfl ?_
              refine m_bipush hC dX7_passOneNight_113 (by decide) ?_
              refine m_irem hC dX7_passOneNight_115 (by first | omega | (simp [hs_at] <;> omega)) ?_
              refine m_if_ne (tgt := 123) hC dX7_passOneNight_116 (by decide) (by first | omega | (simp [hs_at] <;> omega)) (fun c7 => ?_) (fun c7 => ?_)
              · exact m_vret hC dX7_passOneNight_123 hr (by decide) (by decide) (⟨rfl, by unfold S_night; rw [if_neg (by unfold S_n3; omega)]; exact R7, (hf1.tr f8)⟩)
              · refine m_aload_n hC 1 dX7_passOneNight_119 rfl rfl ?_
                refine m_callV hC (t_X7_growDebts hF hl (g := S_n3 g) R7 hN3.1 (by omega) hb) dX7_passOneNight_120 kc_X7_growDebts kV_X7_210 R7.ob rfl rfl rfl rfl (Nat.le_of_ble_eq_true rfl) (by decide) (by decide) m_nox (fun v9 M9 h9 => ?_)
                obtain ⟨rfl, R10, f11⟩ := h9
                exact m_vret hC dX7_passOneNight_123 hr (by decide) (by decide) (⟨rfl, by unfold S_night; rw [if_pos (by unfold S_n3; omega)]; exact R10, (hf1.tr (f8.tr f11))⟩)
            · have hgo := hB1.go (i := i) (by omega)
              refine m_aload_n hC 1 dX7_passOneNight_56 rfl rfl ?_
              refine m_getf hC dX7_passOneNight_57 kf_X7_25 hR1.ob rfl ?_
              refine m_getf hC dX7_passOneNight_60 kf_X7_145 hR1.go rfl ?_
              refine m_iload_n hC 0 dX7_passOneNight_63 rfl rfl ?_
              refine m_ld8 hC hR1 dX7_passOneNight_64 (by first | omega | (simp [hs_at] <;> omega)) (by first | omega | (simp [hs_at] <;> omega)) ?_
              refine m_if_eq (tgt := 84) hC dX7_passOneNight_65 (by decide) (by first | omega | (simp [hs_at] <;> omega)) (fun c12 => ?_) (fun c12 => ?_)
              · refine m_aload_n hC 1 dX7_passOneNight_84 rfl rfl ?_
                refine m_getf hC dX7_passOneNight_85 kf_X7_25 hR1.ob rfl ?_
                refine m_getf hC dX7_passOneNight_88 kf_X7_142 hR1.go rfl ?_
                refine m_iload_n hC 0 dX7_passOneNight_91 rfl rfl ?_
                refine m_iconst hC dX7_passOneNight_92 ?_
                refine m_st7 hC hR1 hb dX7_passOneNight_93 (by first | omega | (simp [hs_at] <;> omega)) (fun M13 R14 f15 => ?_)
                refine m_aload_n hC 1 dX7_passOneNight_94 rfl rfl ?_
                refine m_iload_n hC 0 dX7_passOneNight_95 rfl rfl ?_
                refine m_callV hC (t_X7_work hF hl R14 ((hB1.mono (show K + 2406 ≤ K + 2407 by omega)).st7 (by omega)) (by omega) hb (x := i) (by show 0 ≤ i ∧ i < (S_turns (S_n1 g) i.toNat) 0 9; omega)) dX7_passOneNight_96 kc_X7_work kV_X7_204 R14.ob rfl rfl rfl rfl (Nat.le_of_ble_eq_true rfl) (by decide) (by decide) m_nox (fun v9 M16 h9 => ?_)
                obtain ⟨rfl, R17, f18⟩ := h9
                refine m_iinc hC 0 dX7_passOneNight_99 rfl (by decide) rfl ?_
                refine m_goto (tgt := 45) hC dX7_passOneNight_102 (by decide) ?_
                refine m_lvs [0, 1] rfl (ih2 (i + 1) M16 (by omega) (by omega) (by omega) (by rw [show (i + 1).toNat = i.toNat + 1 by omega, S_turns, S_turn, show ((i.toNat : Nat) : Int) = i by omega, if_pos (by omega)]; exact R17) (hf1.tr (f15.tr f18)))
              · refine m_aload_n hC 1 dX7_passOneNight_68 rfl rfl ?_
                refine m_getf hC dX7_passOneNight_69 kf_X7_25 hR1.ob rfl ?_
                refine m_getf hC dX7_passOneNight_72 kf_X7_142 hR1.go rfl ?_
                refine m_iload_n hC 0 dX7_passOneNight_75 rfl rfl ?_
                refine m_dup2 hC dX7_passOneNight_76 rfl rfl ?_
                refine m_ld7 hC hR1 dX7_passOneNight_77 (by first | omega | (simp [hs_at] <;> omega)) (by first | omega | (simp [hs_at] <;> omega)) ?_
                refine m_iconst hC dX7_passOneNight_78 ?_
                refine m_iadd hC dX7_passOneNight_79 ?_
                refine m_st7 hC hR1 hb dX7_passOneNight_80 (by first | omega | (simp [hs_at] <;> omega)) (fun M19 R20 f21 => ?_)
                refine m_goto (tgt := 99) hC dX7_passOneNight_81 (by decide) ?_
                refine m_iinc hC 0 dX7_passOneNight_99 rfl (by decide) rfl ?_
                refine m_goto (tgt := 45) hC dX7_passOneNight_102 (by decide) ?_
                refine m_lvs [0, 1] rfl (ih2 (i + 1) M19 (by omega) (by omega) (by omega) (by rw [show (i + 1).toNat = i.toNat + 1 by omega, S_turns, S_turn, show ((i.toNat : Nat) : Int) = i by omega, if_neg (by omega)]; exact R20) (hf1.tr f21))
        refine m_lvs [0, 1] rfl (L2 ((g 0 9 - 0).toNat + 1) 0 _ (by omega) (by omega) (by omega) hRd hf1)
      · have hdu := hBd.du (i := i) (by omega)
        refine m_aload_n hC 1 dX7_passOneNight_18 rfl rfl ?_
        refine m_getf hC dX7_passOneNight_19 kf_X7_9 hR1.ob rfl ?_
        refine m_iload_n hC 0 dX7_passOneNight_22 rfl rfl ?_
        refine m_aload_n hC 1 dX7_passOneNight_23 rfl rfl ?_
        refine m_getf hC dX7_passOneNight_24 kf_X7_9 hR1.ob rfl ?_
        refine m_iload_n hC 0 dX7_passOneNight_27 rfl rfl ?_
        refine m_ld1 hC hR1 dX7_passOneNight_28 (by first | omega | (simp [hs_at] <;> omega)) (by first | omega | (simp [hs_at] <;> omega)) ?_
        refine m_iconst hC dX7_passOneNight_29 ?_
        refine m_iadd hC dX7_passOneNight_30 ?_
        refine m_bipush hC dX7_passOneNight_31 (by decide) ?_
        refine m_mmin hC dX7_passOneNight_33 kM_X7_189 (by first | omega | (simp [hs_at] <;> omega)) (by decide) (Nat.le_of_ble_eq_true rfl) (by decide) (by decide) ?_
        refine m_st1 hC hR1 hb dX7_passOneNight_36 (by first | omega | (simp [hs_at] <;> omega)) (fun M22 R23 f24 => ?_)
        refine m_iinc hC 0 dX7_passOneNight_37 rfl (by decide) rfl ?_
        refine m_goto (tgt := 12) hC dX7_passOneNight_40 (by decide) ?_
        refine m_lvs [0, 1] rfl (ih1 (i + 1) M22 (by omega) (by omega) (by omega) (by rw [show (i + 1).toNat = i.toNat + 1 by omega, S_dust, show ((i.toNat : Nat) : Int) = i by omega]; exact R23) (hf1.tr f24))
  refine m_lvs [0, 1] rfl (L1 7 0 _ (by omega) (by omega) (by omega) R2 f3)

