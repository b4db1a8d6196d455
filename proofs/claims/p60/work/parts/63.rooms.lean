theorem kd_L_201 : Cond.constantDouble RL 201 4618441417868443648 ∈ lwg := lwg_of (List.mem_append_right _ (List.mem_of_getElem? (i := 1195) (by decide +kernel))) rfl
set_option maxHeartbeats 4000000 in
set_option maxRecDepth 100000 in
theorem t_L_areRoomsRight {D : va_G} {aC : Nat → ClassId} {s0 : State} {l : Launch} (hF : m_F D aC s0) (hl : l.stackTraces = false) {fo ks vs : Nat → Nat} {fA sA dO dT : Nat} (hJ : m_J s0 fo ks vs fA sA dO dT) (hX : m_TH s0) (hN : m_NC s0) {x w : Nat} {W : gW} {M : m_M} {K : Int} (hG : gIn s0.heap.size fo x w W M) (hI : lI K W) (hK : K ≤ 70000000) : m_Met D aC s0 l yL_areRoomsRight cL_areRoomsRight 5 (some .boolean) 15 (2350) (4700) [.ref x] M (aQ s0.heap.size fo x w W 1 M) m_nx := by
  refine m_entry (lv := [(0, .ref x)]) (by decide +kernel) (Nat.le_of_ble_eq_true rfl) rfl hF hl ?_
  intro p e s m args below meth c hC hr hno hnm
  change m_C D aC s0 RL _ _ _ _ _ _ _ _ _ at hC
  have hB := hI.B (by omega)
  refine m_iconst hC dL_areRoomsRight_0 ?_
  refine m_istore_n hC dL_areRoomsRight_1 rfl (by decide) rfl ?_
  refine m_aload_n hC 1 dL_areRoomsRight_2 rfl rfl ?_
  refine m_iconst hC dL_areRoomsRight_3 ?_
  refine m_bipush hC dL_areRoomsRight_4 (by decide) ?_
  refine m_iconst hC dL_areRoomsRight_6 ?_
  refine m_callSW hC (a_dust hF hl hJ hX hN hG hI (by omega) ⟨by omega, by omega⟩ (G_if.f (by omega)) (z := (-20002 : Int)) (by decide +kernel)) dL_areRoomsRight_7 kw_L_ask kS_L_194 rfl rfl (Nat.le_of_ble_eq_true rfl) ⟨Nat.le_of_ble_eq_true rfl, Nat.le_of_ble_eq_true rfl⟩ ⟨Nat.le_of_ble_eq_true rfl, Nat.le_of_ble_eq_true rfl⟩ (fun v9 M1 h9 => ?_)
  obtain ⟨rfl, hG2, hf3⟩ := h9
  refine m_sipush hC dL_areRoomsRight_10 (by decide) ?_
  refine m_icmp_ne (tgt := 60) hC dL_areRoomsRight_13 (by decide) (by first | omega | (simp [hs_at] <;> omega)) (fun c4 => by omega) (fun c4 => ?_)
  refine m_aload_n hC 1 dL_areRoomsRight_16 rfl rfl ?_
  refine m_iconst hC dL_areRoomsRight_17 ?_
  refine m_iconst hC dL_areRoomsRight_18 ?_
  refine m_iconst hC dL_areRoomsRight_19 ?_
  refine m_callSW hC (a_dust hF hl hJ hX hN hG2 hI (by omega) ⟨by omega, by omega⟩ (G_if.f (by omega)) (z := (-20002 : Int)) (by decide +kernel)) dL_areRoomsRight_20 kw_L_ask kS_L_194 rfl rfl (Nat.le_of_ble_eq_true rfl) ⟨Nat.le_of_ble_eq_true rfl, Nat.le_of_ble_eq_true rfl⟩ ⟨Nat.le_of_ble_eq_true rfl, Nat.le_of_ble_eq_true rfl⟩ (fun v9 M5 h9 => ?_)
  obtain ⟨rfl, hG6, hf7⟩ := h9
  refine m_sipush hC dL_areRoomsRight_23 (by decide) ?_
  refine m_icmp_ne (tgt := 60) hC dL_areRoomsRight_26 (by decide) (by first | omega | (simp [hs_at] <;> omega)) (fun c8 => by omega) (fun c8 => ?_)
  refine m_aload_n hC 1 dL_areRoomsRight_29 rfl rfl ?_
  refine m_iconst hC dL_areRoomsRight_30 ?_
  refine m_bipush hC dL_areRoomsRight_31 (by decide) ?_
  refine m_iconst hC dL_areRoomsRight_33 ?_
  refine m_callSW hC (a_roomByDust hF hl hJ hX hN hG6 hI (by omega) ⟨by omega, by omega⟩ (G_if.f (by have := S_rbd_no (g := W.1) (r := 6) (by omega); omega)) (z := (-20004 : Int)) (by decide +kernel)) dL_areRoomsRight_34 kw_L_ask kS_L_194 rfl rfl (Nat.le_of_ble_eq_true rfl) ⟨Nat.le_of_ble_eq_true rfl, Nat.le_of_ble_eq_true rfl⟩ ⟨Nat.le_of_ble_eq_true rfl, Nat.le_of_ble_eq_true rfl⟩ (fun v9 M9 h9 => ?_)
  obtain ⟨rfl, hG10, hf11⟩ := h9
  refine m_sipush hC dL_areRoomsRight_37 (by decide) ?_
  refine m_icmp_ne (tgt := 60) hC dL_areRoomsRight_40 (by decide) (by first | omega | (simp [hs_at] <;> omega)) (fun c12 => by omega) (fun c12 => ?_)
  refine m_aload_n hC 1 dL_areRoomsRight_43 rfl rfl ?_
  refine m_iconst hC dL_areRoomsRight_44 ?_
  refine m_iconst hC dL_areRoomsRight_45 ?_
  refine m_iconst hC dL_areRoomsRight_46 ?_
  refine m_callSW hC (a_roomByDust hF hl hJ hX hN hG10 hI (by omega) ⟨by omega, by omega⟩ (G_if.f (by have := S_rbd_no (g := W.1) (r := -1) (by omega); omega)) (z := (-20004 : Int)) (by decide +kernel)) dL_areRoomsRight_47 kw_L_ask kS_L_194 rfl rfl (Nat.le_of_ble_eq_true rfl) ⟨Nat.le_of_ble_eq_true rfl, Nat.le_of_ble_eq_true rfl⟩ ⟨Nat.le_of_ble_eq_true rfl, Nat.le_of_ble_eq_true rfl⟩ (fun v9 M13 h9 => ?_)
  obtain ⟨rfl, hG14, hf15⟩ := h9
  refine m_sipush hC dL_areRoomsRight_50 (by decide) ?_
  refine m_icmp_ne (tgt := 60) hC dL_areRoomsRight_53 (by decide) (by first | omega | (simp [hs_at] <;> omega)) (fun c16 => by omega) (fun c16 => ?_)
  refine m_iconst hC dL_areRoomsRight_56 ?_
  refine m_goto (tgt := 61) hC dL_areRoomsRight_57 (by decide) ?_
  refine m_istore_n hC dL_areRoomsRight_61 rfl (by decide) rfl ?_
  refine m_iconst hC dL_areRoomsRight_62 ?_
  refine m_istore_n hC dL_areRoomsRight_63 rfl (by decide) rfl ?_
  refine m_wd (k := 1880) (n := 3760) (Nat.le_of_ble_eq_true rfl) (Nat.le_of_ble_eq_true rfl) ?_
  have L1 : ∀ (n : Nat) (i b9 : Int), 6 - i < (n : Int) → 0 ≤ i → i ≤ 6 → b9 = h_sum (fun j => W.1 1 j) i.toNat → m_W D aC s0 5 p l e (m_R 15 (2350) (4700)) s m args below meth c (1880) (3760) (m_Q D aC s0 below (aQ s0.heap.size fo x w W 1 M) m_nx args s (2350) (4700)) 64 [(3, VI i), (2, VI 1), (1, VI b9), (0, .ref x)] [] M13 := by
    intro n
    induction n with
    | zero =>
      intro i b9 hn h0 h1 hb9
      omega
    | succ n ih =>
      intro i b9 hn h0 h1 hb9
      refine m_iload_n hC 0 dL_areRoomsRight_64 rfl rfl ?_
      refine m_bipush hC dL_areRoomsRight_65 (by decide) ?_
      refine m_icmp_ge (tgt := 112) hC dL_areRoomsRight_67 (by decide) (by first | omega | (simp [hs_at] <;> omega)) (fun c17 => ?_) (fun c17 => ?_)
      · have e9 : i = 6 := by omega
        rw [e9] at hb9
        have hb9 : b9 = S_du W.1 := hb9
        subst hb9
        refine m_iconst hC dL_areRoomsRight_112 ?_
        refine m_istore_n hC dL_areRoomsRight_113 rfl (by decide) rfl ?_
        have L2 : ∀ (n : Nat) (i : Int), 5 - i < (n : Int) → 0 ≤ i → i ≤ 5 → m_W D aC s0 5 p l e (m_R 15 (2350) (4700)) s m args below meth c (1880) (3760) (m_Q D aC s0 below (aQ s0.heap.size fo x w W 1 M) m_nx args s (2350) (4700)) 114 [(3, VI i), (2, VI 1), (1, VI (S_du W.1)), (0, .ref x)] [] M13 := by
          intro n
          induction n with
          | zero =>
            intro i hn h0 h1
            omega
          | succ n ih =>
            intro i hn h0 h1
            refine m_iload_n hC 0 dL_areRoomsRight_114 rfl rfl ?_
            refine m_iconst hC dL_areRoomsRight_115 ?_
            refine m_icmp_ge (tgt := 183) hC dL_areRoomsRight_116 (by decide) (by first | omega | (simp [hs_at] <;> omega)) (fun c18 => ?_) (fun c18 => ?_)
            · refine m_iload_n hC 1 dL_areRoomsRight_183 rfl rfl ?_
              refine m_if_eq (tgt := 205) hC dL_areRoomsRight_184 (by decide) (by omega) (fun c19 => by omega) (fun c19 => ?_)
              refine m_aload_n hC 3 dL_areRoomsRight_187 rfl rfl ?_
              refine m_qV hC (vv := S_mean W.1) (t_X9_meanDust hF hl hX hG14.2.1 hG14.2.2.1 hB) dL_areRoomsRight_188 kc_X9_meanDust kV_L_197 hG14.2.1 rfl rfl rfl rfl (Nat.le_of_ble_eq_true rfl) ⟨Nat.le_of_ble_eq_true rfl, Nat.le_of_ble_eq_true rfl⟩ ⟨Nat.le_of_ble_eq_true rfl, Nat.le_of_ble_eq_true rfl⟩ ?_
              refine m_iload_n hC 2 dL_areRoomsRight_191 rfl rfl ?_
              refine m_i2d hC dL_areRoomsRight_192 ?_
              refine m_ldcd hC dL_areRoomsRight_193 kd_L_201 ?_
              refine m_ddiv hC dL_areRoomsRight_196 (f_mean_ok (S_du_bd hB)) ?_
              refine m_dcmp0 (x := FP.ddiv (FP.i2d (Int32.ofInt (S_du W.1))) 4618441417868443648) hC dL_areRoomsRight_197 (f_mean_ok (S_du_bd hB)) ?_
              refine m_if_ne (tgt := 205) hC dL_areRoomsRight_198 (by decide) (by first | omega | (simp [hs_at] <;> omega)) (fun c20 => by omega) (fun c20 => ?_)
              refine m_iconst hC dL_areRoomsRight_201 ?_
              refine m_goto (tgt := 206) hC dL_areRoomsRight_202 (by decide) ?_
              exact m_zret hC dL_areRoomsRight_206 hr (by rfl) (Nat.le_of_ble_eq_true rfl) (Nat.le_of_ble_eq_true rfl) (⟨rfl, hG14, (((hf3.tr hf7).tr hf11).tr hf15)⟩)
            · have hnx := S_rbd_nx (g := W.1) (r := i) (by omega)
              have hr1 := S_rbd_in (g := W.1) (r := i) (by omega)
              have hr2 := S_rbd_in (g := W.1) (r := i + 1) (by omega)
              have hd1 := hB.du hr1
              have hd2 := hB.du hr2
              refine m_aload_n hC 3 dL_areRoomsRight_119 rfl rfl ?_
              refine m_aload_n hC 3 dL_areRoomsRight_120 rfl rfl ?_
              refine m_iload_n hC 0 dL_areRoomsRight_121 rfl rfl ?_
              refine m_qV hC (Q_roomByDust hF hl hX hG14.2.1 hG14.2.2.1 hB (by omega)) dL_areRoomsRight_122 kc_X9_roomByDust kV_L_77 hG14.2.1 rfl rfl rfl rfl (Nat.le_of_ble_eq_true rfl) ⟨Nat.le_of_ble_eq_true rfl, Nat.le_of_ble_eq_true rfl⟩ ⟨Nat.le_of_ble_eq_true rfl, Nat.le_of_ble_eq_true rfl⟩ ?_
              refine m_qV hC (Q_dust hF hl hX hG14.2.1 hG14.2.2.1 hB (by omega)) dL_areRoomsRight_125 kc_X9_dust kV_L_74 hG14.2.1 rfl rfl rfl rfl (Nat.le_of_ble_eq_true rfl) ⟨Nat.le_of_ble_eq_true rfl, Nat.le_of_ble_eq_true rfl⟩ ⟨Nat.le_of_ble_eq_true rfl, Nat.le_of_ble_eq_true rfl⟩ ?_
              refine m_aload_n hC 3 dL_areRoomsRight_128 rfl rfl ?_
              refine m_aload_n hC 3 dL_areRoomsRight_129 rfl rfl ?_
              refine m_iload_n hC 0 dL_areRoomsRight_130 rfl rfl ?_
              refine m_iconst hC dL_areRoomsRight_131 ?_
              refine m_iadd hC dL_areRoomsRight_132 ?_
              refine m_qV hC (Q_roomByDust hF hl hX hG14.2.1 hG14.2.2.1 hB (by omega)) dL_areRoomsRight_133 kc_X9_roomByDust kV_L_77 hG14.2.1 rfl rfl rfl rfl (Nat.le_of_ble_eq_true rfl) ⟨Nat.le_of_ble_eq_true rfl, Nat.le_of_ble_eq_true rfl⟩ ⟨Nat.le_of_ble_eq_true rfl, Nat.le_of_ble_eq_true rfl⟩ ?_
              refine m_qV hC (Q_dust hF hl hX hG14.2.1 hG14.2.2.1 hB (by omega)) dL_areRoomsRight_136 kc_X9_dust kV_L_74 hG14.2.1 rfl rfl rfl rfl (Nat.le_of_ble_eq_true rfl) ⟨Nat.le_of_ble_eq_true rfl, Nat.le_of_ble_eq_true rfl⟩ ⟨Nat.le_of_ble_eq_true rfl, Nat.le_of_ble_eq_true rfl⟩ ?_
              refine m_isub hC dL_areRoomsRight_139 ?_
              refine m_istore hC dL_areRoomsRight_140 (by decide) rfl ?_
              refine m_iload_n hC 2 dL_areRoomsRight_142 rfl rfl ?_
              refine m_if_eq (tgt := 175) hC dL_areRoomsRight_143 (by decide) (by omega) (fun c21 => by omega) (fun c21 => ?_)
              refine m_iload hC 0 dL_areRoomsRight_146 rfl ?_
              refine m_if_gt (tgt := 171) hC dL_areRoomsRight_148 (by decide) (by first | omega | (simp [hs_at] <;> omega)) (fun c22 => ?_) (fun c22 => ?_)
              · refine m_iconst hC dL_areRoomsRight_171 ?_
                refine m_goto (tgt := 176) hC dL_areRoomsRight_172 (by decide) ?_
                refine m_istore_n hC dL_areRoomsRight_176 rfl (by decide) rfl ?_
                refine m_iinc hC 2 dL_areRoomsRight_177 rfl (by decide) rfl ?_
                refine m_goto (tgt := 114) hC dL_areRoomsRight_180 (by decide) ?_
                refine m_lvs [0, 1, 3, 4] rfl (ih (i + 1) (by omega) (by omega) (by omega))
              · refine m_iload hC 0 dL_areRoomsRight_151 rfl ?_
                refine m_if_ne (tgt := 175) hC dL_areRoomsRight_153 (by decide) (by first | omega | (simp [hs_at] <;> omega)) (fun c23 => by omega) (fun c23 => ?_)
                refine m_aload_n hC 4 dL_areRoomsRight_156 rfl rfl ?_
                refine m_iload_n hC 1 dL_areRoomsRight_157 rfl rfl ?_
                refine m_qV hC (Q_roomByDust hF hl hX hG14.2.1 hG14.2.2.1 hB (by omega)) dL_areRoomsRight_158 kc_X9_roomByDust kV_L_77 hG14.2.1 rfl rfl rfl rfl (Nat.le_of_ble_eq_true rfl) ⟨Nat.le_of_ble_eq_true rfl, Nat.le_of_ble_eq_true rfl⟩ ⟨Nat.le_of_ble_eq_true rfl, Nat.le_of_ble_eq_true rfl⟩ ?_
                refine m_aload_n hC 4 dL_areRoomsRight_161 rfl rfl ?_
                refine m_iload_n hC 1 dL_areRoomsRight_162 rfl rfl ?_
                refine m_iconst hC dL_areRoomsRight_163 ?_
                refine m_iadd hC dL_areRoomsRight_164 ?_
                refine m_qV hC (Q_roomByDust hF hl hX hG14.2.1 hG14.2.2.1 hB (by omega)) dL_areRoomsRight_165 kc_X9_roomByDust kV_L_77 hG14.2.1 rfl rfl rfl rfl (Nat.le_of_ble_eq_true rfl) ⟨Nat.le_of_ble_eq_true rfl, Nat.le_of_ble_eq_true rfl⟩ ⟨Nat.le_of_ble_eq_true rfl, Nat.le_of_ble_eq_true rfl⟩ ?_
                refine m_icmp_ge (tgt := 175) hC dL_areRoomsRight_168 (by decide) (by first | omega | (simp [hs_at] <;> omega)) (fun c24 => by omega) (fun c24 => ?_)
                refine m_iconst hC dL_areRoomsRight_171 ?_
                refine m_goto (tgt := 176) hC dL_areRoomsRight_172 (by decide) ?_
                refine m_istore_n hC dL_areRoomsRight_176 rfl (by decide) rfl ?_
                refine m_iinc hC 2 dL_areRoomsRight_177 rfl (by decide) rfl ?_
                refine m_goto (tgt := 114) hC dL_areRoomsRight_180 (by decide) ?_
                refine m_lvs [0, 1, 3, 4] rfl (ih (i + 1) (by omega) (by omega) (by omega))
        refine m_lvs [0, 1, 2, 3] rfl (L2 6 0 (by omega) (by omega) (by omega))
      · have hdu := hB.du (i := i) (by omega)
        refine m_iload_n hC 2 dL_areRoomsRight_70 rfl rfl ?_
        refine m_aload_n hC 3 dL_areRoomsRight_71 rfl rfl ?_
        refine m_iload_n hC 0 dL_areRoomsRight_72 rfl rfl ?_
        refine m_qV hC (Q_dust hF hl hX hG14.2.1 hG14.2.2.1 hB (by omega)) dL_areRoomsRight_73 kc_X9_dust kV_L_74 hG14.2.1 rfl rfl rfl rfl (Nat.le_of_ble_eq_true rfl) ⟨Nat.le_of_ble_eq_true rfl, Nat.le_of_ble_eq_true rfl⟩ ⟨Nat.le_of_ble_eq_true rfl, Nat.le_of_ble_eq_true rfl⟩ ?_
        refine m_iadd hC dL_areRoomsRight_76 ?_
        refine m_istore_n hC dL_areRoomsRight_77 rfl (by decide) rfl ?_
        refine m_iload_n hC 2 dL_areRoomsRight_78 rfl rfl ?_
        refine m_if_eq (tgt := 104) hC dL_areRoomsRight_79 (by decide) (by omega) (fun c25 => by omega) (fun c25 => ?_)
        refine m_aload_n hC 3 dL_areRoomsRight_82 rfl rfl ?_
        refine m_iload_n hC 1 dL_areRoomsRight_83 rfl rfl ?_
        refine m_qV hC (Q_dust hF hl hX hG14.2.1 hG14.2.2.1 hB (by omega)) dL_areRoomsRight_84 kc_X9_dust kV_L_74 hG14.2.1 rfl rfl rfl rfl (Nat.le_of_ble_eq_true rfl) ⟨Nat.le_of_ble_eq_true rfl, Nat.le_of_ble_eq_true rfl⟩ ⟨Nat.le_of_ble_eq_true rfl, Nat.le_of_ble_eq_true rfl⟩ ?_
        refine m_if_lt (tgt := 104) hC dL_areRoomsRight_87 (by decide) (by first | omega | (simp [hs_at] <;> omega)) (fun c26 => by omega) (fun c26 => ?_)
        refine m_aload_n hC 3 dL_areRoomsRight_90 rfl rfl ?_
        refine m_iload_n hC 1 dL_areRoomsRight_91 rfl rfl ?_
        refine m_qV hC (Q_dust hF hl hX hG14.2.1 hG14.2.2.1 hB (by omega)) dL_areRoomsRight_92 kc_X9_dust kV_L_74 hG14.2.1 rfl rfl rfl rfl (Nat.le_of_ble_eq_true rfl) ⟨Nat.le_of_ble_eq_true rfl, Nat.le_of_ble_eq_true rfl⟩ ⟨Nat.le_of_ble_eq_true rfl, Nat.le_of_ble_eq_true rfl⟩ ?_
        refine m_bipush hC dL_areRoomsRight_95 (by decide) ?_
        refine m_icmp_ge (tgt := 104) hC dL_areRoomsRight_97 (by decide) (by first | omega | (simp [hs_at] <;> omega)) (fun c27 => by omega) (fun c27 => ?_)
        refine m_iconst hC dL_areRoomsRight_100 ?_
        refine m_goto (tgt := 105) hC dL_areRoomsRight_101 (by decide) ?_
        refine m_istore_n hC dL_areRoomsRight_105 rfl (by decide) rfl ?_
        refine m_iinc hC 2 dL_areRoomsRight_106 rfl (by decide) rfl ?_
        refine m_goto (tgt := 64) hC dL_areRoomsRight_109 (by decide) ?_
        refine m_lvs [0, 1, 2, 3] rfl (ih (i + 1) _ (by omega) (by omega) (by omega) (by rw [h_sum_succ _ h0, hb9]))
  refine m_lvs [0, 1, 2, 3] rfl (L1 7 0 0 (by omega) (by omega) (by omega) rfl)

