set_option maxHeartbeats 4000000 in
set_option maxRecDepth 100000 in
theorem t_X7_work {D : va_G} {aC : Nat → ClassId} {s0 : State} {l : Launch} (hF : m_F D aC s0) (hl : l.stackTraces = false) {b : Nat} {g : h_T} {M : m_M} {K : Int} (hR : hhR b g M) (hB : h_BK K g) (hK : K ≤ 98000000) (hb : s0.heap.size ≤ b) {x : Int} (hx : 0 ≤ x ∧ x < g 0 9) : m_Met D aC s0 l yX7_work cX7_work 7 none 2 (0) (0) [.ref b, VI x] M (h_up b M (S_work x 8 g (S_energy g x))) m_nx := by
  refine m_entry (lv := [(0, .ref b), (1, VI x)]) (by decide +kernel) (Nat.le_of_ble_eq_true rfl) rfl hF hl ?_
  intro p e s m args below meth c hC hr hno hnm
  change m_C D aC s0 RX7 _ _ _ _ _ _ _ _ _ at hC
  have hB0 := hB.toB (by omega)
  have hn9 := hB.n9
  have hgo := hB.go hx
  have hiu := hB.inUse
  have hEn : 0 ≤ S_energy g x ∧ S_energy g x ≤ 1000 := by
    unfold S_energy
    have hp : 0 ≤ g 4 x * (S_inUse g + 1) := Int.mul_nonneg (by omega) (by omega)
    have hq : g 4 x * (S_inUse g + 1) ≤ 9 * 5 := Int.mul_le_mul (by omega) (by omega) (by omega) (by omega)
    omega
  refine m_aload_n hC 0 dX7_work_0 rfl rfl ?_
  refine m_iload_n hC 1 dX7_work_1 rfl rfl ?_
  refine m_callV hC (t_X7_energyOf hF hl hR hB0 hx) dX7_work_2 kc_X7_energyOf kV_X7_213 hR.ob rfl rfl rfl rfl (Nat.le_of_ble_eq_true rfl) (by decide) (by decide) m_nox (fun v9 M1 h9 => ?_)
  obtain ⟨rfl, h9⟩ := h9
  replace h9 := h9.symm
  subst h9
  refine m_istore_n hC dX7_work_5 rfl (by decide) rfl ?_
  refine m_iconst hC dX7_work_6 ?_
  refine m_istore_n hC dX7_work_7 rfl (by decide) rfl ?_
  have L : ∀ (n : Nat) (i e1 : Int) (g1 : h_T) (M1 : m_M), 8 - i < (n : Int) → 0 ≤ i → i ≤ 8 → 0 ≤ e1 ∧ e1 ≤ 1000 → hhR b g1 M1 → h_BK (K + 50 * i) g1 → g1 0 9 = g 0 9 → S_work x 8 g (S_energy g x) = S_work x (8 - i).toNat g1 e1 → m_fr b 17 M M1 → m_W D aC s0 7 p l e (m_R 2 (0) (0)) s m args below meth c (0) (0) (m_Q D aC s0 below (h_up b M (S_work x 8 g (S_energy g x))) m_nx args s (0) (0)) 8 [(3, VI i), (2, VI e1), (1, VI x), (0, .ref b)] [] M1 := by
    intro n
    induction n with
    | zero =>
      intro i e1 g1 M1 hn h0 h1 he0 hR1 hB1 hx1 hS hf1
      omega
    | succ n ih =>
      intro i e1 g1 M1 hn h0 h1 he0 hR1 hB1 hx1 hS hf1
      have hn9 := hB1.n9
      have hn11 := hB1.n11
      have hq4 := hB1.s 4 (by omega)
      refine m_iload_n hC 0 dX7_work_8 rfl rfl ?_
      refine m_bipush hC dX7_work_9 (by decide) ?_
      refine m_icmp_ge (tgt := 143) hC dX7_work_11 (by decide) (by first | omega | (simp [hs_at] <;> omega)) (fun c2 => ?_) (fun c2 => ?_)
      · exact m_vret hC dX7_work_143 hr (by decide) (by decide) (⟨rfl, by rw [hS, show (8 - i).toNat = 0 by omega, S_work]; exact hR1, hf1⟩)
      · refine m_aload_n hC 3 dX7_work_14 rfl rfl ?_
        refine m_getf hC dX7_work_15 kf_X7_32 hR1.ob rfl ?_
        refine m_iload_n hC 2 dX7_work_18 rfl rfl ?_
        refine m_callV hC (t_X3_firstOf hF hl hR1 (hB1.toB (by omega)) (x := x) (by omega)) dX7_work_19 kc_X3_firstOf kV_X7_216 hR1.co rfl rfl rfl rfl (Nat.le_of_ble_eq_true rfl) (by decide) (by decide) m_nox (fun v9 M3 h9 => ?_)
        obtain ⟨rfl, h9⟩ := h9
        replace h9 := h9.symm
        subst h9
        have rg := S_first_rg (g := g1) x hB1.n11.1
        generalize hp9 : S_first g1 x = p9 at *
        refine m_istore hC dX7_work_22 (by decide) rfl ?_
        refine m_iload hC 0 dX7_work_24 rfl ?_
        refine m_iconst hC dX7_work_26 ?_
        refine m_icmp_eq (tgt := 44) hC dX7_work_27 (by decide) (by first | omega | (simp [hs_at] <;> omega)) (fun c4 => ?_) (fun c4 => ?_)
        · exact m_vret hC dX7_work_44 hr (by decide) (by decide) (⟨rfl, by rw [hS, show (8 - i).toNat = (8 - i - 1).toNat + 1 by omega, S_work, if_pos (by rw [hp9]; omega)]; exact hR1, hf1⟩)
        · have hco := hB1.co (i := p9) (by omega)
          refine m_aload_n hC 4 dX7_work_30 rfl rfl ?_
          refine m_getf hC dX7_work_31 kf_X7_32 hR1.ob rfl ?_
          refine m_getf hC dX7_work_34 kf_X7_183 hR1.co rfl ?_
          refine m_iload hC 0 dX7_work_37 rfl ?_
          refine m_ld13 hC hR1 dX7_work_39 (by first | omega | (simp [hs_at] <;> omega)) (by first | omega | (simp [hs_at] <;> omega)) ?_
          refine m_iload_n hC 2 dX7_work_40 rfl rfl ?_
          refine m_icmp_le (tgt := 45) hC dX7_work_41 (by decide) (by first | omega | (simp [hs_at] <;> omega)) (fun c5 => ?_) (fun c5 => ?_)
          · have hdu := hB1.du (i := g1 11 p9) (by omega)
            refine m_iload_n hC 2 dX7_work_45 rfl rfl ?_
            refine m_aload_n hC 4 dX7_work_46 rfl rfl ?_
            refine m_getf hC dX7_work_47 kf_X7_32 hR1.ob rfl ?_
            refine m_getf hC dX7_work_50 kf_X7_183 hR1.co rfl ?_
            refine m_iload hC 0 dX7_work_53 rfl ?_
            refine m_ld13 hC hR1 dX7_work_55 (by first | omega | (simp [hs_at] <;> omega)) (by first | omega | (simp [hs_at] <;> omega)) ?_
            refine m_isub hC dX7_work_56 ?_
            refine m_istore_n hC dX7_work_57 rfl (by decide) rfl ?_
            refine m_aload_n hC 4 dX7_work_58 rfl rfl ?_
            refine m_getf hC dX7_work_59 kf_X7_32 hR1.ob rfl ?_
            refine m_getf hC dX7_work_62 kf_X7_177 hR1.co rfl ?_
            refine m_iload hC 1 dX7_work_65 rfl ?_
            refine m_ld11 hC hR1 dX7_work_67 (by first | omega | (simp [hs_at] <;> omega)) (by first | omega | (simp [hs_at] <;> omega)) ?_
            refine m_istore hC dX7_work_68 (by decide) rfl ?_
            refine m_bipush hC dX7_work_70 (by decide) ?_
            refine m_aload_n hC 5 dX7_work_72 rfl rfl ?_
            refine m_getf hC dX7_work_73 kf_X7_18 hR1.ob rfl ?_
            refine m_callV hC (t_X1_greatestPowerInUse hF hl hR1 (hB1.toB (by omega))) dX7_work_76 kc_X1_greatestPowerInUse kV_X7_219 hR1.br rfl rfl rfl rfl (Nat.le_of_ble_eq_true rfl) (by decide) (by decide) m_nox (fun v9 M6 h9 => ?_)
            obtain ⟨rfl, h9⟩ := h9
            replace h9 := h9.symm
            subst h9
            have hgr := hB1.great
            refine m_iadd hC dX7_work_79 ?_
            refine m_istore hC dX7_work_80 (by decide) rfl ?_
            refine m_aload_n hC 6 dX7_work_82 rfl rfl ?_
            refine m_getf hC dX7_work_83 kf_X7_9 hR1.ob rfl ?_
            refine m_iload hC 1 dX7_work_86 rfl ?_
            refine m_aload_n hC 6 dX7_work_88 rfl rfl ?_
            refine m_getf hC dX7_work_89 kf_X7_9 hR1.ob rfl ?_
            refine m_iload hC 1 dX7_work_92 rfl ?_
            refine m_ld1 hC hR1 dX7_work_94 (by first | omega | (simp [hs_at] <;> omega)) (by first | omega | (simp [hs_at] <;> omega)) ?_
            refine m_iload hC 0 dX7_work_95 rfl ?_
            refine m_isub hC dX7_work_97 ?_
            refine m_iconst hC dX7_work_98 ?_
            refine m_mmax hC dX7_work_99 kM_X7_222 (by first | omega | (simp [hs_at] <;> omega)) (by decide) (Nat.le_of_ble_eq_true rfl) (by decide) (by decide) ?_
            refine m_st1 hC hR1 hb dX7_work_102 (by first | omega | (simp [hs_at] <;> omega)) (fun M7 R8 f9 => ?_)
            refine m_aload_n hC 6 dX7_work_103 rfl rfl ?_
            refine m_iload_n hC 5 dX7_work_104 rfl rfl ?_
            refine m_aload_n hC 6 dX7_work_105 rfl rfl ?_
            refine m_getf hC dX7_work_106 kf_X7_32 R8.ob rfl ?_
            refine m_getf hC dX7_work_109 kf_X7_180 R8.co rfl ?_
            refine m_iload hC 3 dX7_work_112 rfl ?_
            refine m_ld12 hC R8 dX7_work_114 (by first | omega | (simp [hs_at] <;> omega)) (by first | omega | (simp [hs_at] <;> omega)) ?_
            refine m_callV hC (t_X7_pay hF hl R8 (hB1.sweep (p := p9) (by omega) hB1.great.1) (by omega) hb (x := x) (w := g1 12 p9) (by show 0 ≤ x ∧ x < g1 0 9; omega) (by omega)) dX7_work_115 kc_X7_pay kV_X7_225 R8.ob rfl rfl rfl rfl (Nat.le_of_ble_eq_true rfl) (by decide) (by decide) m_nox (fun v9 M10 h9 => ?_)
            obtain ⟨rfl, R11, f12⟩ := h9
            refine m_aload_n hC 6 dX7_work_118 rfl rfl ?_
            refine m_getf hC dX7_work_119 kf_X7_32 R11.ob rfl ?_
            refine m_iload hC 3 dX7_work_122 rfl ?_
            refine m_callV hC (t_X3_removeAt hF hl R11 hb (by rw [S_pay_n (by omega)]; show g1 0 11 ≤ 8; omega) (x := p9) (by rw [S_pay_n (by omega)]; show 0 ≤ p9 ∧ p9 < g1 0 11; omega)) dX7_work_124 kc_X3_removeAt kV_X7_194 R11.co rfl rfl rfl rfl (Nat.le_of_ble_eq_true rfl) (by decide) (by decide) m_nox (fun v9 M13 h9 => ?_)
            obtain ⟨rfl, R14, f15⟩ := h9
            refine m_aload_n hC 6 dX7_work_127 rfl rfl ?_
            refine m_dup hC dX7_work_128 rfl ?_
            refine m_getf hC dX7_work_129 kf_X7_49 R14.ob rfl ?_
            refine m_iconst hC dX7_work_132 ?_
            refine m_iadd hC dX7_work_133 ?_
            refine m_ss4 hC R14 hb dX7_work_134 kf_X7_49 (fun M16 R17 f18 => ?_)
            refine m_iinc hC 4 dX7_work_137 rfl (by decide) rfl ?_
            refine m_goto (tgt := 8) hC dX7_work_140 (by decide) ?_
            refine m_lvs [0, 3, 5, 6] rfl (ih (i + 1) _ _ M16 (by omega) (by omega) (by omega) (by omega) R17 ((hB1.do_ (x := x) (p := p9) (by omega) (by omega)).mono (by omega)) (by show S_do g1 x p9 0 9 = _; rw [S_do_n (by omega)]; exact hx1) (by rw [hS, show (8 - i).toNat = (8 - (i + 1)).toNat + 1 by omega, S_work, if_neg (by rw [hp9]; omega), hp9]; rfl) (hf1.tr (f9.tr (f12.tr (f15.tr f18)))))
          · exact m_vret hC dX7_work_44 hr (by decide) (by decide) (⟨rfl, by rw [hS, show (8 - i).toNat = (8 - i - 1).toNat + 1 by omega, S_work, if_pos (by rw [hp9]; omega)]; exact hR1, hf1⟩)
  refine m_lvs [0, 1, 3, 2] rfl (L 9 0 _ g M (by omega) (by omega) (by omega) hEn hR (hB.mono (by omega)) rfl rfl m_fr.rf)

