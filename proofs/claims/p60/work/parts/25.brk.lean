set_option maxHeartbeats 4000000 in
set_option maxRecDepth 100000 in
theorem t_X7_breakContracts {D : va_G} {aC : Nat → ClassId} {s0 : State} {l : Launch} (hF : m_F D aC s0) (hl : l.stackTraces = false) {b : Nat} {g : h_T} {M : m_M} {K : Int} (hR : hhR b g M) (hB : h_BK K g) (hK : K ≤ 98000000) (hb : s0.heap.size ≤ b) : m_Met D aC s0 l yX7_breakContracts cX7_breakContracts 2 none 2 (0) (0) [.ref b] M (h_up b M (S_brk (g 0 11).toNat g)) m_nx := by
  refine m_entry (lv := [(0, .ref b)]) (by decide +kernel) (Nat.le_of_ble_eq_true rfl) rfl hF hl ?_
  intro p e s m args below meth c hC hr hno hnm
  change m_C D aC s0 RX7 _ _ _ _ _ _ _ _ _ at hC
  have h11 := hB.n11
  refine m_aload_n hC 0 dX7_breakContracts_0 rfl rfl ?_
  refine m_getf hC dX7_breakContracts_1 kf_X7_32 hR.ob rfl ?_
  refine m_getf hC dX7_breakContracts_4 kf_X7_164 hR.co rfl ?_
  refine m_iconst hC dX7_breakContracts_7 ?_
  refine m_isub hC dX7_breakContracts_8 ?_
  refine m_istore_n hC dX7_breakContracts_9 rfl (by decide) rfl ?_
  have L : ∀ (n : Nat) (i : Int) (g1 : h_T) (M1 : m_M) (K1 : Int), i + 1 < (n : Int) → -1 ≤ i → i < g1 0 11 → hhR b g1 M1 → h_BK K1 g1 → K1 + i ≤ K + 10 → S_brk (g 0 11).toNat g = S_brk (i + 1).toNat g1 → m_fr b 17 M M1 → m_W D aC s0 2 p l e (m_R 2 (0) (0)) s m args below meth c (0) (0) (m_Q D aC s0 below (h_up b M (S_brk (g 0 11).toNat g)) m_nx args s (0) (0)) 10 [(1, VI i), (0, .ref b)] [] M1 := by
    intro n
    induction n with
    | zero =>
      intro i g1 M1 K1 hn h0 h1 hR1 hB1 hK1 hS hf1
      omega
    | succ n ih =>
      intro i g1 M1 K1 hn h0 h1 hR1 hB1 hK1 hS hf1
      have hn9 := hB1.n9
      have hn11 := hB1.n11
      have hq5 := hB1.s 5 (by omega)
      refine m_iload_n hC 0 dX7_breakContracts_10 rfl rfl ?_
      refine m_if_lt (tgt := 59) hC dX7_breakContracts_11 (by decide) (by first | omega | (simp [hs_at] <;> omega)) (fun c1 => ?_) (fun c1 => ?_)
      · exact m_vret hC dX7_breakContracts_59 hr (by decide) (by decide) (⟨rfl, by rw [hS, show (i + 1).toNat = 0 by omega]; exact hR1, hf1⟩)
      · have hco := hB1.co (i := i) (by omega)
        have hgo := hB1.go (i := g1 10 i) (by omega)
        refine m_aload_n hC 1 dX7_breakContracts_14 rfl rfl ?_
        refine m_getf hC dX7_breakContracts_15 kf_X7_25 hR1.ob rfl ?_
        refine m_getf hC dX7_breakContracts_18 kf_X7_142 hR1.go rfl ?_
        refine m_aload_n hC 1 dX7_breakContracts_21 rfl rfl ?_
        refine m_getf hC dX7_breakContracts_22 kf_X7_32 hR1.ob rfl ?_
        refine m_getf hC dX7_breakContracts_25 kf_X7_175 hR1.co rfl ?_
        refine m_iload_n hC 0 dX7_breakContracts_28 rfl rfl ?_
        refine m_ld10 hC hR1 dX7_breakContracts_29 (by first | omega | (simp [hs_at] <;> omega)) (by first | omega | (simp [hs_at] <;> omega)) ?_
        refine m_ld7 hC hR1 dX7_breakContracts_30 (by first | omega | (simp [hs_at] <;> omega)) (by first | omega | (simp [hs_at] <;> omega)) ?_
        refine m_iconst hC dX7_breakContracts_31 ?_
        refine m_icmp_lt (tgt := 53) hC dX7_breakContracts_32 (by decide) (by first | omega | (simp [hs_at] <;> omega)) (fun cb => ?_) (fun cb => ?_)
        · refine m_iinc hC 0 dX7_breakContracts_53 rfl (by decide) rfl ?_
          refine m_goto (tgt := 10) hC dX7_breakContracts_56 (by decide) ?_
          refine m_lvs [0, 1] rfl (ih (i + -1) _ M1 (K1 + 1) (by omega) (by omega) (by omega) hR1 (hB1.mono (show K1 ≤ K1 + 1 by omega)) (by omega) (by rw [hS, show (i + 1).toNat = (i + -1 + 1).toNat + 1 by omega, S_brk, show (((i + -1 + 1).toNat : Nat) : Int) = i by omega, if_neg (by omega)]) hf1)
        · refine m_aload_n hC 1 dX7_breakContracts_35 rfl rfl ?_
          refine m_getf hC dX7_breakContracts_36 kf_X7_32 hR1.ob rfl ?_
          refine m_iload_n hC 0 dX7_breakContracts_39 rfl rfl ?_
          refine m_callV hC (t_X3_removeAt hF hl hR1 hb (by omega) (x := i) (by omega)) dX7_breakContracts_40 kc_X3_removeAt kV_X7_194 hR1.co rfl rfl rfl rfl (Nat.le_of_ble_eq_true rfl) (by decide) (by decide) m_nox (fun v9 M2 h9 => ?_)
          obtain ⟨rfl, R3, f4⟩ := h9
          refine m_aload_n hC 1 dX7_breakContracts_43 rfl rfl ?_
          refine m_dup hC dX7_breakContracts_44 rfl ?_
          refine m_getf hC dX7_breakContracts_45 kf_X7_52 R3.ob rfl ?_
          refine m_iconst hC dX7_breakContracts_48 ?_
          refine m_iadd hC dX7_breakContracts_49 ?_
          refine m_ss5 hC R3 hb dX7_breakContracts_50 kf_X7_52 (fun M5 R6 f7 => ?_)
          refine m_iinc hC 0 dX7_breakContracts_53 rfl (by decide) rfl ?_
          refine m_goto (tgt := 10) hC dX7_breakContracts_56 (by decide) ?_
          refine m_lvs [0, 1] rfl (ih (i + -1) _ M5 (K1 + 1) (by omega) (by omega) (by show i + -1 < hs (S_del g1 i) 0 5 _ 0 11; simp [hs_at, S_del]; omega) R6 (((hB1.mono (show K1 ≤ K1 + 1 by omega)).del (p := i) (by omega)).st0 (by omega) (by rw [S_del_n (by omega)]; omega)) (by omega) (by rw [hS, show (i + 1).toNat = (i + -1 + 1).toNat + 1 by omega, S_brk, show (((i + -1 + 1).toNat : Nat) : Int) = i by omega, if_pos (by omega)]; rfl) (hf1.tr (f4.tr f7)))
  refine m_lvs [0, 1] rfl (L ((g 0 11).toNat + 1) (g 0 11 - 1) g M K (by omega) (by omega) (by omega) hR hB (by omega) (by congr 2; omega) m_fr.rf)

set_option maxHeartbeats 4000000 in
set_option maxRecDepth 100000 in
theorem t_X7_growDebts {D : va_G} {aC : Nat → ClassId} {s0 : State} {l : Launch} (hF : m_F D aC s0) (hl : l.stackTraces = false) {b : Nat} {g : h_T} {M : m_M} {K : Int} (hR : hhR b g M) (hB : h_BK K g) (hK : K ≤ 98000000) (hb : s0.heap.size ≤ b) : m_Met D aC s0 l yX7_growDebts cX7_growDebts 4 none 1 (0) (0) [.ref b] M (h_up b M (S_grow g (g 0 9).toNat)) m_nx := by
  refine m_entry (lv := [(0, .ref b)]) (by decide +kernel) (Nat.le_of_ble_eq_true rfl) rfl hF hl ?_
  intro p e s m args below meth c hC hr hno hnm
  change m_C D aC s0 RX7 _ _ _ _ _ _ _ _ _ at hC
  have hn9 := hB.n9
  refine m_iconst hC dX7_growDebts_0 ?_
  refine m_istore_n hC dX7_growDebts_1 rfl (by decide) rfl ?_
  have L : ∀ (n : Nat) (i : Int) (M1 : m_M), g 0 9 - i < (n : Int) → 0 ≤ i → i ≤ g 0 9 → hhR b (S_grow g i.toNat) M1 → m_fr b 17 M M1 → m_W D aC s0 4 p l e (m_R 1 (0) (0)) s m args below meth c (0) (0) (m_Q D aC s0 below (h_up b M (S_grow g (g 0 9).toNat)) m_nx args s (0) (0)) 2 [(1, VI i), (0, .ref b)] [] M1 := by
    intro n
    induction n with
    | zero =>
      intro i M1 hn h0 h1 hR1 hf1
      omega
    | succ n ih =>
      intro i M1 hn h0 h1 hR1 hf1
      have hBi := hB.grow i.toNat (by omega)
      have hB1 := hBi.1
      have e9 := hBi.2.1
      have hn9 := hB1.n9
      have hq7 := hB1.s 7 (by omega)
      refine m_iload_n hC 0 dX7_growDebts_2 rfl rfl ?_
      refine m_aload_n hC 1 dX7_growDebts_3 rfl rfl ?_
      refine m_getf hC dX7_growDebts_4 kf_X7_25 hR1.ob rfl ?_
      refine m_getf hC dX7_growDebts_7 kf_X7_130 hR1.go rfl ?_
      refine m_icmp_ge (tgt := 70) hC dX7_growDebts_10 (by decide) (by first | omega | (simp [hs_at] <;> omega)) (fun c1 => ?_) (fun c1 => ?_)
      · exact m_vret hC dX7_growDebts_70 hr (by decide) (by decide) (⟨rfl, by rw [show (g 0 9).toNat = i.toNat by omega]; exact hR1, hf1⟩)
      · have hgo := hB1.go (i := i) (by omega)
        refine m_aload_n hC 1 dX7_growDebts_13 rfl rfl ?_
        refine m_getf hC dX7_growDebts_14 kf_X7_25 hR1.ob rfl ?_
        refine m_getf hC dX7_growDebts_17 kf_X7_139 hR1.go rfl ?_
        refine m_iload_n hC 0 dX7_growDebts_20 rfl rfl ?_
        refine m_ld6 hC hR1 dX7_growDebts_21 (by first | omega | (simp [hs_at] <;> omega)) (by first | omega | (simp [hs_at] <;> omega)) ?_
        refine m_istore_n hC dX7_growDebts_22 rfl (by decide) rfl ?_
        refine m_iload_n hC 0 dX7_growDebts_23 rfl rfl ?_
        refine m_if_le (tgt := 64) hC dX7_growDebts_24 (by decide) (by first | omega | (simp [hs_at] <;> omega)) (fun cg => ?_) (fun cg => ?_)
        · refine m_iinc hC 1 dX7_growDebts_64 rfl (by decide) rfl ?_
          refine m_goto (tgt := 2) hC dX7_growDebts_67 (by decide) ?_
          refine m_lvs [0, 2] rfl (ih (i + 1) M1 (by omega) (by omega) (by omega) (by rw [show (i + 1).toNat = i.toNat + 1 by omega, S_grow, S_grow1, show ((i.toNat : Nat) : Int) = i by omega, if_neg (by omega)]; exact hR1) hf1)
        · refine m_iload_n hC 0 dX7_growDebts_27 rfl rfl ?_
          refine m_iload_n hC 0 dX7_growDebts_28 rfl rfl ?_
          refine m_bipush hC dX7_growDebts_29 (by decide) ?_
          refine m_idiv hC dX7_growDebts_31 (by first | omega | (simp [hs_at] <;> omega)) ?_
          refine m_iadd hC dX7_growDebts_32 ?_
          refine m_iconst hC dX7_growDebts_33 ?_
          refine m_iadd hC dX7_growDebts_34 ?_
          refine m_sipush hC dX7_growDebts_35 (by decide) ?_
          refine m_mmin hC dX7_growDebts_38 kM_X7_189 (by first | omega | (simp [hs_at] <;> omega)) (by decide) (Nat.le_of_ble_eq_true rfl) (by decide) (by decide) ?_
          refine m_istore_n hC dX7_growDebts_41 rfl (by decide) rfl ?_
          refine m_aload_n hC 3 dX7_growDebts_42 rfl rfl ?_
          refine m_dup hC dX7_growDebts_43 rfl ?_
          refine m_getf hC dX7_growDebts_44 kf_X7_58 hR1.ob rfl ?_
          refine m_iload_n hC 0 dX7_growDebts_47 rfl rfl ?_
          refine m_iload_n hC 1 dX7_growDebts_48 rfl rfl ?_
          refine m_isub hC dX7_growDebts_49 ?_
          refine m_iadd hC dX7_growDebts_50 ?_
          refine m_ss7 hC hR1 hb dX7_growDebts_51 kf_X7_58 (fun M2 R3 f4 => ?_)
          refine m_aload_n hC 3 dX7_growDebts_54 rfl rfl ?_
          refine m_getf hC dX7_growDebts_55 kf_X7_25 R3.ob rfl ?_
          refine m_getf hC dX7_growDebts_58 kf_X7_139 R3.go rfl ?_
          refine m_iload_n hC 2 dX7_growDebts_61 rfl rfl ?_
          refine m_iload_n hC 0 dX7_growDebts_62 rfl rfl ?_
          refine m_st6 hC R3 hb dX7_growDebts_63 (by first | omega | (simp [hs_at] <;> omega)) (fun M5 R6 f7 => ?_)
          refine m_iinc hC 2 dX7_growDebts_64 rfl (by decide) rfl ?_
          refine m_goto (tgt := 2) hC dX7_growDebts_67 (by decide) ?_
          refine m_lvs [0, 3] rfl (ih (i + 1) M5 (by omega) (by omega) (by omega) (by rw [show (i + 1).toNat = i.toNat + 1 by omega, S_grow, S_grow1, show ((i.toNat : Nat) : Int) = i by omega, if_pos (by omega)]; exact R6) (hf1.tr (f4.tr f7)))
  refine m_lvs [0, 1] rfl (L ((g 0 9 - 0).toNat + 1) 0 M (by omega) (by omega) (by omega) hR m_fr.rf)

