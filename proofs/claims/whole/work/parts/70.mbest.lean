theorem hs_wc {w : h_T} {c : Nat} {F : Int → Int} {i v : Int} : hs (wc w c F) c i v = wc w c (m_ug F i v) := by
  funext c' j
  rw [hs_at]
  unfold wc m_ug
  by_cases q : c' = c
  · subst q
    simp
  · simp [q]
theorem X_bs1 {g : h_T} {x : Int} {k : Nat} {F : Int → Int} {E j : Int} (hF : ∀ e : Int, 0 ≤ e → e ≤ E → F e = if j < e then h_ks g x (k + 1) e else h_ks g x k e) (hx : g 10 (k : Int) = x) (hj : g 13 (k : Int) ≤ j) (h0 : 0 ≤ j ∧ j ≤ E) (h1 : 1 ≤ g 13 (k : Int)) : ∀ e : Int, 0 ≤ e → e ≤ E → m_ug F j (max (F j) (F (j - g 13 (k : Int)) + g 12 (k : Int))) e = if j + -1 < e then h_ks g x (k + 1) e else h_ks g x k e := by
  intro e e0 e1
  unfold m_ug
  by_cases q : e = j
  · subst q
    rw [if_pos rfl, if_pos (by omega), hF e e0 e1, if_neg (by omega), hF (e - g 13 (k : Int)) (by omega) (by omega), if_neg (by omega), h_ks, if_pos ⟨hx, hj⟩]
  · rw [if_neg q, hF e e0 e1]
    by_cases z : j < e
    · rw [if_pos z, if_pos (by omega)]
    · rw [if_neg z, if_neg (by omega)]
theorem X_bs2 {g : h_T} {x : Int} {k : Nat} {F : Int → Int} {E j : Int} (hF : ∀ e : Int, 0 ≤ e → e ≤ E → F e = if j < e then h_ks g x (k + 1) e else h_ks g x k e) (h : ¬ (g 10 (k : Int) = x ∧ g 13 (k : Int) ≤ j)) : ∀ e : Int, 0 ≤ e → e ≤ E → F e = h_ks g x (k + 1) e := by
  intro e e0 e1
  rw [hF e e0 e1]
  by_cases z : j < e
  · rw [if_pos z]
  · rw [if_neg z, h_ks, if_neg (fun q => h ⟨q.1, by omega⟩)]
theorem X_bs0 {F : Int → Int} {i : Int} (h : ∀ e : Int, 0 ≤ e → e < i → F e = 0) : ∀ e : Int, 0 ≤ e → e < i + 1 → m_ug F i 0 e = 0 := by
  intro e e0 e1
  unfold m_ug
  by_cases q : e = i
  · rw [if_pos q]
  · rw [if_neg q]
    exact h e e0 (by omega)
theorem X_bsend {a : Nat} {w w1 g : h_T} {x en : Int} {k : Nat} {F : Int → Int} {M M2 : m_M} (hw1 : w1 = hs w 0 14 0) (hv : 0 ≤ x ∧ x < g 0 9) (hee : en = S_energy g x) (hk : (k : Int) = g 0 11) (hz : F en = h_ks g x k en) (hV : mmV a (wc w1 6 F) g M2) (hf : m_fr a 10 M M2) : m_qx a w g (G_best g x) M (some (VI (wc w1 6 F 6 en))) M2 := by
  subst hw1
  refine m_qx.mk (c := 6) (t := 0) ?_ (Or.inr (Or.inr (Or.inl rfl))) hV hf
  rw [wc_s, hz]
  unfold G_best
  rw [show G_if (0 ≤ x ∧ x < g 0 9) (h_ks g x (g 0 11).toNat (S_energy g x)) = (0, h_ks g x (g 0 11).toNat (S_energy g x)) from if_pos hv, ← hee, show (g 0 11).toNat = k by omega]
set_option maxHeartbeats 4000000 in
set_option maxRecDepth 100000 in
theorem t_X10_bestOf {D : va_G} {aC : Nat → ClassId} {s0 : State} {l : Launch} (hF : m_F D aC s0) (hl : l.stackTraces = false) {a : Nat} {w g : h_T} {M : m_M} (hV : mmV a w g M) (ha : s0.heap.size ≤ a) (hB : h_B g) {x : Int} (hx : -2147483648 ≤ x ∧ x < 2147483648) : m_Met D aC s0 l yX10_bestOf cX10_bestOf 5 (some .int) 5 (0) (0) [.ref a, VI x] M (m_qx a w g (G_best g x) M) m_nx := by
  refine m_entry (lv := [(0, .ref a), (1, VI x)]) (by decide +kernel) (Nat.le_of_ble_eq_true rfl) rfl hF hl ?_
  intro p e s m args below meth c hC hr hno hnm
  change m_C D aC s0 RX10 _ _ _ _ _ _ _ _ _ at hC
  have hn9 := hB.n9
  have hn11 := hB.n11
  refine m_aload_n hC 0 dX10_bestOf_0 rfl rfl ?_
  refine m_aload_n hC 0 dX10_bestOf_1 rfl rfl ?_
  refine m_iload_n hC 1 dX10_bestOf_2 rfl rfl ?_
  refine m_callV hC (t_X10_isGoblin hF hl hV ha hB (x := x) hx) dX10_bestOf_3 kc_X10_isGoblin kV_X10_77 hV.ob rfl rfl rfl rfl (Nat.le_of_ble_eq_true rfl) (by decide) (by decide) m_nox (fun v9 M1 h9 => ?_)
  obtain ⟨rfl, h9⟩ := h9
  replace h9 := h9.symm
  subst h9
  refine m_callV hC (t_X10_goes hF hl hV ha hB (z := b01 (0 ≤ x ∧ x < g 0 9)) (by first | exact b01_r | omega)) dX10_bestOf_6 kc_X10_goes kV_X10_61 hV.ob rfl rfl rfl rfl (Nat.le_of_ble_eq_true rfl) (by decide) (by decide) m_nox (fun v9 M2 h9 => ?_)
  obtain ⟨rfl, R3, f4⟩ := h9
  refine m_if_ne (tgt := 14) hC dX10_bestOf_9 (by decide) b01_r (fun ch => ?_) (fun ch => ?_)
  · have hv := b01_ne.mp (b01_ne.mp ch)
    rw [if_neg (b01_ne.mp ch)] at R3
    have hen : 0 ≤ S_energy g x ∧ S_energy g x ≤ 45 := X_en hB hv
    obtain ⟨w1, hw1⟩ : ∃ z, z = hs w 0 14 0 := ⟨_, rfl⟩
    rw [← hw1] at R3
    have hfr0 : m_fr a 10 M M2 := f4
    have hbw : mmV a (wc w1 6 (w1 6)) g M2 := by rw [X_wcid]; exact R3
    obtain ⟨en, hee⟩ : ∃ z, z = S_energy g x := ⟨_, rfl⟩
    refine m_aload_n hC 0 dX10_bestOf_14 rfl rfl ?_
    refine m_iload_n hC 1 dX10_bestOf_15 rfl rfl ?_
    refine m_callV hC (t_X10_energyOf hF hl hbw ha hB (x := x) hv) dX10_bestOf_16 kc_X10_energyOf kV_X10_154 hbw.ob rfl rfl rfl rfl (Nat.le_of_ble_eq_true rfl) (by decide) (by decide) m_nox (fun v9 M5 h9 => ?_)
    obtain ⟨rfl, h9⟩ := h9
    replace h9 := h9.symm
    subst h9
    rw [← hee]
    rw [← hee] at hen
    refine m_istore_n hC dX10_bestOf_19 rfl (by decide) rfl ?_
    refine m_iconst hC dX10_bestOf_20 ?_
    refine m_istore_n hC dX10_bestOf_21 rfl (by decide) rfl ?_
    have LA : ∀ (n : Nat) (i : Int) (F : Int → Int) (M1 : m_M), en + 1 - i < (n : Int) → 0 ≤ i → i ≤ en + 1 → mmV a (wc w1 6 F) g M1 → m_fr a 10 M M1 → (∀ e : Int, 0 ≤ e → e < i → F e = 0) → m_W D aC s0 5 p l e (m_R 5 (0) (0)) s m args below meth c (0) (0) (m_Q D aC s0 below (m_qx a w g (G_best g x) M) m_nx args s (0) (0)) 22 [(3, VI i), (2, VI en), (1, VI x), (0, .ref a)] [] M1 := by
      intro n
      induction n with
      | zero =>
        intro i F M1 hn h0 h1 hA hfr hF0
        omega
      | succ n ih =>
        intro i F M1 hn h0 h1 hA hfr hF0
        refine m_iload_n hC 0 dX10_bestOf_22 rfl rfl ?_
        refine m_iload_n hC 1 dX10_bestOf_23 rfl rfl ?_
        refine m_icmp_gt (tgt := 40) hC dX10_bestOf_24 (by decide) (by first | omega | (simp [hs_at] <;> omega)) (fun c24 => ?_) (fun c24 => ?_)
        · refine m_iconst hC dX10_bestOf_40 ?_
          refine m_istore_n hC dX10_bestOf_41 rfl (by decide) rfl ?_
          have LB : ∀ (n2 : Nat) (k : Nat) (F2 : Int → Int) (M2 : m_M), g 0 11 - (k : Int) < (n2 : Int) → (k : Int) ≤ g 0 11 → mmV a (wc w1 6 F2) g M2 → m_fr a 10 M M2 → (∀ e : Int, 0 ≤ e → e ≤ en → F2 e = h_ks g x k e) → m_W D aC s0 5 p l e (m_R 5 (0) (0)) s m args below meth c (0) (0) (m_Q D aC s0 below (m_qx a w g (G_best g x) M) m_nx args s (0) (0)) 42 [(3, VI (k : Int)), (2, VI en), (1, VI x), (0, .ref a)] [] M2 := by
            intro n2
            induction n2 with
            | zero =>
              intro k F2 M2 hn2 h2 hBB hfr2 hF2
              omega
            | succ n2 ih2 =>
              intro k F2 M2 hn2 h2 hBB hfr2 hF2
              refine m_iload_n hC 0 dX10_bestOf_42 rfl rfl ?_
              refine m_aload_n hC 3 dX10_bestOf_43 rfl rfl ?_
              refine m_getf hC dX10_bestOf_44 kf_X10_9 hBB.ob rfl ?_
              refine m_bipush hC dX10_bestOf_47 (by decide) ?_
              refine m_n0 hC hBB dX10_bestOf_49 (by decide) ?_
              refine m_icmp_ge (tgt := 127) hC dX10_bestOf_50 (by decide) (by first | omega | (simp [hs_at] <;> omega)) (fun c50 => ?_) (fun c50 => ?_)
              · refine m_aload_n hC 3 dX10_bestOf_127 rfl rfl ?_
                refine m_getf hC dX10_bestOf_128 kf_X10_32 hBB.ob rfl ?_
                refine m_iload_n hC 1 dX10_bestOf_131 rfl rfl ?_
                refine m_iald hC dX10_bestOf_132 hBB.c6 (by decide) (by omega) ?_
                exact m_iret hC dX10_bestOf_133 hr (by decide) (by decide) (X_bsend hw1 hv hee (show (k : Int) = g 0 11 by omega) (hF2 en (by omega) (by omega)) hBB hfr2)
              · refine m_iload_n hC 1 dX10_bestOf_53 rfl rfl ?_
                refine m_istore hC dX10_bestOf_54 (by decide) rfl ?_
                have hco := hB.co (i := (k : Int)) (by omega)
                have LC : ∀ (n3 : Nat) (j : Int) (F3 : Int → Int) (M3 : m_M), j + 1 < (n3 : Int) → -1 ≤ j → j ≤ en → mmV a (wc w1 6 F3) g M3 → m_fr a 10 M M3 → (∀ e : Int, 0 ≤ e → e ≤ en → F3 e = if j < e then h_ks g x (k + 1) e else h_ks g x k e) → m_W D aC s0 5 p l e (m_R 5 (0) (0)) s m args below meth c (0) (0) (m_Q D aC s0 below (m_qx a w g (G_best g x) M) m_nx args s (0) (0)) 56 [(4, VI j), (3, VI (k : Int)), (2, VI en), (1, VI x), (0, .ref a)] [] M3 := by
                  intro n3
                  induction n3 with
                  | zero =>
                    intro j F3 M3 hn3 j0 j1 hCC hfr3 hF3
                    omega
                  | succ n3 ih3 =>
                    intro j F3 M3 hn3 j0 j1 hCC hfr3 hF3
                    refine m_iload hC 0 dX10_bestOf_56 rfl ?_
                    refine m_aload_n hC 4 dX10_bestOf_58 rfl rfl ?_
                    refine m_iload_n hC 1 dX10_bestOf_59 rfl rfl ?_
                    refine m_iconst hC dX10_bestOf_60 ?_
                    refine m_callV hC (t_X10_ofContract hF hl hCC ha hB (x := (k : Int)) (y := 4) 13 rfl (by decide) (by omega)) dX10_bestOf_61 kc_X10_ofContract kV_X10_84 hCC.ob rfl rfl rfl rfl (Nat.le_of_ble_eq_true rfl) (by decide) (by decide) m_nox (fun v9 M6 h9 => ?_)
                    obtain ⟨rfl, h9⟩ := h9
                    replace h9 := h9.symm
                    subst h9
                    refine m_icmp_lt (tgt := 121) hC dX10_bestOf_64 (by decide) (by first | omega | (simp [hs_at] <;> omega)) (fun c64 => ?_) (fun c64 => ?_)
                    · refine m_iinc hC 1 dX10_bestOf_121 rfl (by decide) rfl ?_
                      refine m_goto (tgt := 42) hC dX10_bestOf_124 (by decide) ?_
                      refine m_lvs [0, 2, 3, 4] rfl (ih2 (k + 1) _ _ (by omega) (by omega) hCC hfr3 (X_bs2 hF3 (fun z => by omega)))
                    · refine m_aload_n hC 4 dX10_bestOf_67 rfl rfl ?_
                      refine m_iload_n hC 1 dX10_bestOf_68 rfl rfl ?_
                      refine m_iconst hC dX10_bestOf_69 ?_
                      refine m_callV hC (t_X10_ofContract hF hl hCC ha hB (x := (k : Int)) (y := 1) 10 rfl (by decide) (by omega)) dX10_bestOf_70 kc_X10_ofContract kV_X10_84 hCC.ob rfl rfl rfl rfl (Nat.le_of_ble_eq_true rfl) (by decide) (by decide) m_nox (fun v9 M7 h9 => ?_)
                      obtain ⟨rfl, h9⟩ := h9
                      replace h9 := h9.symm
                      subst h9
                      refine m_iload_n hC 3 dX10_bestOf_73 rfl rfl ?_
                      refine m_icmp_ne (tgt := 121) hC dX10_bestOf_74 (by decide) (by first | omega | (simp [hs_at] <;> omega)) (fun c74 => ?_) (fun c74 => ?_)
                      · refine m_iinc hC 1 dX10_bestOf_121 rfl (by decide) rfl ?_
                        refine m_goto (tgt := 42) hC dX10_bestOf_124 (by decide) ?_
                        refine m_lvs [0, 2, 3, 4] rfl (ih2 (k + 1) _ _ (by omega) (by omega) hCC hfr3 (X_bs2 hF3 (fun z => by omega)))
                      · have q1 : wc w1 6 F3 6 j = h_ks g x k j := (hF3 j (by omega) j1).trans (if_neg (by omega))
                        have q2 : wc w1 6 F3 6 (j - g 13 (k : Int)) = h_ks g x k (j - g 13 (k : Int)) := (hF3 _ (by omega) (by omega)).trans (if_neg (by omega))
                        have b1 := h_ks_bd (x := x) hB k j (by omega)
                        have b2 := h_ks_bd (x := x) hB k (j - g 13 (k : Int)) (by omega)
                        refine m_aload_n hC 4 dX10_bestOf_77 rfl rfl ?_
                        refine m_getf hC dX10_bestOf_78 kf_X10_32 hCC.ob rfl ?_
                        refine m_iload hC 0 dX10_bestOf_81 rfl ?_
                        refine m_aload_n hC 4 dX10_bestOf_83 rfl rfl ?_
                        refine m_getf hC dX10_bestOf_84 kf_X10_32 hCC.ob rfl ?_
                        refine m_iload hC 0 dX10_bestOf_87 rfl ?_
                        refine m_iald hC dX10_bestOf_89 hCC.c6 (by decide) (by omega) ?_
                        refine m_aload_n hC 4 dX10_bestOf_90 rfl rfl ?_
                        refine m_getf hC dX10_bestOf_91 kf_X10_32 hCC.ob rfl ?_
                        refine m_iload hC 0 dX10_bestOf_94 rfl ?_
                        refine m_aload_n hC 4 dX10_bestOf_96 rfl rfl ?_
                        refine m_iload_n hC 1 dX10_bestOf_97 rfl rfl ?_
                        refine m_iconst hC dX10_bestOf_98 ?_
                        refine m_callV hC (t_X10_ofContract hF hl hCC ha hB (x := (k : Int)) (y := 4) 13 rfl (by decide) (by omega)) dX10_bestOf_99 kc_X10_ofContract kV_X10_84 hCC.ob rfl rfl rfl rfl (Nat.le_of_ble_eq_true rfl) (by decide) (by decide) m_nox (fun v9 M8 h9 => ?_)
                        obtain ⟨rfl, h9⟩ := h9
                        replace h9 := h9.symm
                        subst h9
                        refine m_isub hC dX10_bestOf_102 ?_
                        refine m_iald hC dX10_bestOf_103 hCC.c6 (by decide) (by omega) ?_
                        refine m_aload_n hC 4 dX10_bestOf_104 rfl rfl ?_
                        refine m_iload_n hC 1 dX10_bestOf_105 rfl rfl ?_
                        refine m_iconst hC dX10_bestOf_106 ?_
                        refine m_callV hC (t_X10_ofContract hF hl hCC ha hB (x := (k : Int)) (y := 3) 12 rfl (by decide) (by omega)) dX10_bestOf_107 kc_X10_ofContract kV_X10_84 hCC.ob rfl rfl rfl rfl (Nat.le_of_ble_eq_true rfl) (by decide) (by decide) m_nox (fun v9 M9 h9 => ?_)
                        obtain ⟨rfl, h9⟩ := h9
                        replace h9 := h9.symm
                        subst h9
                        refine m_iadd hC dX10_bestOf_110 ?_
                        refine m_mmax hC dX10_bestOf_111 kM_X10_90 (by first | omega | (simp [hs_at] <;> omega)) (by decide) (Nat.le_of_ble_eq_true rfl) (by decide) (by decide) ?_
                        refine m_w6 hC hCC ha dX10_bestOf_114 (by omega) (fun M10 R11 f12 => ?_)
                        refine m_iinc hC 0 dX10_bestOf_115 rfl (by decide) rfl ?_
                        refine m_goto (tgt := 56) hC dX10_bestOf_118 (by decide) ?_
                        refine m_lvs [0, 1, 2, 3, 4] rfl (ih3 (j + -1) _ _ (by omega) (by omega) (by omega) (by rw [← hs_wc]; exact R11) (hfr3.tr f12) (X_bs1 hF3 c74 (by omega) (by omega) (by omega)))
                refine m_lvs [0, 1, 2, 3, 4] rfl (LC 47 en F2 M2 (by omega) (by omega) (by omega) hBB hfr2 (fun e e0 e1 => by rw [if_neg (by omega)]; exact hF2 e e0 e1))
          refine m_lvs [0, 1, 2, 3] rfl (LB 9 0 F M1 (by omega) (by omega) hA hfr (fun e e0 e1 => (hF0 e e0 (by omega)).trans rfl))
        · refine m_aload_n hC 3 dX10_bestOf_27 rfl rfl ?_
          refine m_getf hC dX10_bestOf_28 kf_X10_32 hA.ob rfl ?_
          refine m_iload_n hC 0 dX10_bestOf_31 rfl rfl ?_
          refine m_iconst hC dX10_bestOf_32 ?_
          refine m_w6 hC hA ha dX10_bestOf_33 (by omega) (fun M13 R14 f15 => ?_)
          refine m_iinc hC 0 dX10_bestOf_34 rfl (by decide) rfl ?_
          refine m_goto (tgt := 22) hC dX10_bestOf_37 (by decide) ?_
          refine m_lvs [0, 1, 2, 3] rfl (ih (i + 1) _ _ (by omega) (by omega) (by omega) (by rw [← hs_wc]; exact R14) (hfr.tr f15) (X_bs0 hF0))
    refine m_lvs [0, 1, 3, 2] rfl (LA 47 0 (w1 6) M2 (by omega) (by omega) (by omega) hbw hfr0 (fun e e0 e1 => by omega))
  · refine m_iconst hC dX10_bestOf_12 ?_
    exact m_iret hC dX10_bestOf_13 hr (by decide) (by decide) (m_qx.of (m_qn ch (fun h => if_neg h) R3 f4))

set_option maxHeartbeats 4000000 in
set_option maxRecDepth 100000 in
theorem t_X10_bestWages {D : va_G} {aC : Nat → ClassId} {s0 : State} {l : Launch} (hF : m_F D aC s0) (hl : l.stackTraces = false) {a : Nat} {w g : h_T} {M : m_M} (hV : mmV a w g M) (ha : s0.heap.size ≤ a) (hB : h_B g) {x : Int} (hx : -2147483648 ≤ x ∧ x < 2147483648) : m_Met D aC s0 l yX10_bestWages cX10_bestWages 2 (some .int) 6 (0) (0) [.ref a, VI x] M (m_qx a w g (G_best g x) M) m_nx := by
  refine m_entry (lv := [(0, .ref a), (1, VI x)]) (by decide +kernel) (Nat.le_of_ble_eq_true rfl) rfl hF hl ?_
  intro p e s m args below meth c hC hr hno hnm
  change m_C D aC s0 RX10 _ _ _ _ _ _ _ _ _ at hC
  refine m_aload_n hC 0 dX10_bestWages_0 rfl rfl ?_
  refine m_iload_n hC 1 dX10_bestWages_1 rfl rfl ?_
  refine m_callV hC (t_X10_bestOf hF hl hV ha hB (x := x) hx) dX10_bestWages_2 kc_X10_bestOf kV_X10_178 hV.ob rfl rfl rfl rfl (Nat.le_of_ble_eq_true rfl) (by decide) (by decide) m_nox (fun v9 M9 h9 => ?_)
  obtain ⟨rfl, h8, h7⟩ := h9
  exact m_iret hC dX10_bestWages_5 hr (by decide) (by decide) ⟨rfl, h8, h7⟩

set_option maxHeartbeats 4000000 in
set_option maxRecDepth 100000 in
theorem t_X10_bestWagesByTable {D : va_G} {aC : Nat → ClassId} {s0 : State} {l : Launch} (hF : m_F D aC s0) (hl : l.stackTraces = false) {a : Nat} {w g : h_T} {M : m_M} (hV : mmV a w g M) (ha : s0.heap.size ≤ a) (hB : h_B g) {x : Int} (hx : -2147483648 ≤ x ∧ x < 2147483648) : m_Met D aC s0 l yX10_bestWagesByTable cX10_bestWagesByTable 2 (some .int) 6 (0) (0) [.ref a, VI x] M (m_qx a w g (G_best g x) M) m_nx := by
  refine m_entry (lv := [(0, .ref a), (1, VI x)]) (by decide +kernel) (Nat.le_of_ble_eq_true rfl) rfl hF hl ?_
  intro p e s m args below meth c hC hr hno hnm
  change m_C D aC s0 RX10 _ _ _ _ _ _ _ _ _ at hC
  refine m_aload_n hC 0 dX10_bestWagesByTable_0 rfl rfl ?_
  refine m_iload_n hC 1 dX10_bestWagesByTable_1 rfl rfl ?_
  refine m_callV hC (t_X10_bestOf hF hl hV ha hB (x := x) hx) dX10_bestWagesByTable_2 kc_X10_bestOf kV_X10_178 hV.ob rfl rfl rfl rfl (Nat.le_of_ble_eq_true rfl) (by decide) (by decide) m_nox (fun v9 M9 h9 => ?_)
  obtain ⟨rfl, h8, h7⟩ := h9
  exact m_iret hC dX10_bestWagesByTable_5 hr (by decide) (by decide) ⟨rfl, h8, h7⟩

