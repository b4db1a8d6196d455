def cB (g : h_T) : Prop := g 0 8 ≤ 4 ∧ g 0 9 ≤ 5 ∧ g 0 11 ≤ 8
theorem h_B.c {g : h_T} (h : h_B g) : cB g := ⟨h.n8.2, h.n9.2, h.n11.2⟩
def mH (f : Int → Int) (n : Int) (L : Nat → h_T) : Prop := ∀ i : Nat, (i : Int) < n → h_eq (tA (fun k => f (91 * (i : Int) + k))) (L i)
theorem X_c0 {F T : Int → Int} {j : Int} (hj : 0 ≤ j ∧ j < 91) : (if 0 ≤ j ∧ j < 0 + 91 then F (0 + (j - 0)) else T j) = F j := by
  rw [if_pos (by omega), show 0 + (j - 0) = j by omega]
theorem X_c1 {F T : Int → Int} {j x : Int} (hj : 0 ≤ j ∧ j < 91) : (if 0 ≤ j ∧ j < 0 + 91 then F (x + (j - 0)) else T j) = F (x + j) := by
  rw [if_pos (by omega), show j - 0 = j by omega]
theorem X_mH1 {f f2 B : Int → Int} {n y : Int} {L : Nat → h_T} {gb : h_T} (h : mH f n L) (hB : h_eq (tA B) gb) (hc : cB gb) (hL : ∀ i : Nat, (i : Int) < n → cB (L i)) (hy : y = 91 * n) (hf : ∀ j : Int, f2 j = if y ≤ j ∧ j < y + 91 then B (0 + (j - y)) else f j) : mH f2 (n + 1) (fun i => if (i : Int) = n then gb else L i) := by
  intro i hi
  show h_eq _ (if (i : Int) = n then gb else L i)
  by_cases q : (i : Int) = n
  · rw [if_pos q]
    refine hB.B (fun j hj => ?_) hc
    show f2 (91 * (i : Int) + j) = B j
    rw [hf, if_pos (by omega)]
    congr 1
    omega
  · rw [if_neg q]
    refine (h i (by omega)).B (fun j hj => ?_) (hL i (by omega))
    show f2 (91 * (i : Int) + j) = f (91 * (i : Int) + j)
    rw [hf, if_neg (by omega)]
theorem X_c7 {n : Int} {gb : h_T} {L : Nat → h_T} {i : Nat} (h : ¬ n < 8) : (if (i : Int) = 7 then gb else L (i + 1)) = c_L n gb L i := by
  rw [show c_L n gb L i = (if i = 7 then gb else L (i + 1)) from if_neg h]
  by_cases q : i = 7
  · rw [if_pos q, if_pos (by omega)]
  · rw [if_neg q, if_neg (by omega)]
def h_sh (f : Int → Int) (k : Int) : Int → Int := fun j => if 0 ≤ j ∧ j < k then f (j + 91) else f j
theorem X_mH2 {f : Int → Int} {L : Nat → h_T} (h : mH f 8 L) (hL : ∀ i : Nat, (i : Int) < 8 → cB (L i)) : mH (h_sh f 637) 7 (fun i => L (i + 1)) := by
  intro i hi
  refine (h (i + 1) (by omega)).B (fun j hj => ?_) (hL (i + 1) (by omega))
  show h_sh f 637 (91 * (i : Int) + j) = f (91 * ((i + 1 : Nat) : Int) + j)
  unfold h_sh
  rw [if_pos (by omega)]
  congr 1
  omega
theorem X_hsh {w : h_T} {k : Int} (h : 0 ≤ k) : hs (wc w 5 (h_sh (w 5) k)) 5 k (wc w 5 (h_sh (w 5) k) 5 (k + 91)) = wc w 5 (h_sh (w 5) (k + 1)) := by
  funext c j
  rw [hs_at, wc_s]
  unfold wc h_sh
  by_cases q : c = 5
  · subst q
    simp only [if_true, true_and]
    by_cases z : j = k
    · subst z
      rw [if_pos rfl, if_neg (by omega), if_pos (by omega)]
    · rw [if_neg z]
      by_cases y : 0 ≤ j ∧ j < k
      · rw [if_pos y, if_pos (by omega)]
      · rw [if_neg y, if_neg (by omega)]
  · simp only [q, if_false, false_and]
theorem X_hw {w : h_T} {H1 H2 : Int → Int} {x y : Int} : hs (wc (hs (wc w 5 H1) 0 6 x) 5 H2) 0 6 y = hs (wc w 5 H2) 0 6 y := by
  funext c j
  simp only [hs_at, wc]
  by_cases q : c = 0 ∧ j = 6
  · rw [if_pos q, if_pos q]
  · rw [if_neg q, if_neg q]
    by_cases z : c = 5
    · rw [if_pos z, if_pos z]
    · rw [if_neg z, if_neg z, hs_at, if_neg q, wc_n z]
theorem X_wcid {w : h_T} {c : Nat} : wc w c (w c) = w := by
  funext c' j
  unfold wc
  by_cases q : c' = c
  · rw [if_pos q, q]
  · rw [if_neg q]
set_option maxHeartbeats 4000000 in
set_option maxRecDepth 100000 in
theorem t_X10_begins {D : va_G} {aC : Nat → ClassId} {s0 : State} {l : Launch} (hF : m_F D aC s0) (hl : l.stackTraces = false) {a : Nat} {w g : h_T} {M : m_M} (hV : mmV a w g M) (ha : s0.heap.size ≤ a) (hB : h_B g)   : m_Met D aC s0 l yX10_begins cX10_begins 1 none 1 (0) (0) [.ref a] M (fun v M' => v = none ∧ (∃ B : Int → Int, h_eq (tA B) g ∧ mmV a (wc w 2 B) g M') ∧ m_fr a 10 M M') m_nx := by
  refine m_entry (lv := [(0, .ref a)]) (by decide +kernel) (Nat.le_of_ble_eq_true rfl) rfl hF hl ?_
  intro p e s m args below meth c hC hr hno hnm
  change m_C D aC s0 RX10 _ _ _ _ _ _ _ _ _ at hC
  refine m_aload_n hC 0 dX10_begins_0 rfl rfl ?_
  refine m_getf hC dX10_begins_1 kf_X10_9 hV.ob rfl ?_
  refine m_iconst hC dX10_begins_4 ?_
  refine m_aload_n hC 0 dX10_begins_5 rfl rfl ?_
  refine m_getf hC dX10_begins_6 kf_X10_13 hV.ob rfl ?_
  refine m_iconst hC dX10_begins_9 ?_
  obtain ⟨A1, hA1, eA1⟩ := hV.c1
  refine m_callS hC (t_X10_copies hF hl (x := 0) (y := 0) hA1 hV.c2 (by omega) (by omega) (by omega) (by omega) (by omega)) dX10_begins_10 kc_X10_copies kS_X10_51 rfl rfl (Nat.le_of_ble_eq_true rfl) (by decide) (by decide) m_nox (fun v9 M2 h9 => ?_)
  obtain ⟨rfl, R3, f5⟩ := h9
  have R4 := hV.cp2 R3 f5
  exact m_vret hC dX10_begins_13 hr (by decide) (by decide) (⟨rfl, ⟨_, eA1.B (fun j hj => X_c0 hj) hB.c, R4⟩, (f5.mono (by omega) (by omega))⟩)

theorem X_rem {a : Nat} {w w1 g gb : h_T} {n1 : Int} {L L1 : Nat → h_T} {M M2 : m_M} (e6 : w1 0 6 = n1) (hn1 : 0 ≤ n1 ∧ n1 < 8) (hL1 : mH (w1 5) n1 L1) (hL1c : ∀ i : Nat, (i : Int) < n1 → cB (L1 i)) (e2 : w1 2 = w 2) (hw : ∀ H : Int → Int, hs (wc w1 5 H) 0 6 (n1 + 1) = hs (wc w 5 H) 0 6 (n1 + 1)) (hm : min (w 0 6 + 1) 8 = n1 + 1) (hc : ∀ i : Nat, (i : Int) < n1 + 1 → (if (i : Int) = n1 then gb else L1 i) = c_L (w 0 6) gb L i) (hb : h_eq (tA (w 2)) gb) (hbc : cB gb)
    (hV : mmV a (hs (wc w1 5 (fun j => if w1 0 6 * 91 ≤ j ∧ j < w1 0 6 * 91 + 91 then w1 2 (0 + (j - w1 0 6 * 91)) else w1 5 j)) 0 6 (w1 0 6 + 1)) g M2) (hf : m_fr a 10 M M2) : (none : Option Value) = none ∧ (∃ H : Int → Int, mH H (min (w 0 6 + 1) 8) (c_L (w 0 6) gb L) ∧ mmV a (hs (wc w 5 H) 0 6 (min (w 0 6 + 1) 8)) g M2) ∧ m_fr a 10 M M2 := by
  refine ⟨rfl, ⟨(fun j => if w1 0 6 * 91 ≤ j ∧ j < w1 0 6 * 91 + 91 then w1 2 (0 + (j - w1 0 6 * 91)) else w1 5 j), ?_, ?_⟩, hf⟩
  · rw [hm]
    have h := X_mH1 (f2 := fun j => if w1 0 6 * 91 ≤ j ∧ j < w1 0 6 * 91 + 91 then w1 2 (0 + (j - w1 0 6 * 91)) else w1 5 j) hL1 (by rw [e2]; exact hb) hbc hL1c (y := w1 0 6 * 91) (by omega) (fun j => rfl)
    intro i hi
    rw [← hc i hi]
    exact h i hi
  · rw [hm, ← hw]
    rw [e6] at hV ⊢
    exact hV
theorem X_h0 {a : Nat} {w g : h_T} {M : m_M} (h : mmV a w g M) : mmV a (wc w 5 (h_sh (w 5) 0)) g M := by
  have e : h_sh (w 5) 0 = w 5 := by
    funext j
    unfold h_sh
    rw [if_neg (by omega)]
  rw [e, X_wcid]
  exact h
set_option maxHeartbeats 4000000 in
set_option maxRecDepth 100000 in
theorem t_X10_remembers {D : va_G} {aC : Nat → ClassId} {s0 : State} {l : Launch} (hF : m_F D aC s0) (hl : l.stackTraces = false) {a : Nat} {w g : h_T} {M : m_M} (hV : mmV a w g M) (ha : s0.heap.size ≤ a) (hB : h_B g)  {gb : h_T} {L : Nat → h_T} (hn6 : 0 ≤ w 0 6 ∧ w 0 6 ≤ 8) (hL : mH (w 5) (w 0 6) L) (hLc : ∀ i : Nat, (i : Int) < w 0 6 → cB (L i)) (hb : h_eq (tA (w 2)) gb) (hbc : cB gb) : m_Met D aC s0 l yX10_remembers cX10_remembers 2 none 1 (0) (0) [.ref a] M (fun v M' => v = none ∧ (∃ H : Int → Int, mH H (min (w 0 6 + 1) 8) (c_L (w 0 6) gb L) ∧ mmV a (hs (wc w 5 H) 0 6 (min (w 0 6 + 1) 8)) g M') ∧ m_fr a 10 M M') m_nx := by
  refine m_entry (lv := [(0, .ref a)]) (by decide +kernel) (Nat.le_of_ble_eq_true rfl) rfl hF hl ?_
  intro p e s m args below meth c hC hr hno hnm
  change m_C D aC s0 RX10 _ _ _ _ _ _ _ _ _ at hC
  have J : ∀ (w1 : h_T) (n1 : Int) (L1 : Nat → h_T) (M1 : m_M), mmV a w1 g M1 → m_fr a 10 M M1 → w1 0 6 = n1 → 0 ≤ n1 ∧ n1 < 8 → mH (w1 5) n1 L1 → (∀ i : Nat, (i : Int) < n1 → cB (L1 i)) → w1 2 = w 2 → (∀ H : Int → Int, hs (wc w1 5 H) 0 6 (n1 + 1) = hs (wc w 5 H) 0 6 (n1 + 1)) → min (w 0 6 + 1) 8 = n1 + 1 → (∀ i : Nat, (i : Int) < n1 + 1 → (if (i : Int) = n1 then gb else L1 i) = c_L (w 0 6) gb L i) → m_W D aC s0 2 p l e (m_R 1 (0) (0)) s m args below meth c (0) (0) (m_Q D aC s0 below (fun v M' => v = none ∧ (∃ H : Int → Int, mH H (min (w 0 6 + 1) 8) (c_L (w 0 6) gb L) ∧ mmV a (hs (wc w 5 H) 0 6 (min (w 0 6 + 1) 8)) g M') ∧ m_fr a 10 M M') m_nx args s (0) (0)) 49 [(0, .ref a)] [] M1 := by
    intro w1 n1 L1 M1 hV1 hf1 e6 hn1 hL1 hL1c e2 hw hm hc
    refine m_aload_n hC 0 dX10_remembers_49 rfl rfl ?_
    refine m_getf hC dX10_remembers_50 kf_X10_13 hV1.ob rfl ?_
    refine m_iconst hC dX10_remembers_53 ?_
    refine m_aload_n hC 0 dX10_remembers_54 rfl rfl ?_
    refine m_getf hC dX10_remembers_55 kf_X10_22 hV1.ob rfl ?_
    refine m_aload_n hC 0 dX10_remembers_58 rfl rfl ?_
    refine m_getf hC dX10_remembers_59 kf_X10_55 hV1.ob rfl ?_
    refine m_bipush hC dX10_remembers_62 (by decide) ?_
    refine m_imul hC dX10_remembers_64 ?_
    refine m_callS hC (t_X10_copies hF hl (x := 0) (y := w1 0 6 * 91) hV1.c2 hV1.c5 (by omega) (by omega) (by omega) (by omega) (by omega)) dX10_remembers_65 kc_X10_copies kS_X10_51 rfl rfl (Nat.le_of_ble_eq_true rfl) (by decide) (by decide) m_nox (fun v9 M1 h9 => ?_)
    obtain ⟨rfl, R2, f4⟩ := h9
    have R3 := hV1.cp5 R2 f4
    refine m_aload_n hC 0 dX10_remembers_68 rfl rfl ?_
    refine m_dup hC dX10_remembers_69 rfl ?_
    refine m_getf hC dX10_remembers_70 kf_X10_55 R3.ob rfl ?_
    refine m_iconst hC dX10_remembers_73 ?_
    refine m_iadd hC dX10_remembers_74 ?_
    refine m_ws6 hC R3 ha dX10_remembers_75 kf_X10_55 (fun M5 R6 f7 => ?_)
    exact m_vret hC dX10_remembers_78 hr (by decide) (by decide) (X_rem e6 hn1 hL1 hL1c e2 hw hm hc hb hbc R6 (hf1.tr ((f4.mono (by omega) (by omega)).tr f7)))
  refine m_aload_n hC 0 dX10_remembers_0 rfl rfl ?_
  refine m_getf hC dX10_remembers_1 kf_X10_55 hV.ob rfl ?_
  refine m_bipush hC dX10_remembers_4 (by decide) ?_
  refine m_icmp_ne (tgt := 49) hC dX10_remembers_6 (by decide) (by first | omega | (simp [hs_at] <;> omega)) (fun c6 => ?_) (fun c6 => ?_)
  · exact J w (w 0 6) L M hV m_fr.rf rfl (by omega) hL hLc rfl (fun _ => rfl) (by omega) (fun i hi => (show c_L (w 0 6) gb L i = _ from if_pos (by omega)).symm)
  · refine m_iconst hC dX10_remembers_9 ?_
    refine m_istore_n hC dX10_remembers_10 rfl (by decide) rfl ?_
    have Lp : ∀ (n : Nat) (k : Int) (M1 : m_M), 637 - k < (n : Int) → 0 ≤ k → k ≤ 637 → mmV a (wc w 5 (h_sh (w 5) k)) g M1 → m_fr a 10 M M1 → m_W D aC s0 2 p l e (m_R 1 (0) (0)) s m args below meth c (0) (0) (m_Q D aC s0 below (fun v M' => v = none ∧ (∃ H : Int → Int, mH H (min (w 0 6 + 1) 8) (c_L (w 0 6) gb L) ∧ mmV a (hs (wc w 5 H) 0 6 (min (w 0 6 + 1) 8)) g M') ∧ m_fr a 10 M M') m_nx args s (0) (0)) 11 [(1, VI k), (0, .ref a)] [] M1 := by
      intro n
      induction n with
      | zero =>
        intro k M1 hn h0 h1 hU hfr
        omega
      | succ n ih =>
        intro k M1 hn h0 h1 hU hfr
        refine m_iload_n hC 0 dX10_remembers_11 rfl rfl ?_
        refine m_sipush hC dX10_remembers_12 (by decide) ?_
        refine m_icmp_ge (tgt := 39) hC dX10_remembers_15 (by decide) (by first | omega | (simp [hs_at] <;> omega)) (fun c15 => ?_) (fun c15 => ?_)
        · refine m_aload_n hC 1 dX10_remembers_39 rfl rfl ?_
          refine m_dup hC dX10_remembers_40 rfl ?_
          refine m_getf hC dX10_remembers_41 kf_X10_55 hU.ob rfl ?_
          refine m_iconst hC dX10_remembers_44 ?_
          refine m_isub hC dX10_remembers_45 ?_
          refine m_ws6 hC hU ha dX10_remembers_46 kf_X10_55 (fun M8 R9 f10 => ?_)
          obtain rfl : k = 637 := by omega
          have e8 : w 0 6 = 8 := by omega
          refine m_lvs [1] rfl (J _ 7 (fun i => L (i + 1)) _ R9 (hfr.tr f10) (by rw [hs_s]; show w 0 6 - 1 = 7; omega) (by omega) ?_ (fun i hi => hLc (i + 1) (by omega)) ?_ (fun H => X_hw) (by omega) (fun i hi => X_c7 (by omega)))
          · rw [hs_c (by decide), wc_s]; exact X_mH2 (by rw [← e8]; exact hL) (fun i hi => hLc i (by omega))
          · rw [hs_c (by decide), wc_n (by decide)]
        · refine m_aload_n hC 1 dX10_remembers_18 rfl rfl ?_
          refine m_getf hC dX10_remembers_19 kf_X10_22 hU.ob rfl ?_
          refine m_iload_n hC 0 dX10_remembers_22 rfl rfl ?_
          refine m_aload_n hC 1 dX10_remembers_23 rfl rfl ?_
          refine m_getf hC dX10_remembers_24 kf_X10_22 hU.ob rfl ?_
          refine m_iload_n hC 0 dX10_remembers_27 rfl rfl ?_
          refine m_bipush hC dX10_remembers_28 (by decide) ?_
          refine m_iadd hC dX10_remembers_30 ?_
          refine m_iald hC dX10_remembers_31 hU.c5 (by decide) (by first | omega | (simp [hs_at] <;> omega)) ?_
          refine m_w5 hC hU ha dX10_remembers_32 (by first | omega | (simp [hs_at] <;> omega)) (fun M11 R12 f13 => ?_)
          refine m_iinc hC 0 dX10_remembers_33 rfl (by decide) rfl ?_
          refine m_goto (tgt := 11) hC dX10_remembers_36 (by decide) ?_
          refine m_lvs [0, 1] rfl (ih (k + 1) _ (by omega) (by omega) (by omega) (by rw [← X_hsh h0]; exact R12) (hfr.tr f13))
    refine m_lvs [0, 1] rfl (Lp 638 0 M (by omega) (by omega) (by omega) (X_h0 hV) m_fr.rf)

set_option maxHeartbeats 4000000 in
set_option maxRecDepth 100000 in
theorem t_X10_ends {D : va_G} {aC : Nat → ClassId} {s0 : State} {l : Launch} (hF : m_F D aC s0) (hl : l.stackTraces = false) {a : Nat} {w g : h_T} {M : m_M} (hV : mmV a w g M) (ha : s0.heap.size ≤ a) (hB : h_B g) {z : Int} {gb : h_T} {L : Nat → h_T} (hn6 : 0 ≤ w 0 6 ∧ w 0 6 ≤ 8) (hL : mH (w 5) (w 0 6) L) (hLc : ∀ i : Nat, (i : Int) < w 0 6 → cB (L i)) (hb : h_eq (tA (w 2)) gb) (hbc : cB gb) (h14 : 0 ≤ w 0 14 ∧ w 0 14 ≤ 5) : m_Met D aC s0 l yX10_ends cX10_ends 2 (some .int) 2 (0) (0) [.ref a, VI z] M (fun v M' => (w 0 14 ≠ 0 ∧ v = some (VI 0) ∧ mmV a w gb M' ∨ w 0 14 = 0 ∧ v = some (VI z) ∧ ∃ H : Int → Int, mH H (min (w 0 6 + 1) 8) (c_L (w 0 6) gb L) ∧ mmV a (hs (wc w 5 H) 0 6 (min (w 0 6 + 1) 8)) g M') ∧ m_fr a 10 M M') m_nx := by
  refine m_entry (lv := [(0, .ref a), (1, VI z)]) (by decide +kernel) (Nat.le_of_ble_eq_true rfl) rfl hF hl ?_
  intro p e s m args below meth c hC hr hno hnm
  change m_C D aC s0 RX10 _ _ _ _ _ _ _ _ _ at hC
  refine m_aload_n hC 0 dX10_ends_0 rfl rfl ?_
  refine m_getf hC dX10_ends_1 kf_X10_44 hV.ob rfl ?_
  refine m_if_eq (tgt := 22) hC dX10_ends_4 (by decide) (by first | omega | (simp [hs_at] <;> omega)) (fun c4 => ?_) (fun c4 => ?_)
  · refine m_aload_n hC 0 dX10_ends_22 rfl rfl ?_
    refine m_callV hC (t_X10_remembers hF hl hV ha hB hn6 hL hLc hb hbc) dX10_ends_23 kc_X10_remembers kV_X10_58 hV.ob rfl rfl rfl rfl (Nat.le_of_ble_eq_true rfl) (by decide) (by decide) m_nox (fun v9 M1 h9 => ?_)
    obtain ⟨rfl, R2, f3⟩ := h9
    refine m_iload_n hC 1 dX10_ends_26 rfl rfl ?_
    exact m_iret hC dX10_ends_27 hr (by decide) (by decide) (⟨Or.inr ⟨by omega, rfl, R2⟩, f3⟩)
  · refine m_aload_n hC 0 dX10_ends_7 rfl rfl ?_
    refine m_getf hC dX10_ends_8 kf_X10_13 hV.ob rfl ?_
    refine m_iconst hC dX10_ends_11 ?_
    refine m_aload_n hC 0 dX10_ends_12 rfl rfl ?_
    refine m_getf hC dX10_ends_13 kf_X10_9 hV.ob rfl ?_
    refine m_iconst hC dX10_ends_16 ?_
    obtain ⟨A4, hA4, eA4⟩ := hV.c1
    refine m_callS hC (t_X10_copies hF hl (x := 0) (y := 0) hV.c2 hA4 (by omega) (by omega) (by omega) (by omega) (by omega)) dX10_ends_17 kc_X10_copies kS_X10_51 rfl rfl (Nat.le_of_ble_eq_true rfl) (by decide) (by decide) m_nox (fun v9 M5 h9 => ?_)
    obtain ⟨rfl, R6, f8⟩ := h9
    have R7 := hV.cp1 R6 f8 (hb.B (fun j hj => X_c0 hj) hbc)
    refine m_iconst hC dX10_ends_20 ?_
    exact m_iret hC dX10_ends_21 hr (by decide) (by decide) (⟨Or.inl ⟨by omega, rfl, R7⟩, (f8.mono (by omega) (by omega))⟩)

set_option maxHeartbeats 4000000 in
set_option maxRecDepth 100000 in
theorem t_X10_undo {D : va_G} {aC : Nat → ClassId} {s0 : State} {l : Launch} (hF : m_F D aC s0) (hl : l.stackTraces = false) {a : Nat} {w g : h_T} {M : m_M} (hV : mmV a w g M) (ha : s0.heap.size ≤ a) (hB : h_B g)  {gl : h_T} (hn6 : 0 ≤ w 0 6 ∧ w 0 6 ≤ 8) (hgl : 0 < w 0 6 → h_eq (tA (fun k => w 5 (91 * (w 0 6 - 1) + k))) gl ∧ cB gl) : m_Met D aC s0 l yX10_undo cX10_undo 1 (some .int) 2 (0) (0) [.ref a] M (fun v M' => (w 0 6 = 0 ∧ v = some (VI 0) ∧ mmV a (hs w 0 14 1) g M' ∨ 0 < w 0 6 ∧ v = some (VI (w 0 6 - 1)) ∧ mmV a (hs (hs w 0 14 0) 0 6 (w 0 6 - 1)) gl M') ∧ m_fr a 10 M M') m_nx := by
  refine m_entry (lv := [(0, .ref a)]) (by decide +kernel) (Nat.le_of_ble_eq_true rfl) rfl hF hl ?_
  intro p e s m args below meth c hC hr hno hnm
  change m_C D aC s0 RX10 _ _ _ _ _ _ _ _ _ at hC
  refine m_aload_n hC 0 dX10_undo_0 rfl rfl ?_
  refine m_aload_n hC 0 dX10_undo_1 rfl rfl ?_
  refine m_getf hC dX10_undo_2 kf_X10_55 hV.ob rfl ?_
  refine m_dia_if_le hC dX10_undo_5 dX10_undo_8 dX10_undo_9 dX10_undo_12 rfl rfl (by first | omega | (simp [hs_at] <;> omega)) ?_
  refine m_callV hC (t_X10_goes hF hl hV ha hB (z := b01 (0 < w 0 6)) b01_r) dX10_undo_13 kc_X10_goes kV_X10_61 hV.ob rfl rfl rfl rfl (Nat.le_of_ble_eq_true rfl) (by decide) (by decide) m_nox (fun v9 M1 h9 => ?_)
  obtain ⟨rfl, R2, f3⟩ := h9
  refine m_if_ne (tgt := 21) hC dX10_undo_16 (by decide) b01_r (fun c16 => ?_) (fun c16 => ?_)
  · have cc : 0 < w 0 6 := by have := b01_ne.mp c16; exact b01_ne.mp this
    rw [if_neg (by rw [b01_t cc]; decide)] at R2
    have e6 : hs w 0 14 0 0 6 = w 0 6 := rfl
    refine m_aload_n hC 0 dX10_undo_21 rfl rfl ?_
    refine m_dup hC dX10_undo_22 rfl ?_
    refine m_getf hC dX10_undo_23 kf_X10_55 R2.ob rfl ?_
    refine m_iconst hC dX10_undo_26 ?_
    refine m_isub hC dX10_undo_27 ?_
    refine m_ws6 hC R2 ha dX10_undo_28 kf_X10_55 (fun M4 R5 f6 => ?_)
    rw [e6] at R5
    refine m_aload_n hC 0 dX10_undo_31 rfl rfl ?_
    refine m_getf hC dX10_undo_32 kf_X10_22 R5.ob rfl ?_
    refine m_aload_n hC 0 dX10_undo_35 rfl rfl ?_
    refine m_getf hC dX10_undo_36 kf_X10_55 R5.ob rfl ?_
    refine m_bipush hC dX10_undo_39 (by decide) ?_
    refine m_imul hC dX10_undo_41 ?_
    refine m_aload_n hC 0 dX10_undo_42 rfl rfl ?_
    refine m_getf hC dX10_undo_43 kf_X10_9 R5.ob rfl ?_
    refine m_iconst hC dX10_undo_46 ?_
    obtain ⟨A7, hA7, eA7⟩ := R5.c1
    refine m_callS hC (t_X10_copies hF hl (x := (hs (hs w 0 14 0) 0 6 (w 0 6 - 1) 0 6 * 91)) (y := 0) R5.c5 hA7 (by omega) (by omega) (by rw [hs_s]; omega) (by omega) (by omega)) dX10_undo_47 kc_X10_copies kS_X10_51 rfl rfl (Nat.le_of_ble_eq_true rfl) (by decide) (by decide) m_nox (fun v9 M8 h9 => ?_)
    obtain ⟨rfl, R9, f11⟩ := h9
    have R10 := R5.cp1 R9 f11 ((hgl cc).1.B (fun j hj => by rw [X_c1 hj]; show w 5 ((w 0 6 - 1) * 91 + j) = w 5 (91 * (w 0 6 - 1) + j); rw [Int.mul_comm]) (hgl cc).2)
    refine m_aload_n hC 0 dX10_undo_50 rfl rfl ?_
    refine m_getf hC dX10_undo_51 kf_X10_55 R10.ob rfl ?_
    exact m_iret hC dX10_undo_54 hr (by decide) (by decide) (⟨Or.inr ⟨cc, by rw [hs_s], R10⟩, (f3.tr (f6.tr (f11.mono (by omega) (by omega))))⟩)
  · have cc : ¬ 0 < w 0 6 := fun q => absurd (b01_eq.mp c16) (by rw [b01_t q]; decide)
    rw [if_pos (b01_f cc)] at R2
    refine m_iconst hC dX10_undo_19 ?_
    exact m_iret hC dX10_undo_20 hr (by decide) (by decide) (⟨Or.inl ⟨by omega, rfl, R2⟩, f3⟩)

set_option maxHeartbeats 4000000 in
set_option maxRecDepth 100000 in
theorem t_X10_save {D : va_G} {aC : Nat → ClassId} {s0 : State} {l : Launch} (hF : m_F D aC s0) (hl : l.stackTraces = false) {a : Nat} {w g : h_T} {M : m_M} (hV : mmV a w g M) (ha : s0.heap.size ≤ a) (hB : h_B g)   : m_Met D aC s0 l yX10_save cX10_save 1 (some .int) 1 (0) (0) [.ref a] M (fun v M' => v = some (VI (g 0 11)) ∧ (∃ B : Int → Int, h_eq (tA B) g ∧ mmV a (hs (wc (hs w 0 14 0) 4 B) 0 5 1) g M') ∧ m_fr a 10 M M') m_nx := by
  refine m_entry (lv := [(0, .ref a)]) (by decide +kernel) (Nat.le_of_ble_eq_true rfl) rfl hF hl ?_
  intro p e s m args below meth c hC hr hno hnm
  change m_C D aC s0 RX10 _ _ _ _ _ _ _ _ _ at hC
  refine m_aload_n hC 0 dX10_save_0 rfl rfl ?_
  refine m_iconst hC dX10_save_1 ?_
  refine m_ws14 hC hV ha dX10_save_2 kf_X10_44 (fun M1 R2 f3 => ?_)
  refine m_aload_n hC 0 dX10_save_5 rfl rfl ?_
  refine m_getf hC dX10_save_6 kf_X10_9 R2.ob rfl ?_
  refine m_iconst hC dX10_save_9 ?_
  refine m_aload_n hC 0 dX10_save_10 rfl rfl ?_
  refine m_getf hC dX10_save_11 kf_X10_19 R2.ob rfl ?_
  refine m_iconst hC dX10_save_14 ?_
  obtain ⟨A4, hA4, eA4⟩ := R2.c1
  refine m_callS hC (t_X10_copies hF hl (x := 0) (y := 0) hA4 R2.c4 (by omega) (by omega) (by omega) (by omega) (by omega)) dX10_save_15 kc_X10_copies kS_X10_51 rfl rfl (Nat.le_of_ble_eq_true rfl) (by decide) (by decide) m_nox (fun v9 M5 h9 => ?_)
  obtain ⟨rfl, R6, f8⟩ := h9
  have R7 := R2.cp4 R6 f8
  refine m_aload_n hC 0 dX10_save_18 rfl rfl ?_
  refine m_iconst hC dX10_save_19 ?_
  refine m_ws5 hC R7 ha dX10_save_20 kf_X10_65 (by first | exact Or.inl rfl | exact Or.inr rfl | exact b01_z) (fun M9 R10 f11 => ?_)
  refine m_aload_n hC 0 dX10_save_23 rfl rfl ?_
  refine m_getf hC dX10_save_24 kf_X10_9 R10.ob rfl ?_
  refine m_bipush hC dX10_save_27 (by decide) ?_
  refine m_n0 hC R10 dX10_save_29 (by decide) ?_
  exact m_iret hC dX10_save_30 hr (by decide) (by decide) (⟨rfl, ⟨_, eA4.B (fun j hj => X_c0 hj) hB.c, R10⟩, (f3.tr ((f8.mono (by omega) (by omega)).tr f11))⟩)

set_option maxHeartbeats 4000000 in
set_option maxRecDepth 100000 in
theorem t_X10_restore {D : va_G} {aC : Nat → ClassId} {s0 : State} {l : Launch} (hF : m_F D aC s0) (hl : l.stackTraces = false) {a : Nat} {w g : h_T} {M : m_M} (hV : mmV a w g M) (ha : s0.heap.size ≤ a) (hB : h_B g)  {gl : h_T} (h5 : w 0 5 = 0 ∨ w 0 5 = 1) (hgl : w 0 5 = 1 → h_eq (tA (w 4)) gl ∧ cB gl) : m_Met D aC s0 l yX10_restore cX10_restore 1 (some .int) 2 (0) (0) [.ref a] M (fun v M' => (w 0 5 = 0 ∧ v = some (VI 0) ∧ mmV a (hs w 0 14 1) g M' ∨ w 0 5 = 1 ∧ v = some (VI (gl 0 11)) ∧ mmV a (hs (hs w 0 14 0) 0 6 0) gl M') ∧ m_fr a 10 M M') m_nx := by
  refine m_entry (lv := [(0, .ref a)]) (by decide +kernel) (Nat.le_of_ble_eq_true rfl) rfl hF hl ?_
  intro p e s m args below meth c hC hr hno hnm
  change m_C D aC s0 RX10 _ _ _ _ _ _ _ _ _ at hC
  refine m_aload_n hC 0 dX10_restore_0 rfl rfl ?_
  refine m_aload_n hC 0 dX10_restore_1 rfl rfl ?_
  refine m_getf hC dX10_restore_2 kf_X10_65 hV.ob rfl ?_
  refine m_callV hC (t_X10_goes hF hl hV ha hB (z := w 0 5) (by omega)) dX10_restore_5 kc_X10_goes kV_X10_61 hV.ob rfl rfl rfl rfl (Nat.le_of_ble_eq_true rfl) (by decide) (by decide) m_nox (fun v9 M1 h9 => ?_)
  obtain ⟨rfl, R2, f3⟩ := h9
  refine m_if_ne (tgt := 13) hC dX10_restore_8 (by decide) b01_r (fun c8 => ?_) (fun c8 => ?_)
  · have cc : w 0 5 = 1 := by have := b01_ne.mp c8; omega
    rw [if_neg (by omega)] at R2
    refine m_aload_n hC 0 dX10_restore_13 rfl rfl ?_
    refine m_getf hC dX10_restore_14 kf_X10_19 R2.ob rfl ?_
    refine m_iconst hC dX10_restore_17 ?_
    refine m_aload_n hC 0 dX10_restore_18 rfl rfl ?_
    refine m_getf hC dX10_restore_19 kf_X10_9 R2.ob rfl ?_
    refine m_iconst hC dX10_restore_22 ?_
    obtain ⟨A4, hA4, eA4⟩ := R2.c1
    refine m_callS hC (t_X10_copies hF hl (x := 0) (y := 0) R2.c4 hA4 (by omega) (by omega) (by omega) (by omega) (by omega)) dX10_restore_23 kc_X10_copies kS_X10_51 rfl rfl (Nat.le_of_ble_eq_true rfl) (by decide) (by decide) m_nox (fun v9 M5 h9 => ?_)
    obtain ⟨rfl, R6, f8⟩ := h9
    have R7 := R2.cp1 R6 f8 ((hgl cc).1.B (fun j hj => X_c0 hj) (hgl cc).2)
    refine m_aload_n hC 0 dX10_restore_26 rfl rfl ?_
    refine m_iconst hC dX10_restore_27 ?_
    refine m_ws6 hC R7 ha dX10_restore_28 kf_X10_55 (fun M9 R10 f11 => ?_)
    refine m_aload_n hC 0 dX10_restore_31 rfl rfl ?_
    refine m_getf hC dX10_restore_32 kf_X10_9 R10.ob rfl ?_
    refine m_bipush hC dX10_restore_35 (by decide) ?_
    refine m_n0 hC R10 dX10_restore_37 (by decide) ?_
    exact m_iret hC dX10_restore_38 hr (by decide) (by decide) (⟨Or.inr ⟨cc, rfl, R10⟩, (f3.tr ((f8.mono (by omega) (by omega)).tr f11))⟩)
  · have cc : w 0 5 = 0 := by have := b01_eq.mp c8; omega
    rw [if_pos cc] at R2
    refine m_iconst hC dX10_restore_11 ?_
    exact m_iret hC dX10_restore_12 hr (by decide) (by decide) (⟨Or.inl ⟨cc, rfl, R2⟩, f3⟩)

