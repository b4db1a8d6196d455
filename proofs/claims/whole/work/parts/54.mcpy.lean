theorem X_cpv {F T T1 : Int → Int} {x y k : Int} (hv : ∀ j : Int, T1 j = if y ≤ j ∧ j < y + k then F (x + (j - y)) else T j) (h0 : 0 ≤ k) (j : Int) : m_ug T1 (y + k) (F (x + k)) j = if y ≤ j ∧ j < y + (k + 1) then F (x + (j - y)) else T j := by
  unfold m_ug
  by_cases q : j = y + k
  · rw [if_pos q, if_pos (by omega), show x + (j - y) = x + k by omega]
  · rw [if_neg q, hv j]
    by_cases z : y ≤ j ∧ j < y + k
    · rw [if_pos z, if_pos (by omega)]
    · rw [if_neg z, if_neg (by omega)]
set_option maxHeartbeats 4000000 in
set_option maxRecDepth 100000 in
theorem t_X10_copies {D : va_G} {aC : Nat → ClassId} {s0 : State} {l : Launch} (hF : m_F D aC s0) (hl : l.stackTraces = false) {fa ta n1 n2 : Nat} {F T : Int → Int} {M : m_M} {x y : Int} (hF0 : M.2 fa = some (m_ia 0 n1 F)) (hT0 : M.2 ta = some (m_ia 0 n2 T)) (hft : fa ≠ ta) (ha : s0.heap.size ≤ ta) (hx : 0 ≤ x ∧ x + 91 ≤ n1) (hy : 0 ≤ y ∧ y + 91 ≤ n2) (hn12 : n1 < 1000 ∧ n2 < 1000) : m_Met D aC s0 l yX10_copies cX10_copies 5 none 0 (0) (0) [.ref fa, VI x, .ref ta, VI y] M (fun v M' => v = none ∧ M'.2 ta = some (m_ia 0 n2 (fun j => if y ≤ j ∧ j < y + 91 then F (x + (j - y)) else T j)) ∧ m_fr ta 1 M M') m_nx := by
  refine m_entry (lv := [(0, .ref fa), (1, VI x), (2, .ref ta), (3, VI y)]) (by decide +kernel) (Nat.le_of_ble_eq_true rfl) rfl hF hl ?_
  intro p e s m args below meth c hC hr hno hnm
  change m_C D aC s0 RX10 _ _ _ _ _ _ _ _ _ at hC
  refine m_iconst hC dX10_copies_0 ?_
  refine m_istore hC dX10_copies_1 (by decide) rfl ?_
  have L : ∀ (n : Nat) (k : Int) (M1 : m_M) (T1 : Int → Int), 91 - k < (n : Int) → 0 ≤ k → k ≤ 91 → M1.2 fa = some (m_ia 0 n1 F) → M1.2 ta = some (m_ia 0 n2 T1) → m_fr ta 1 M M1 → (∀ j : Int, T1 j = if y ≤ j ∧ j < y + k then F (x + (j - y)) else T j) → m_W D aC s0 5 p l e (m_R 0 (0) (0)) s m args below meth c (0) (0) (m_Q D aC s0 below (fun v M' => v = none ∧ M'.2 ta = some (m_ia 0 n2 (fun j => if y ≤ j ∧ j < y + 91 then F (x + (j - y)) else T j)) ∧ m_fr ta 1 M M') m_nx args s (0) (0)) 3 [(4, VI k), (3, VI y), (2, .ref ta), (1, VI x), (0, .ref fa)] [] M1 := by
    intro n
    induction n with
    | zero =>
      intro k M1 T1 hn h0 h1 hF hT hfr hv
      omega
    | succ n ih =>
      intro k M1 T1 hn h0 h1 hF hT hfr hv
      refine m_iload hC 0 dX10_copies_3 rfl ?_
      refine m_bipush hC dX10_copies_5 (by decide) ?_
      refine m_icmp_ge (tgt := 28) hC dX10_copies_7 (by decide) (by first | omega | (simp [hs_at] <;> omega)) (fun c1 => ?_) (fun c1 => ?_)
      · exact m_vret hC dX10_copies_28 hr (by decide) (by decide) (⟨rfl, hT.trans (by rw [show T1 = (fun j => if y ≤ j ∧ j < y + 91 then F (x + (j - y)) else T j) from funext (fun j => by rw [hv j, show k = 91 by omega])]), hfr⟩)
      · refine m_aload_n hC 2 dX10_copies_10 rfl rfl ?_
        refine m_iload_n hC 1 dX10_copies_11 rfl rfl ?_
        refine m_iload hC 0 dX10_copies_12 rfl ?_
        refine m_iadd hC dX10_copies_14 ?_
        refine m_aload_n hC 4 dX10_copies_15 rfl rfl ?_
        refine m_iload_n hC 3 dX10_copies_16 rfl rfl ?_
        refine m_iload hC 0 dX10_copies_17 rfl ?_
        refine m_iadd hC dX10_copies_19 ?_
        refine m_iald hC dX10_copies_20 hF (by omega) (by omega) ?_
        refine m_gst hC dX10_copies_21 hT ha (by omega) (by omega) (fun M2 R3 f4 => ?_)
        have R5 := (f4.2 _ (by omega)).trans hF
        refine m_iinc hC 0 dX10_copies_22 rfl (by decide) rfl ?_
        refine m_goto (tgt := 3) hC dX10_copies_25 (by decide) ?_
        refine m_lvs [0, 1, 2, 3, 4] rfl (ih (k + 1) _ _ (by omega) (by omega) (by omega) R5 R3 (hfr.tr f4) (X_cpv hv h0))
  refine m_lvs [0, 4, 3, 2, 1] rfl (L 92 0 M T (by omega) (by omega) (by omega) hF0 hT0 m_fr.rf (fun j => by rw [if_neg (by omega)]))

set_option maxHeartbeats 4000000 in
set_option maxRecDepth 100000 in
theorem t_X10_holds {D : va_G} {aC : Nat → ClassId} {s0 : State} {l : Launch} (hF : m_F D aC s0) (hl : l.stackTraces = false) {a : Nat} {w g : h_T} {M : m_M} (hV : mmV a w g M) (ha : s0.heap.size ≤ a) (hB : h_B g) {b1 : Int} {b2 : Int} {b3 : Int} {b4 : Int} (q1 : -2147483648 ≤ b1 ∧ b1 < 2147483648) (q2 : -2147483648 ≤ b2 ∧ b2 < 2147483648) (q3 : -2147483648 ≤ b3 ∧ b3 < 2147483648) (q4 : -2147483648 ≤ b4 ∧ b4 < 2147483648) : m_Met D aC s0 l yX10_holds cX10_holds 5 (some .boolean) 0 (0) (0) [.ref a, VI b1, VI b2, VI b3, VI b4] M (fun v M' => v = some (VI (b01 (m_th b1 b2 b3 b4 = 0))) ∧ mmV a (hs w 0 14 (m_th b1 b2 b3 b4)) g M' ∧ m_fr a 10 M M') m_nx := by
  refine m_entry (lv := [(0, .ref a), (1, VI b1), (2, VI b2), (3, VI b3), (4, VI b4)]) (by decide +kernel) (Nat.le_of_ble_eq_true rfl) rfl hF hl ?_
  intro p e s m args below meth c hC hr hno hnm
  change m_C D aC s0 RX10 _ _ _ _ _ _ _ _ _ at hC
  refine m_aload_n hC 0 dX10_holds_0 rfl rfl ?_
  refine m_iload_n hC 1 dX10_holds_1 rfl rfl ?_
  refine m_if_ne (tgt := 9) hC dX10_holds_2 (by decide) (by first | omega | (simp [hs_at] <;> omega)) (fun c1 => ?_) (fun c1 => ?_)
  · refine m_iload_n hC 2 dX10_holds_9 rfl rfl ?_
    refine m_if_ne (tgt := 17) hC dX10_holds_10 (by decide) (by first | omega | (simp [hs_at] <;> omega)) (fun c2 => ?_) (fun c2 => ?_)
    · refine m_iload_n hC 3 dX10_holds_17 rfl rfl ?_
      refine m_if_ne (tgt := 25) hC dX10_holds_18 (by decide) (by first | omega | (simp [hs_at] <;> omega)) (fun c3 => ?_) (fun c3 => ?_)
      · refine m_iload hC 4 dX10_holds_25 rfl ?_
        refine m_if_ne (tgt := 34) hC dX10_holds_27 (by decide) (by first | omega | (simp [hs_at] <;> omega)) (fun c4 => ?_) (fun c4 => ?_)
        · have e : m_th b1 b2 b3 b4 = 0 := by unfold m_th; (repeat' split) <;> omega
          rw [e]
          refine m_iconst hC dX10_holds_34 ?_
          refine m_ws14 hC hV ha dX10_holds_35 kf_X10_44 (fun M1 R2 f3 => ?_)
          refine m_aload_n hC 0 dX10_holds_38 rfl rfl ?_
          refine m_getf hC dX10_holds_39 kf_X10_44 R2.ob rfl ?_
          refine m_dia_if_ne hC dX10_holds_42 dX10_holds_45 dX10_holds_46 dX10_holds_49 rfl rfl (by rw [hs_s]; omega) ?_
          exact m_zret hC dX10_holds_50 hr b01_nz (by decide) (by decide) (⟨congrArg (fun z => some (VI z)) (by rw [hs_s]), R2, f3⟩)
        · have e : m_th b1 b2 b3 b4 = 4 := by unfold m_th; (repeat' split) <;> omega
          rw [e]
          refine m_iconst hC dX10_holds_30 ?_
          refine m_goto (tgt := 35) hC dX10_holds_31 (by decide) ?_
          refine m_ws14 hC hV ha dX10_holds_35 kf_X10_44 (fun M4 R5 f6 => ?_)
          refine m_aload_n hC 0 dX10_holds_38 rfl rfl ?_
          refine m_getf hC dX10_holds_39 kf_X10_44 R5.ob rfl ?_
          refine m_dia_if_ne hC dX10_holds_42 dX10_holds_45 dX10_holds_46 dX10_holds_49 rfl rfl (by rw [hs_s]; omega) ?_
          exact m_zret hC dX10_holds_50 hr b01_nz (by decide) (by decide) (⟨congrArg (fun z => some (VI z)) (by rw [hs_s]), R5, f6⟩)
      · have e : m_th b1 b2 b3 b4 = 3 := by unfold m_th; (repeat' split) <;> omega
        rw [e]
        refine m_iconst hC dX10_holds_21 ?_
        refine m_goto (tgt := 35) hC dX10_holds_22 (by decide) ?_
        refine m_ws14 hC hV ha dX10_holds_35 kf_X10_44 (fun M7 R8 f9 => ?_)
        refine m_aload_n hC 0 dX10_holds_38 rfl rfl ?_
        refine m_getf hC dX10_holds_39 kf_X10_44 R8.ob rfl ?_
        refine m_dia_if_ne hC dX10_holds_42 dX10_holds_45 dX10_holds_46 dX10_holds_49 rfl rfl (by rw [hs_s]; omega) ?_
        exact m_zret hC dX10_holds_50 hr b01_nz (by decide) (by decide) (⟨congrArg (fun z => some (VI z)) (by rw [hs_s]), R8, f9⟩)
    · have e : m_th b1 b2 b3 b4 = 2 := by unfold m_th; (repeat' split) <;> omega
      rw [e]
      refine m_iconst hC dX10_holds_13 ?_
      refine m_goto (tgt := 35) hC dX10_holds_14 (by decide) ?_
      refine m_ws14 hC hV ha dX10_holds_35 kf_X10_44 (fun M10 R11 f12 => ?_)
      refine m_aload_n hC 0 dX10_holds_38 rfl rfl ?_
      refine m_getf hC dX10_holds_39 kf_X10_44 R11.ob rfl ?_
      refine m_dia_if_ne hC dX10_holds_42 dX10_holds_45 dX10_holds_46 dX10_holds_49 rfl rfl (by rw [hs_s]; omega) ?_
      exact m_zret hC dX10_holds_50 hr b01_nz (by decide) (by decide) (⟨congrArg (fun z => some (VI z)) (by rw [hs_s]), R11, f12⟩)
  · have e : m_th b1 b2 b3 b4 = 1 := by unfold m_th; (repeat' split) <;> omega
    rw [e]
    refine m_iconst hC dX10_holds_5 ?_
    refine m_goto (tgt := 35) hC dX10_holds_6 (by decide) ?_
    refine m_ws14 hC hV ha dX10_holds_35 kf_X10_44 (fun M13 R14 f15 => ?_)
    refine m_aload_n hC 0 dX10_holds_38 rfl rfl ?_
    refine m_getf hC dX10_holds_39 kf_X10_44 R14.ob rfl ?_
    refine m_dia_if_ne hC dX10_holds_42 dX10_holds_45 dX10_holds_46 dX10_holds_49 rfl rfl (by rw [hs_s]; omega) ?_
    exact m_zret hC dX10_holds_50 hr b01_nz (by decide) (by decide) (⟨congrArg (fun z => some (VI z)) (by rw [hs_s]), R14, f15⟩)

set_option maxHeartbeats 4000000 in
set_option maxRecDepth 100000 in
theorem t_X10_goes {D : va_G} {aC : Nat → ClassId} {s0 : State} {l : Launch} (hF : m_F D aC s0) (hl : l.stackTraces = false) {a : Nat} {w g : h_T} {M : m_M} (hV : mmV a w g M) (ha : s0.heap.size ≤ a) (hB : h_B g) {z : Int} (hz : -2147483648 ≤ z ∧ z < 2147483648) : m_Met D aC s0 l yX10_goes cX10_goes 2 (some .boolean) 1 (0) (0) [.ref a, VI z] M (fun v M' => v = some (VI (b01 (z ≠ 0))) ∧ mmV a (hs w 0 14 (if z = 0 then 1 else 0)) g M' ∧ m_fr a 10 M M') m_nx := by
  refine m_entry (lv := [(0, .ref a), (1, VI z)]) (by decide +kernel) (Nat.le_of_ble_eq_true rfl) rfl hF hl ?_
  intro p e s m args below meth c hC hr hno hnm
  change m_C D aC s0 RX10 _ _ _ _ _ _ _ _ _ at hC
  refine m_aload_n hC 0 dX10_goes_0 rfl rfl ?_
  refine m_iload_n hC 1 dX10_goes_1 rfl rfl ?_
  refine m_iconst hC dX10_goes_2 ?_
  refine m_iconst hC dX10_goes_3 ?_
  refine m_iconst hC dX10_goes_4 ?_
  refine m_callV hC (t_X10_holds hF hl hV ha hB (b1 := z) (b2 := 1) (b3 := 1) (b4 := 1) hz (by decide) (by decide) (by decide)) dX10_goes_5 kc_X10_holds kV_X10_47 hV.ob rfl rfl rfl rfl (Nat.le_of_ble_eq_true rfl) (by decide) (by decide) m_nox (fun v9 M1 h9 => ?_)
  obtain ⟨rfl, R2, f3⟩ := h9
  exact m_zret hC dX10_goes_8 hr b01_nz (by decide) (by decide) (⟨by rw [b01_c (show m_th z 1 1 1 = 0 ↔ z ≠ 0 by unfold m_th; split <;> simp_all)], by rw [show (if z = 0 then (1 : Int) else 0) = m_th z 1 1 1 by unfold m_th; split <;> simp_all]; exact R2, f3⟩)

set_option maxHeartbeats 4000000 in
set_option maxRecDepth 100000 in
theorem t_X10_thrown {D : va_G} {aC : Nat → ClassId} {s0 : State} {l : Launch} (hF : m_F D aC s0) (hl : l.stackTraces = false) {a : Nat} {w g : h_T} {M : m_M} (hV : mmV a w g M) (ha : s0.heap.size ≤ a) (hB : h_B g)   : m_Met D aC s0 l yX10_thrown cX10_thrown 1 (some .int) 0 (0) (0) [.ref a] M (fun v M' => v = some (VI (w 0 14)) ∧ M' = M) m_nx := by
  refine m_entry (lv := [(0, .ref a)]) (by decide +kernel) (Nat.le_of_ble_eq_true rfl) rfl hF hl ?_
  intro p e s m args below meth c hC hr hno hnm
  change m_C D aC s0 RX10 _ _ _ _ _ _ _ _ _ at hC
  refine m_aload_n hC 0 dX10_thrown_0 rfl rfl ?_
  refine m_getf hC dX10_thrown_1 kf_X10_44 hV.ob rfl ?_
  exact m_iret hC dX10_thrown_4 hr (by decide) (by decide) (⟨rfl, rfl⟩)

def d_sh (A : Int → Int) (x k : Int) : Int → Int := fun j => if x ≤ j ∧ j < k then A (j + 5) else A j
theorem X_dsh {u : h_T} {x k : Int} (h : x ≤ k) : hs (wc u 1 (d_sh (u 1) x k)) 1 k (wc u 1 (d_sh (u 1) x k) 1 (k + 5)) = wc u 1 (d_sh (u 1) x (k + 1)) := by
  funext c j
  rw [hs_at, wc_s]
  unfold wc d_sh
  by_cases q : c = 1
  · subst q
    simp only [if_true, true_and]
    by_cases z : j = k
    · subst z
      rw [if_pos rfl, if_neg (by omega), if_pos (by omega)]
    · rw [if_neg z]
      by_cases y : x ≤ j ∧ j < k
      · rw [if_pos y, if_pos (by omega)]
      · rw [if_neg y, if_neg (by omega)]
  · simp only [q, if_false, false_and]
theorem X_dre {A B : Int → Int} {g : h_T} {p : Int} (hB : h_B g) (h : h_eq (tA A) g) (hp : 0 ≤ p ∧ p < g 0 11) (hb : ∀ j : Int, B j = if j = 11 then A 11 - 1 else if 51 + 5 * p ≤ j ∧ j < 86 then A (j + 5) else A j) : h_eq (tA B) (S_del g p) := by
  have n11 := hB.n11
  have n8 := hB.n8
  have n9 := hB.n9
  have s0 : ∀ k : Int, 0 ≤ k ∧ k < 12 → S_del g p 0 k = if k = 11 then g 0 11 - 1 else g 0 k := fun k hk => by
    unfold S_del
    rw [if_neg (by omega)]
    by_cases q : k = 11
    · rw [if_pos ⟨rfl, q⟩, if_pos q]
    · rw [if_neg (fun z => q z.2), if_neg q]
  refine ⟨fun k hk => ?_, fun c i hc hi => ?_⟩
  · rw [s0 k hk]
    unfold tA
    rw [hb]
    have e : fl 0 k = k := rfl
    rw [e]
    by_cases q : k = 11
    · rw [if_pos q, if_pos q]
      have := h.1 11 (by omega)
      unfold tA at this
      rw [show fl 0 11 = 11 from rfl] at this
      rw [this]
    · rw [if_neg q, if_neg q, if_neg (by omega)]
      exact h.1 k hk
  · by_cases q : 9 ≤ c
    · have hn : h_n (S_del g p) c = g 0 11 - 1 := by
        rw [h_n_co _ q, s0 11 (by omega), if_pos rfl]
      rw [hn] at hi
      unfold tA
      have e9 : S_del g p c i = if i < p then g c i else g c (i + 1) := if_pos ⟨q, hc.2⟩
      rw [hb, fl_co q, if_neg (by omega), e9]
      by_cases z : i < p
      · rw [if_neg (by omega), if_pos z]
        have := h.co (c := c) (i := i) ⟨q, hc.2⟩ (by omega)
        unfold tA at this
        rw [fl_co q] at this
        exact this
      · rw [if_pos (by omega), if_neg z]
        have := h.co (c := c) (i := i + 1) ⟨q, hc.2⟩ (by omega)
        unfold tA at this
        rw [fl_co q] at this
        rw [← this]
        congr 1
        omega
    · have hn : h_n (S_del g p) c = h_n g c := by
        have e8 : S_del g p 0 8 = g 0 8 := by rw [s0 8 (by omega), if_neg (by omega)]
        have e9 : S_del g p 0 9 = g 0 9 := by rw [s0 9 (by omega), if_neg (by omega)]
        simp only [h_n, e8, e9, show c ≤ 8 from by omega, if_true]
      rw [hn] at hi
      have hl : i < h_len c := by
        unfold h_n at hi
        unfold h_len
        (repeat' split at hi) <;> (repeat' split) <;> omega
      have h51 : 12 ≤ fl c i ∧ fl c i < 51 := by
        unfold fl
        unfold h_len at hl
        (repeat' split at hl) <;> (repeat' split) <;> omega
      have e9 : S_del g p c i = g c i := by
        unfold S_del
        rw [if_neg (by omega), if_neg (by omega)]
      unfold tA
      rw [hb, if_neg (by omega), if_neg (by omega), e9]
      exact h.2 c i hc hi
section m_PW
variable {D : va_G} {aC : Nat → ClassId} {s0 : State} {own : String} {cc : ByteArray} {nL : Nat} {p : Program} {l : Launch} {e : Env} {R : Room} {s : State} {m : MethodId} {args : Array Value} {below : List Frame} {meth : Method} {c : Code} {cells slots : Nat} {Q : State → Prop} {pc : Nat} {lv : List (Nat × Value)} {st : List Value} {M : m_M}
theorem m_pw (C : m_C D aC s0 own cc nL l p s m args meth c) {a : Nat} {u : h_T} {i v : Int} (hU : mmP a u M) (ha : s0.heap.size ≤ a) (hd : decode cc pc = .ok (.iastore, 1)) (hi : 0 ≤ i ∧ i < 91) (kk : ∀ M1 : m_M, mmP a (hs u 1 i v) M1 → m_fr a 10 M M1 → m_W D aC s0 nL p l e R s m args below meth c cells slots Q (pc + 1) lv st M1) : m_W D aC s0 nL p l e R s m args below meth c cells slots Q pc lv (VI v :: VI i :: .ref (a + 1) :: st) M := m_iast C hd hU.2.1 (by omega) (by decide) hi (kk _ hU.st1 (m_fr.up (by omega) (by omega)))
end m_PW
theorem X_d0 {a : Nat} {u : h_T} {x : Int} {M : m_M} (h : mmP a u M) : mmP a (wc u 1 (d_sh (u 1) x x)) M := by
  have e : wc u 1 (d_sh (u 1) x x) = u := by
    funext c j
    unfold wc d_sh
    by_cases q : c = 1
    · subst q
      simp only [if_true]
      rw [if_neg (by omega)]
    · rw [if_neg q]
  rw [e]
  exact h
theorem X_dend {a : Nat} {u w g : h_T} {x k : Int} {M : m_M} (hB : h_B g) (h2 : ∀ c, c ≠ 1 → u c = w c) (h3 : h_eq (tA (u 1)) g) (hx : 0 ≤ x ∧ x < g 0 11) (hk : k = 86) (hR : mmP a (hs (wc u 1 (d_sh (u 1) (51 + 5 * x) k)) 1 11 (wc u 1 (d_sh (u 1) (51 + 5 * x) k) 1 11 - 1)) M) : mmV a w (S_del g x) M := by
  refine ⟨_, hR, fun c0 q => ?_, ?_⟩
  · rw [hs_c q, wc_n q]
    exact h2 c0 q
  · refine X_dre (p := x) hB h3 hx (fun j => ?_)
    rw [hs_at, wc_s]
    have q11 : d_sh (u 1) (51 + 5 * x) k 11 = u 1 11 := by unfold d_sh; rw [if_neg (by omega)]
    by_cases q : j = 11
    · rw [if_pos ⟨rfl, q⟩, if_pos q, q11]
    · rw [if_neg (fun z => q z.2), if_neg q, hk]
      rfl
set_option maxHeartbeats 4000000 in
set_option maxRecDepth 100000 in
theorem t_X10_drops {D : va_G} {aC : Nat → ClassId} {s0 : State} {l : Launch} (hF : m_F D aC s0) (hl : l.stackTraces = false) {a : Nat} {w g : h_T} {M : m_M} (hV : mmV a w g M) (ha : s0.heap.size ≤ a) (hB : h_B g) {x : Int} (hx : 0 ≤ x ∧ x < g 0 11) : m_Met D aC s0 l yX10_drops cX10_drops 3 none 0 (0) (0) [.ref a, VI x] M (fun v M' => v = none ∧ mmV a w (S_del g x) M' ∧ m_fr a 10 M M') m_nx := by
  refine m_entry (lv := [(0, .ref a), (1, VI x)]) (by decide +kernel) (Nat.le_of_ble_eq_true rfl) rfl hF hl ?_
  intro p e s m args below meth c hC hr hno hnm
  change m_C D aC s0 RX10 _ _ _ _ _ _ _ _ _ at hC
  have hn11 := hB.n11
  obtain ⟨u, hU0, h2, h3⟩ := hV
  refine m_bipush hC dX10_drops_0 (by decide) ?_
  refine m_iconst hC dX10_drops_2 ?_
  refine m_iload_n hC 1 dX10_drops_3 rfl rfl ?_
  refine m_imul hC dX10_drops_4 ?_
  refine m_iadd hC dX10_drops_5 ?_
  refine m_istore_n hC dX10_drops_6 rfl (by decide) rfl ?_
  have L : ∀ (n : Nat) (k : Int) (M1 : m_M), 86 - k < (n : Int) → 51 + 5 * x ≤ k → k ≤ 86 → mmP a (wc u 1 (d_sh (u 1) (51 + 5 * x) k)) M1 → m_fr a 10 M M1 → m_W D aC s0 3 p l e (m_R 0 (0) (0)) s m args below meth c (0) (0) (m_Q D aC s0 below (fun v M' => v = none ∧ mmV a w (S_del g x) M' ∧ m_fr a 10 M M') m_nx args s (0) (0)) 7 [(2, VI k), (1, VI x), (0, .ref a)] [] M1 := by
    intro n
    induction n with
    | zero =>
      intro k M1 hn h0 h1 hU hfr
      omega
    | succ n ih =>
      intro k M1 hn h0 h1 hU hfr
      refine m_iload_n hC 0 dX10_drops_7 rfl rfl ?_
      refine m_bipush hC dX10_drops_8 (by decide) ?_
      refine m_icmp_ge (tgt := 33) hC dX10_drops_10 (by decide) (by first | omega | (simp [hs_at] <;> omega)) (fun c1 => ?_) (fun c1 => ?_)
      · refine m_aload_n hC 2 dX10_drops_33 rfl rfl ?_
        refine m_getf hC dX10_drops_34 kf_X10_9 hU.1 rfl ?_
        refine m_bipush hC dX10_drops_37 (by decide) ?_
        refine m_dup2 hC dX10_drops_39 rfl rfl ?_
        refine m_iald hC dX10_drops_40 hU.2.1 (by decide) (by decide) ?_
        refine m_iconst hC dX10_drops_41 ?_
        refine m_isub hC dX10_drops_42 ?_
        refine m_pw hC hU ha dX10_drops_43 (by decide) (fun M2 R3 f4 => ?_)
        exact m_vret hC dX10_drops_44 hr (by decide) (by decide) (⟨rfl, X_dend hB h2 h3 hx (by omega) R3, hfr.tr f4⟩)
      · refine m_aload_n hC 2 dX10_drops_13 rfl rfl ?_
        refine m_getf hC dX10_drops_14 kf_X10_9 hU.1 rfl ?_
        refine m_iload_n hC 0 dX10_drops_17 rfl rfl ?_
        refine m_aload_n hC 2 dX10_drops_18 rfl rfl ?_
        refine m_getf hC dX10_drops_19 kf_X10_9 hU.1 rfl ?_
        refine m_iload_n hC 0 dX10_drops_22 rfl rfl ?_
        refine m_iconst hC dX10_drops_23 ?_
        refine m_iadd hC dX10_drops_24 ?_
        refine m_iald hC dX10_drops_25 hU.2.1 (by decide) (by omega) ?_
        refine m_pw hC hU ha dX10_drops_26 (by omega) (fun M5 R6 f7 => ?_)
        refine m_iinc hC 0 dX10_drops_27 rfl (by decide) rfl ?_
        refine m_goto (tgt := 7) hC dX10_drops_30 (by decide) ?_
        refine m_lvs [0, 1, 2] rfl (ih (k + 1) _ (by omega) (by omega) (by omega) (by rw [← X_dsh h0]; exact R6) (hfr.tr f7))
  refine m_lvs [0, 2, 1] rfl (L ((86 - (51 + 5 * x)).toNat + 1) (51 + 5 * x) M (by omega) (by omega) (by omega) (X_d0 hU0) m_fr.rf)

