def lP (a : Nat) (w g : h_T) (t : List Int) (M : m_M) : Prop := ∃ F : Int → Int, mmV a (wc w 8 F) g M ∧ ∀ i : Nat, i < t.length → F (i : Int) = t.getD i 0
theorem lP.ob {a : Nat} {w g : h_T} {t : List Int} {M : m_M} (h : lP a w g t M) : M.2 a = some (m_ob 12 [.ref (a + 1), .ref (a + 2), .ref (a + 3), .ref (a + 4), .ref (a + 5), VI (w 0 5), VI (w 0 6), VI (w 0 7), VI (w 0 8), .ref (a + 6), .ref (a + 7), VI (w 0 11), .ref (a + 8), VI (w 0 13), VI (w 0 14), VI (w 0 15), VI (w 0 16), VI (w 0 17), VI (w 0 18), .ref (a + 9)]) := by
  obtain ⟨F, h, -⟩ := h
  exact h.ob
theorem X_put {a : Nat} {w g : h_T} {t : List Int} {M : m_M} {F : Int → Int} {x y : Int} (hT : ∀ i : Nat, i < t.length → F (i : Int) = t.getD i 0) (hx : x = (t.length : Int)) (hV : mmV a (hs (wc w 8 F) 8 x y) g M) : lP a w g (t ++ [y]) M := by
  refine ⟨m_ug F x y, ?_, fun i hi => ?_⟩
  · have e : hs (wc w 8 F) 8 x y = wc w 8 (m_ug F x y) := by
      funext c j
      rw [hs_at]
      unfold wc m_ug
      by_cases q : c = 8
      · subst q
        simp
      · simp [q]
    rw [e] at hV
    exact hV
  · unfold m_ug
    simp only [List.length_append, List.length_singleton] at hi
    by_cases q : i = t.length
    · rw [if_pos (by omega), q]
      simp
    · rw [if_neg (by omega), hT i (by omega)]
      simp [List.getD, List.getElem?_append_left (show i < t.length by omega)]
def pw (u : Nat) : Prop := ∃ j : Nat, u = 10 ^ j
theorem pw.pos {u : Nat} (h : pw u) : 0 < u := by
  obtain ⟨j, rfl⟩ := h
  exact Nat.pow_pos (by decide)
theorem pw.up {u : Nat} (h : pw u) : pw (u * 10) := by
  obtain ⟨j, rfl⟩ := h
  exact ⟨j + 1, by rw [Nat.pow_succ]⟩
theorem pw.dn {u : Nat} (h : pw u) (h1 : u ≠ 1) : ∃ v, pw v ∧ u = v * 10 := by
  obtain ⟨j, rfl⟩ := h
  cases j with
  | zero => exact absurd rfl h1
  | succ j => exact ⟨10 ^ j, ⟨j, rfl⟩, by rw [Nat.pow_succ]⟩
theorem pw.lt {u v : Nat} (h : pw u) (h2 : pw v) (hl : u < v) : u * 10 ≤ v := by
  obtain ⟨j, rfl⟩ := h
  obtain ⟨k, rfl⟩ := h2
  by_cases q : k ≤ j
  · have := Nat.pow_le_pow_right (show 0 < 10 by decide) q
    omega
  · rw [← Nat.pow_succ]
    exact Nat.pow_le_pow_right (by decide) (by omega)
def wT (t : List Int) (N U l : Nat) : List Int := t ++ (if l = U then [] else S_dig (N / (l * 10)))
theorem wT_s {t : List Int} {N U l : Nat} (hU : pw U) (hl : pw l) (hle : l ≤ U) (h9 : N / U ≤ 9) (hN : U = 1 ∨ U ≤ N) : wT t N U l ++ [48 + ((N / l % 10 : Nat) : Int)] = t ++ S_dig (N / l) := by
  unfold wT
  by_cases q : l = U
  · subst q
    rw [if_pos rfl, List.append_nil, S_dig_lo (by omega), Nat.mod_eq_of_lt (by omega)]
  · rw [if_neg q]
    have h1 := hl.lt hU (by omega)
    have hp := hl.pos
    have h2 : 10 ≤ N / l := (Nat.le_div_iff_mul_le hp).mpr (by omega)
    rw [S_dig_hi h2, Nat.div_div_eq_div_mul, List.append_assoc]
    rfl
theorem X_nd {N u : Nat} : ((N : Int) / (u : Int)) = ((N / u : Nat) : Int) := (Int.natCast_ediv N u).symm
theorem X_nm {N u : Nat} : ((N : Int) % (u : Int)) = ((N % u : Nat) : Int) := (Int.natCast_emod N u).symm
set_option maxHeartbeats 4000000 in
set_option maxRecDepth 100000 in
theorem t_X10_put {D : va_G} {aC : Nat → ClassId} {s0 : State} {l : Launch} (hF : m_F D aC s0) (hl : l.stackTraces = false) {a : Nat} {w g : h_T} {t : List Int} {M : m_M} (hL : lP a w g t M) (ha : s0.heap.size ≤ a) {x : Int} {y : Int} (hx : x = (t.length : Int)) (hx2 : x < 240) : m_Met D aC s0 l yX10_put cX10_put 3 (some .int) 0 (0) (0) [.ref a, VI x, VI y] M (fun v M' => v = some (VI (((t ++ [y]).length : Nat) : Int)) ∧ lP a w g (t ++ [y]) M' ∧ m_fr a 10 M M') m_nx := by
  refine m_entry (lv := [(0, .ref a), (1, VI x), (2, VI y)]) (by decide +kernel) (Nat.le_of_ble_eq_true rfl) rfl hF hl ?_
  intro p e s m args below meth c hC hr hno hnm
  change m_C D aC s0 RX10 _ _ _ _ _ _ _ _ _ at hC
  obtain ⟨F, hV, hT⟩ := hL
  refine m_aload_n hC 0 dX10_put_0 rfl rfl ?_
  refine m_getf hC dX10_put_1 kf_X10_38 hV.ob rfl ?_
  refine m_iload_n hC 1 dX10_put_4 rfl rfl ?_
  refine m_iload_n hC 2 dX10_put_5 rfl rfl ?_
  refine m_w8 hC hV ha dX10_put_6 (by omega) (fun M1 R2 f3 => ?_)
  refine m_iload_n hC 1 dX10_put_7 rfl rfl ?_
  refine m_iconst hC dX10_put_8 ?_
  refine m_iadd hC dX10_put_9 ?_
  exact m_iret hC dX10_put_10 hr (by decide) (by decide) (⟨by rw [hx]; simp, X_put hT hx R2, f3⟩)

theorem X_hz0 {P Q : Prop} {z : Nat} (h : (z = 0 ∧ P) ∨ (pw z ∧ Q)) (c : z = 0) : P := by
  rcases h with h | h
  · exact h.2
  · have := h.1.pos
    omega
theorem X_hz1 {P Q : Prop} {z : Nat} (h : (z = 0 ∧ P) ∨ (pw z ∧ Q)) (c : 0 < z) : pw z ∧ Q := by
  rcases h with h | h
  · omega
  · exact h
theorem X_wl9 {t : List Int} {N U l : Nat} (h : N < 1000000000) : (wT t N U l).length ≤ t.length + 10 := by
  unfold wT
  rw [List.length_append]
  split
  · simp
  · have := S_dig_le (z := N / (l * 10)) (Nat.lt_of_le_of_lt (Nat.div_le_self _ _) h)
    omega
theorem X_wn {t t1 : List Int} {N U z : Nat} (hU : pw U) (hz : pw z) (h9 : N / U ≤ 9) (hN : U = 1 ∨ U ≤ N) (hle : z ≤ U) (ht : t1 = wT t N U z) : (z / 10 = 0 ∧ t1 ++ [48 + ((N / z % 10 : Nat) : Int)] = t ++ S_dig N) ∨ (pw (z / 10) ∧ z / 10 ≤ U ∧ t1 ++ [48 + ((N / z % 10 : Nat) : Int)] = wT t N U (z / 10)) := by
  rw [ht, wT_s hU hz hle h9 hN]
  by_cases q : z = 1
  · subst q
    exact Or.inl ⟨rfl, by rw [Nat.div_one]⟩
  · obtain ⟨v, hv, rfl⟩ := hz.dn q
    have hp := hv.pos
    have e : v * 10 / 10 = v := Nat.mul_div_cancel v (by decide)
    rw [e]
    refine Or.inr ⟨hv, by omega, ?_⟩
    unfold wT
    rw [if_neg (by omega)]
set_option maxHeartbeats 4000000 in
set_option maxRecDepth 100000 in
theorem t_X10_writesNumber {D : va_G} {aC : Nat → ClassId} {s0 : State} {l : Launch} (hF : m_F D aC s0) (hl : l.stackTraces = false) {a : Nat} {w g : h_T} {t : List Int} {M : m_M} (hL : lP a w g t M) (ha : s0.heap.size ≤ a) {x : Int} {y : Int} (hx : x = (t.length : Int)) (hx2 : x + 11 ≤ 240) (hy : 0 ≤ y ∧ y < 1000000000) : m_Met D aC s0 l yX10_writesNumber cX10_writesNumber 6 (some .int) 1 (0) (0) [.ref a, VI x, VI y] M (fun v M' => v = some (VI (((t ++ S_dig y.toNat).length : Nat) : Int)) ∧ lP a w g (t ++ S_dig y.toNat) M' ∧ m_fr a 10 M M') m_nx := by
  refine m_entry (lv := [(0, .ref a), (1, VI x), (2, VI y)]) (by decide +kernel) (Nat.le_of_ble_eq_true rfl) rfl hF hl ?_
  intro p e s m args below meth c hC hr hno hnm
  change m_C D aC s0 RX10 _ _ _ _ _ _ _ _ _ at hC
  refine m_iload_n hC 1 dX10_writesNumber_0 rfl rfl ?_
  refine m_istore_n hC dX10_writesNumber_1 rfl (by decide) rfl ?_
  refine m_iconst hC dX10_writesNumber_2 ?_
  refine m_istore hC dX10_writesNumber_3 (by decide) rfl ?_
  have L1 : ∀ (n : Nat) (u : Nat), (y.toNat : Int) + 1 - (u : Int) < (n : Int) → pw u → u = 1 ∨ u ≤ y.toNat → m_W D aC s0 6 p l e (m_R 1 (0) (0)) s m args below meth c (0) (0) (m_Q D aC s0 below (fun v M' => v = some (VI (((t ++ S_dig y.toNat).length : Nat) : Int)) ∧ lP a w g (t ++ S_dig y.toNat) M' ∧ m_fr a 10 M M') m_nx args s (0) (0)) 5 [(4, VI (u : Int)), (3, VI x), (2, VI y), (1, VI x), (0, .ref a)] [] M := by
    intro n
    induction n with
    | zero =>
      intro u hn hu huN
      omega
    | succ n ih =>
      intro u hn hu huN
      have hup := hu.pos
      have huq : y.toNat / u ≤ y.toNat := Nat.div_le_self _ u
      refine m_iload_n hC 2 dX10_writesNumber_5 rfl rfl ?_
      refine m_iload hC 0 dX10_writesNumber_6 rfl ?_
      refine m_idiv hC dX10_writesNumber_8 (by omega) ?_
      obtain ⟨dq, hdq⟩ : ∃ d : Nat, d = y.toNat / u := ⟨_, rfl⟩
      rw [show y / (u : Int) = (dq : Int) by rw [hdq, ← X_nd, Int.toNat_of_nonneg hy.1]]
      rw [← hdq] at huq
      refine m_bipush hC dX10_writesNumber_9 (by decide) ?_
      refine m_icmp_le (tgt := 24) hC dX10_writesNumber_11 (by decide) (by first | omega | (simp [hs_at] <;> omega)) (fun c9 => ?_) (fun c9 => ?_)
      · subst hx
        have hU9 : y.toNat / u ≤ 9 := by rw [← hdq]; omega
        refine m_iload hC 0 dX10_writesNumber_24 rfl ?_
        refine m_istore hC dX10_writesNumber_26 (by decide) rfl ?_
        have L2 : ∀ (n2 : Nat) (z : Nat) (t1 : List Int) (M1 : m_M), (z : Int) < (n2 : Int) → lP a w g t1 M1 → m_fr a 10 M M1 → (z = 0 ∧ t1 = t ++ S_dig y.toNat) ∨ (pw z ∧ z ≤ u ∧ t1 = wT t y.toNat u z) → m_W D aC s0 6 p l e (m_R 1 (0) (0)) s m args below meth c (0) (0) (m_Q D aC s0 below (fun v M' => v = some (VI (((t ++ S_dig y.toNat).length : Nat) : Int)) ∧ lP a w g (t ++ S_dig y.toNat) M' ∧ m_fr a 10 M M') m_nx args s (0) (0)) 28 [(5, VI (z : Int)), (4, VI (u : Int)), (3, VI ((t1.length : Nat) : Int)), (2, VI y), (1, VI ((t.length : Nat) : Int)), (0, .ref a)] [] M1 := by
          intro n2
          induction n2 with
          | zero =>
            intro z t1 M1 hn2 hL2 hfr hz
            omega
          | succ n2 ih2 =>
            intro z t1 M1 hn2 hL2 hfr hz
            refine m_iload hC 0 dX10_writesNumber_28 rfl ?_
            refine m_if_le (tgt := 59) hC dX10_writesNumber_30 (by decide) (by first | omega | (simp [hs_at] <;> omega)) (fun c30 => ?_) (fun c30 => ?_)
            · have hze : t1 = t ++ S_dig y.toNat := X_hz0 hz (by omega)
              refine m_iload_n hC 2 dX10_writesNumber_59 rfl rfl ?_
              exact m_iret hC dX10_writesNumber_60 hr (by decide) (by decide) (⟨by rw [hze], by rw [← hze]; exact hL2, hfr.tr m_fr.rf⟩)
            · obtain ⟨hzp, hzl, hzt⟩ : pw z ∧ z ≤ u ∧ t1 = wT t y.toNat u z := X_hz1 hz (by omega)
              have hzq : y.toNat / z ≤ y.toNat := Nat.div_le_self _ z
              have hlen : t1.length ≤ t.length + 10 := by rw [hzt]; exact X_wl9 (by omega)
              refine m_aload_n hC 5 dX10_writesNumber_33 rfl rfl ?_
              refine m_iload_n hC 2 dX10_writesNumber_34 rfl rfl ?_
              refine m_bipush hC dX10_writesNumber_35 (by decide) ?_
              refine m_iload_n hC 3 dX10_writesNumber_37 rfl rfl ?_
              refine m_iload hC 0 dX10_writesNumber_38 rfl ?_
              refine m_idiv hC dX10_writesNumber_40 (by have := hzp.pos; omega) ?_
              obtain ⟨dz, hdz⟩ : ∃ d : Nat, d = y.toNat / z := ⟨_, rfl⟩
              rw [show y / (z : Int) = (dz : Int) by rw [hdz, ← X_nd, Int.toNat_of_nonneg hy.1]]
              rw [← hdz] at hzq
              refine m_bipush hC dX10_writesNumber_41 (by decide) ?_
              refine m_irem hC dX10_writesNumber_43 (by omega) ?_
              refine m_iadd hC dX10_writesNumber_44 ?_
              refine m_callV hC (t_X10_put hF hl hL2 ha (x := ((t1.length : Nat) : Int)) (y := 48 + ((dz % 10 : Nat) : Int)) rfl (by omega)) dX10_writesNumber_45 kc_X10_put kV_X10_195 hL2.ob rfl rfl rfl rfl (Nat.le_of_ble_eq_true rfl) (by decide) (by decide) m_nox (fun v9 M1 h9 => ?_)
              obtain ⟨rfl, R2, f3⟩ := h9
              refine m_istore_n hC dX10_writesNumber_48 rfl (by decide) rfl ?_
              refine m_iload hC 1 dX10_writesNumber_49 rfl ?_
              refine m_bipush hC dX10_writesNumber_51 (by decide) ?_
              refine m_idiv hC dX10_writesNumber_53 (by omega) ?_
              refine m_istore hC dX10_writesNumber_54 (by decide) rfl ?_
              refine m_goto (tgt := 28) hC dX10_writesNumber_56 (by decide) ?_
              refine m_lvs [0, 2, 1, 3, 4, 5] rfl (ih2 (z / 10) _ _ (by omega) R2 (hfr.tr f3) (by rw [hdz]; exact X_wn hu hzp hU9 huN hzl hzt))
        refine m_lvs [0, 1, 2, 3, 4, 5] rfl (L2 (u + 1) u t M (by omega) hL m_fr.rf (Or.inr ⟨hu, Nat.le_refl _, by simp [wT]⟩))
      · have h10 : u * 10 ≤ y.toNat := by have := (Nat.le_div_iff_mul_le hup).mp (show 10 ≤ y.toNat / u by rw [← hdq]; omega); omega
        refine m_iload hC 0 dX10_writesNumber_14 rfl ?_
        refine m_bipush hC dX10_writesNumber_16 (by decide) ?_
        refine m_imul hC dX10_writesNumber_18 ?_
        refine m_istore hC dX10_writesNumber_19 (by decide) rfl ?_
        refine m_goto (tgt := 5) hC dX10_writesNumber_21 (by decide) ?_
        refine m_lvs [0, 1, 2, 3, 4] rfl (ih (u * 10) (by omega) hu.up (Or.inr (by omega)))
  refine m_lvs [0, 1, 4, 3, 2] rfl (L1 (y.toNat + 2) 1 (by omega) ⟨0, rfl⟩ (Or.inl rfl))

