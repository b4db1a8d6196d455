def d4 (m : Int) (g : h_T) : h_T := hs g 0 4 (g 0 4 + m)
theorem d4_0 {g : h_T} : d4 0 g = g := by
  funext c i
  unfold d4
  rw [hs_at]
  by_cases q : c = 0 ∧ i = 4
  · rw [if_pos q, q.1, q.2, Int.add_zero]
  · rw [if_neg q]
theorem S_sweep_4 {g : h_T} {v p : Int} : S_sweep (hs g 0 4 v) p = hs (S_sweep g p) 0 4 v :=
  show hs (hs g 0 4 v) 1 (g 11 p) (max (g 1 (g 11 p) - (10 + S_great g)) 0) = _ from hs_cm (Or.inl (by decide))
theorem S_pay_4 {g : h_T} {v x w : Int} : S_pay (hs g 0 4 v) x w = hs (S_pay g x w) 0 4 v := by
  have key : ∀ A B C E : Int, hs (hs (hs (hs (hs g 0 4 v) 0 6 A) 0 1 B) 6 x C) 5 x E = hs (hs (hs (hs (hs g 0 6 A) 0 1 B) 6 x C) 5 x E) 0 4 v := by
    intro A B C E
    rw [hs_cm (g := g) (c := 0) (i := 4) (c' := 0) (i' := 6) (Or.inr (by decide)), hs_cm (c := 0) (i := 4) (c' := 0) (i' := 1) (Or.inr (by decide)), hs_cm (c := 0) (i := 4) (c' := 6) (Or.inl (by decide)), hs_cm (c := 0) (i := 4) (c' := 5) (Or.inl (by decide))]
  exact key _ _ _ _
theorem S_del_4 {g : h_T} {v p : Int} : S_del (hs g 0 4 v) p = hs (S_del g p) 0 4 v := by
  funext c i
  by_cases q : c = 0
  · subst q
    rw [hs_at]
    by_cases z : i = 4
    · subst z
      rw [if_pos ⟨rfl, rfl⟩, S_del_n (by decide), hs_s]
    · rw [if_neg (fun y => z y.2)]
      by_cases y : i = 11
      · subst y
        simp [S_del, hs_at]
      · rw [S_del_n y, S_del_n y, hs_i z]
  · rw [hs_c q]
    unfold S_del
    simp only [hs_at, q, false_and, if_false]
theorem S_dm_4 {g : h_T} {v x p : Int} : S_dm (hs g 0 4 v) x p = hs (S_dm g x p) 0 4 v := by
  unfold S_dm
  rw [S_sweep_4, S_pay_4, S_del_4]
  rfl
theorem S_do_d4 {m : Int} {g : h_T} {x p : Int} : S_do (d4 m g) x p = d4 (m + 1) (S_dm g x p) := by
  have e : S_do (d4 m g) x p = hs (S_dm (d4 m g) x p) 0 4 (d4 m g 0 4 + 1) := rfl
  rw [e]
  unfold d4
  rw [S_dm_4, hs_ss, hs_s, S_dm_n (by decide), if_neg (by decide), Int.add_assoc]
theorem S_work_d4 {x : Int} : ∀ (n : Nat) (m : Int) (g : h_T) (e : Int), S_work x n (d4 m g) e = d4 (m + S_wc x n g e) (S_wm x n g e) := by
  intro n
  induction n with
  | zero =>
    intro m g e
    show d4 m g = d4 (m + 0) g
    rw [Int.add_zero]
  | succ n ih =>
    intro m g e
    have e1 : S_first (d4 m g) x = S_first g x := rfl
    have e2 : (d4 m g) 13 (S_first g x) = g 13 (S_first g x) := rfl
    rw [S_work, S_wm, S_wc, e1, e2]
    by_cases q : S_first g x = -1 ∨ e < g 13 (S_first g x)
    · rw [if_pos q, if_pos q, if_pos q, Int.add_zero]
    · rw [if_neg q, if_neg q, if_neg q, S_do_d4, ih]
      congr 1
      omega
def S_turnm (g : h_T) (x : Int) : h_T := if g 8 x = 0 then S_wm x 8 (hs g 7 x 0) (S_energy (hs g 7 x 0) x) else hs g 7 x (g 7 x + 1)
def S_turnc (g : h_T) (x : Int) : Int := if g 8 x = 0 then S_wc x 8 (hs g 7 x 0) (S_energy (hs g 7 x 0) x) else 0
def S_tm (g : h_T) : Nat → h_T
  | 0 => g
  | k + 1 => S_turnm (S_tm g k) (k : Int)
def S_tc (g : h_T) : Nat → Int
  | 0 => 0
  | k + 1 => S_tc g k + S_turnc (S_tm g k) (k : Int)
theorem S_turn_d4 {m : Int} {g : h_T} {x : Int} : S_turn (d4 m g) x = d4 (m + S_turnc g x) (S_turnm g x) := by
  have e8 : d4 m g 8 x = g 8 x := rfl
  have e7 : ∀ v : Int, hs (d4 m g) 7 x v = d4 m (hs g 7 x v) := fun v => hs_cm (Or.inl (by decide))
  unfold S_turn S_turnm S_turnc
  rw [e8]
  by_cases q : g 8 x = 0
  · rw [if_pos q, if_pos q, if_pos q, e7, S_work_d4]
    rfl
  · rw [if_neg q, if_neg q, if_neg q, e7, Int.add_zero]
    rfl
theorem S_turns_d4 {g : h_T} : ∀ k : Nat, S_turns g k = d4 (S_tc g k) (S_tm g k) := by
  intro k
  induction k with
  | zero => exact d4_0.symm
  | succ k ih =>
    rw [S_turns, ih, S_turn_d4]
    rfl
theorem S_wm_k {x j : Int} (hj : j ≠ 6 ∧ j ≠ 1 ∧ j ≠ 11) : ∀ (n : Nat) (g : h_T) (e : Int), S_wm x n g e 0 j = g 0 j := by
  intro n
  induction n with
  | zero => intro g e; rfl
  | succ n ih =>
    intro g e
    rw [S_wm]
    split
    · rfl
    · rw [ih, S_dm_n ⟨hj.1, hj.2.1⟩, if_neg hj.2.2]
theorem S_tm_k {g : h_T} {j : Int} (hj : j ≠ 6 ∧ j ≠ 1 ∧ j ≠ 11) : ∀ k : Nat, S_tm g k 0 j = g 0 j := by
  intro k
  induction k with
  | zero => rfl
  | succ k ih =>
    rw [S_tm]
    unfold S_turnm
    split
    · rw [S_wm_k hj]
      exact ih
    · exact ih
theorem h_BK.tm {K : Int} {g : h_T} (h : h_BK K g) (k : Nat) (hk : (k : Int) ≤ g 0 9) : h_BK (K + 401 * k) (S_tm g k) := by
  have h1 := (h.turns k hk).1
  rw [S_turns_d4] at h1
  have h2 := h1.st0 (i := 4) (v := S_tm g k 0 4) (by decide) (by rw [S_tm_k (by decide)]; have := h.s 4 (by omega); omega)
  have e : hs (d4 (S_tc g k) (S_tm g k)) 0 4 (S_tm g k 0 4) = S_tm g k := by
    funext c i
    unfold d4
    rw [hs_ss, hs_at]
    by_cases q : c = 0 ∧ i = 4
    · rw [if_pos q, q.1, q.2]
    · rw [if_neg q]
  rw [e] at h2
  exact h2
/-- growth, row by row -/
def S_gn (T : h_T) (k : Nat) : h_T := if T 0 0 % 7 = 0 then S_grow T k else T
theorem S_grow1_o {g : h_T} {x : Int} {c : Nat} (h : c ≠ 0 ∧ c ≠ 6) : S_grow1 g x c = g c := by
  unfold S_grow1
  split
  · rw [hs_c h.2, hs_c h.1]
  · rfl
theorem S_grow_oc {g : h_T} {c : Nat} (h : c ≠ 0 ∧ c ≠ 6) : ∀ k : Nat, S_grow g k c = g c := by
  intro k
  induction k with
  | zero => rfl
  | succ k ih => rw [S_grow, S_grow1_o h, ih]
theorem S_gn_oc {g : h_T} {c : Nat} (h : c ≠ 0 ∧ c ≠ 6) (k : Nat) : S_gn g k c = g c := by
  unfold S_gn
  split
  · exact S_grow_oc h k
  · rfl
theorem S_gn_n {g : h_T} {j : Int} (h : j ≠ 7) (k : Nat) : S_gn g k 0 j = g 0 j := by
  unfold S_gn
  split
  · exact S_grow_n h k
  · rfl
theorem h_BK.gn {K : Int} {g : h_T} (h : h_BK K g) (k : Nat) (hk : (k : Int) ≤ g 0 9) : h_BK (K + 1000 * k) (S_gn g k) := by
  unfold S_gn
  split
  · exact (h.grow k hk).1
  · exact h.mono (by omega)
theorem S_grow1_4 {m : Int} {g : h_T} {x : Int} : S_grow1 (d4 m g) x = d4 m (S_grow1 g x) := by
  have e6 : d4 m g 6 x = g 6 x := rfl
  unfold S_grow1
  rw [e6]
  by_cases q : 0 < g 6 x
  · rw [if_pos q, if_pos q]
    show hs (hs (hs g 0 4 (g 0 4 + m)) 0 7 (g 0 7 + (S_grown (g 6 x) - g 6 x))) 6 x (S_grown (g 6 x)) = _
    rw [hs_cm (g := g) (c := 0) (i := 4) (c' := 0) (i' := 7) (Or.inr (by decide)), hs_cm (c := 0) (i := 4) (c' := 6) (Or.inl (by decide))]
    rfl
  · rw [if_neg q, if_neg q]
theorem S_grow_4 {m : Int} {g : h_T} : ∀ k : Nat, S_grow (d4 m g) k = d4 m (S_grow g k) := by
  intro k
  induction k with
  | zero => rfl
  | succ k ih => rw [S_grow, ih, S_grow1_4]; rfl
theorem S_rw_hs {g : h_T} {L : List (Nat → Int)} {c : Nat} {i v : Int} (h : (1 ≤ c ∧ c ≤ 8) ∨ (c = 0 ∧ i ≠ 5 ∧ i ≠ 11)) : hs (S_rw g L) c i v = S_rw (hs g c i v) L := by
  funext c' j
  rw [hs_at]
  unfold S_rw
  by_cases q : c' = c ∧ j = i
  · obtain ⟨rfl, rfl⟩ := q
    rw [if_pos ⟨rfl, rfl⟩, if_neg (by omega), if_neg (by omega), if_neg (by omega), hs_s]
  · rw [if_neg q, (show hs g c i v 0 5 = g 0 5 from if_neg (by omega)), (show hs g c i v 0 11 = g 0 11 from if_neg (by omega)), (show hs g c i v c' j = g c' j from if_neg q)]
theorem S_grow1_rw {g : h_T} {L : List (Nat → Int)} {x : Int} : S_grow1 (S_rw g L) x = S_rw (S_grow1 g x) L := by
  unfold S_grow1
  rw [S_rw_c (c := 6) (by decide), S_rw_n (k := 7) (by decide)]
  by_cases q : 0 < g 6 x
  · rw [if_pos q, if_pos q, S_rw_hs (Or.inr (by decide)), S_rw_hs (Or.inl (by decide))]
  · rw [if_neg q, if_neg q]
theorem S_grow_rw {g : h_T} {L : List (Nat → Int)} : ∀ k : Nat, S_grow (S_rw g L) k = S_rw (S_grow g k) L := by
  intro k
  induction k with
  | zero => rfl
  | succ k ih => rw [S_grow, ih, S_grow1_rw]; rfl
theorem d4_rw {g : h_T} {L : List (Nat → Int)} {m : Int} : d4 m (S_rw g L) = S_rw (d4 m g) L := by
  unfold d4
  rw [S_rw_n (k := 4) (by decide), S_rw_hs (Or.inr (by decide))]
theorem h_eq.d4 {t g : h_T} (h : h_eq t g) (m : Int) : h_eq (d4 m t) (d4 m g) := by
  have e := h.s 4 (by omega)
  have h2 := h.st (c := 0) (i := 4) (v := t 0 4 + m) (Or.inr (by decide))
  show h_eq (hs t 0 4 (t 0 4 + m)) (hs g 0 4 (g 0 4 + m))
  rw [← e]
  exact h2
theorem h_eq.grow {t g : h_T} (h : h_eq t g) : ∀ k : Nat, (k : Int) ≤ g 0 9 → h_eq (S_grow t k) (S_grow g k) := by
  intro k
  induction k with
  | zero => intro _; exact h
  | succ k ih =>
    intro hk
    have h1 := ih (by omega)
    have n9 : S_grow g k 0 9 = g 0 9 := S_grow_n (by decide) k
    have e6 : S_grow t k 6 (k : Int) = S_grow g k 6 (k : Int) := h1.go (c := 6) (by decide) (by rw [n9]; omega)
    have e7 := h1.s 7 (by omega)
    rw [S_grow, S_grow]
    unfold S_grow1
    rw [e6, e7]
    by_cases q : 0 < S_grow g k 6 (k : Int)
    · rw [if_pos q, if_pos q]
      exact (h1.st (Or.inr (by decide))).st (Or.inl (by decide))
    · rw [if_neg q, if_neg q]
      exact h1
def S_ln (T : h_T) (k : Int) : List (Nat → Int) := (cR T).filter (fun r => decide (¬ (r 10 < k ∧ 3 ≤ T 7 (r 10))))
theorem X_ln0 {T : h_T} (h : rOK T (cR T)) : S_ln T 0 = cR T := by
  unfold S_ln
  rw [List.filter_eq_self]
  intro r hr
  have := h.2 r hr
  simp
  omega
theorem X_ln1 {T : h_T} {k : Int} (h : 3 ≤ T 7 k) : (S_ln T k).filter (fun r => decide (r 10 ≠ k)) = S_ln T (k + 1) := by
  unfold S_ln
  rw [List.filter_filter]
  refine List.filter_congr (fun r _ => ?_)
  rw [← Bool.decide_and]
  refine decide_eq_decide.mpr ⟨fun ⟨q1, q2⟩ z => ?_, fun z => ⟨fun q => z ⟨by omega, by rw [q]; exact h⟩, fun q => z ⟨by omega, q.2⟩⟩⟩
  exact q2 ⟨by omega, z.2⟩
theorem X_ln2 {T : h_T} {k : Int} (h : ¬ 3 ≤ T 7 k) : S_ln T k = S_ln T (k + 1) := by
  unfold S_ln
  refine List.filter_congr (fun r _ => ?_)
  refine decide_eq_decide.mpr ⟨fun q z => ?_, fun q z => q ⟨by omega, z.2⟩⟩
  by_cases y : r 10 = k
  · exact h (by rw [← y]; exact z.2)
  · exact q ⟨by omega, z.2⟩
theorem X_lnn {T : h_T} (h : rOK T (cR T)) : S_ln T (T 0 9) = (cR T).filter (fun r => decide (¬ 3 ≤ T 7 (r 10))) := by
  unfold S_ln
  refine List.filter_congr (fun r hr => ?_)
  have := h.2 r hr
  exact decide_eq_decide.mpr ⟨fun q z => q ⟨by omega, z⟩, fun q z => q z.2⟩
theorem rOK.ln {T : h_T} (h : rOK T (cR T)) (k : Int) : rOK T (S_ln T k) := h.sub (List.length_filter_le _ _) (fun r hr => (List.mem_filter.mp hr).1)
theorem rOK.of {T G : h_T} {L : List (Nat → Int)} (h : rOK T L) (h9 : G 0 9 = T 0 9) (h11 : G 0 11 = T 0 11) : rOK G L := by
  unfold rOK
  rw [h9, h11]
  exact h
/-- a night of the reference is a night -/
theorem X_night {g T : h_T} {K m : Int} {n : Nat} (hg : h_BK K g) (hK : K ≤ 80000000) (hn : n = (g 0 9).toNat) (hT : T = S_tm (S_n1 g) n) (hm : m = S_tc (S_n1 g) n) : h_eq (S_rw (d4 m (S_gn T n)) (S_ln T (T 0 9))) (S_night g) ∧ S_night g 0 4 = g 0 4 + m := by
  have h1 := hg.n1
  have g9 := hg.n9
  have e9 : S_n1 g 0 9 = g 0 9 := h1.2.1
  have hTB : h_BK (K + 1 + 401 * n) T := by rw [hT]; exact h1.1.tm n (by omega)
  have T9 : T 0 9 = g 0 9 := by rw [hT, S_tm_k (by decide), e9]
  have hr := rOK.ofc hTB (by omega)
  have e2 : S_n2 g = d4 m T := by
    unfold S_n2
    rw [S_turns_d4, e9, ← hn, ← hT, ← hm]
  have n11 := hTB.n11
  have h3 : h_eq (S_n3 g) (S_rw (d4 m T) (S_ln T (T 0 9))) := by
    unfold S_n3
    rw [e2]
    have hl : (cR T).length = (d4 m T 0 11).toNat := by
      show _ = (T 0 11).toNat
      simp [cR]
    have hi := (X_rwi n11.1).d4 m
    rw [d4_rw] at hi
    have := X_brk (g := d4 m T) (d4 m T 0 11).toNat (cR T) [] (d4 m T) hl (by rw [List.append_nil]; exact hi) (fun r hr9 => by have := hr.2 r hr9; exact ⟨this.2.2.1, this.2.2.2.1⟩)
    rw [List.append_nil] at this
    rw [X_lnn hr]
    exact this
  have k0 : S_n3 g 0 0 = T 0 0 := (h3.s 0 (by omega)).trans (by rw [S_rw_n (by decide)]; rfl)
  have k9 : S_n3 g 0 9 = T 0 9 := (h3.s 9 (by omega)).trans (by rw [S_rw_n (by decide)]; rfl)
  have h4 : h_eq (S_night g) (S_rw (d4 m (S_gn T n)) (S_ln T (T 0 9))) := by
    unfold S_night S_gn
    rw [k0, k9, T9, ← hn]
    rw [T9] at h3
    by_cases q : T 0 0 % 7 = 0
    · rw [if_pos q, if_pos q]
      have h5 := h3.grow n (by rw [S_rw_n (by decide)]; show (n : Int) ≤ T 0 9; omega)
      rw [S_grow_rw, S_grow_4] at h5
      exact h5
    · rw [if_neg q, if_neg q]
      exact h3
  refine ⟨h4.sym, (h4.s 4 (by omega)).trans ?_⟩
  rw [S_rw_n (by decide)]
  show d4 m (S_gn T n) 0 4 = _
  unfold d4
  rw [hs_s, S_gn_n (by decide), hT, S_tm_k (by decide)]
  have : S_n1 g 0 4 = g 0 4 := S_n1_n (by decide)
  rw [this]
