/-! what nights do to open contracts: those of goblins awake go only when they are done -/
theorem S_pos_no {h : h_T} {id : Int} (h0 : 0 ≤ h 0 11) : S_pos h id = -1 ↔ ∀ i : Int, 0 ≤ i → i < h 0 11 → h 9 i ≠ id := by
  refine ⟨fun hp i a b e => ?_, fun hn => ?_⟩
  · have := h_find_no (p := fun i => decide (h 9 i = id)) (h 0 11).toNat 0 hp (by omega) i a (by omega)
    rw [decide_eq_false_iff_not] at this
    exact this e
  · rcases S_pos_rg (g := h) id h0 with q | ⟨a, b, c⟩
    · exact q
    · exact absurd c (hn _ a b)
theorem S_pos_eq {h h2 : h_T} (h9 : h2 9 = h 9) (h11 : h2 0 11 = h 0 11) (id : Int) : S_pos h2 id = S_pos h id := by
  unfold S_pos
  rw [h9, h11]
def nX (g : h_T) : Prop := ∀ i k : Int, 0 ≤ i → i < k → k < g 0 11 → g 9 i < g 9 k
theorem nX.pos {g : h_T} (h : nX g) {k : Int} (hk : 0 ≤ k ∧ k < g 0 11) : S_pos g (g 9 k) = k := by
  rcases S_pos_rg (g := g) (g 9 k) (by omega) with q | ⟨a, b, c⟩
  · exact absurd rfl ((S_pos_no (by omega)).mp q k hk.1 hk.2)
  · by_cases e : S_pos g (g 9 k) = k
    · exact e
    · by_cases e2 : S_pos g (g 9 k) < k
      · have := h _ _ a e2 hk.2; omega
      · have := h k _ hk.1 (by omega) b; omega
def nF (g h : h_T) : Int → Int := fun k => if g 8 (g 10 k) = 0 ∧ S_pos h (g 9 k) = -1 then 1 else 0
def nD (g h : h_T) : Int := h_sum (nF g h) (g 0 11).toNat
def yI (g h : h_T) : Prop := h 0 4 - g 0 4 = nD g h ∧ h 8 = g 8 ∧ (∀ i : Int, 0 ≤ i → i < h 0 11 → ∃ k : Int, (0 ≤ k ∧ k < g 0 11) ∧ h 9 i = g 9 k ∧ h 10 i = g 10 k) ∧ nX h ∧ 0 ≤ h 0 11
theorem yI.st {g h h2 : h_T} (H : yI g h) (e4 : h2 0 4 = h 0 4) (e8 : h2 8 = h 8) (e9 : h2 9 = h 9) (e10 : h2 10 = h 10) (e11 : h2 0 11 = h 0 11) : yI g h2 := by
  obtain ⟨a, b, c, d, e⟩ := H
  have hD : nD g h2 = nD g h := by
    unfold nD
    exact congrArg (fun f => h_sum f (g 0 11).toNat) (funext fun k => by unfold nF; rw [S_pos_eq e9 e11])
  refine ⟨by rw [e4, hD]; exact a, e8.trans b, fun i x y => ?_, fun i k x y z => ?_, by rw [e11]; exact e⟩
  · rw [e9, e10]
    exact c i x (by rw [← e11]; exact y)
  · rw [e9]
    exact d i k x y (by rw [← e11]; exact z)
theorem yI.rf {g : h_T} (hx : nX g) (h0 : 0 ≤ g 0 11) : yI g g := by
  refine ⟨?_, rfl, fun i x y => ⟨i, ⟨x, y⟩, rfl, rfl⟩, hx, h0⟩
  have : nD g g = h_sum (fun _ => 0) (g 0 11).toNat := h_sum_ext _ (fun k a b => if_neg (fun z => by
    have := hx.pos (k := k) ⟨a, by omega⟩
    omega))
  rw [this, h_sum_cst]
  omega
theorem S_del_9 {h : h_T} {p i : Int} : S_del h p 9 i = if i < p then h 9 i else h 9 (i + 1) := by simp [S_del]
theorem S_del_10 {h : h_T} {p i : Int} : S_del h p 10 i = if i < p then h 10 i else h 10 (i + 1) := by simp [S_del]
theorem S_del_11 {h : h_T} {p : Int} : S_del h p 0 11 = h 0 11 - 1 := by simp [S_del]
theorem S_del_c {h : h_T} {p : Int} {c : Nat} (hc : 1 ≤ c ∧ c ≤ 8) : S_del h p c = h c := by
  funext i
  unfold S_del
  rw [if_neg (by omega), if_neg (by omega)]
theorem S_del_pos {h : h_T} (hx : nX h) {p : Int} (hp : 0 ≤ p ∧ p < h 0 11) (id : Int) : S_pos (S_del h p) id = -1 ↔ (S_pos h id = -1 ∨ id = h 9 p) := by
  rw [S_pos_no (by rw [S_del_11]; omega), S_pos_no (by omega)]
  refine ⟨fun hd => ?_, fun hd i a b => ?_⟩
  · by_cases e : id = h 9 p
    · exact Or.inr e
    · refine Or.inl (fun i a b => ?_)
      by_cases c1 : i < p
      · have := hd i a (by rw [S_del_11]; omega)
        rw [S_del_9, if_pos c1] at this
        exact this
      · by_cases c2 : i = p
        · rw [c2]; exact fun z => e z.symm
        · have := hd (i - 1) (by omega) (by rw [S_del_11]; omega)
          rw [S_del_9, if_neg (by omega), show i - 1 + 1 = i by omega] at this
          exact this
  · rw [S_del_11] at b
    rw [S_del_9]
    rcases hd with hd | hd
    · split
      · exact hd i a (by omega)
      · exact hd (i + 1) (by omega) (by omega)
    · split
      · next c => have := hx i p a c hp.2; omega
      · next c => have := hx p (i + 1) hp.1 (by omega) (by omega); omega
theorem nD_del {g h : h_T} (hg : nX g) (H : yI g h) {p : Int} (hp : 0 ≤ p ∧ p < h 0 11) : nD g (S_del h p) = nD g h + (if g 8 (h 10 p) = 0 then 1 else 0) := by
  obtain ⟨a, b, c, d, e⟩ := H
  obtain ⟨k0, hk0, e9, e10⟩ := c p hp.1 hp.2
  have key : ∀ k : Int, 0 ≤ k → k < (g 0 11).toNat → nF g (S_del h p) k = (fun j => if j = k0 then (if g 8 (h 10 p) = 0 then (1 : Int) else 0) else nF g h j) k := by
    intro k x y
    show nF g (S_del h p) k = if k = k0 then (if g 8 (h 10 p) = 0 then (1 : Int) else 0) else nF g h k
    have hd := S_del_pos d hp (g 9 k)
    by_cases q : k = k0
    · rw [if_pos q, q, e10]
      unfold nF
      have hd2 : S_pos (S_del h p) (g 9 k0) = -1 := by rw [← q]; exact hd.mpr (Or.inr (by rw [q]; exact e9.symm))
      by_cases z : g 8 (g 10 k0) = 0
      · rw [if_pos ⟨z, hd2⟩, if_pos z]
      · rw [if_neg (fun w => z w.1), if_neg z]
    · rw [if_neg q]
      unfold nF
      have hne : g 9 k ≠ h 9 p := fun z => by
        rw [e9] at z
        by_cases q2 : k < k0
        · have := hg k k0 x q2 hk0.2; omega
        · have := hg k0 k hk0.1 (by omega) (by omega); omega
      have hd3 : S_pos (S_del h p) (g 9 k) = -1 ↔ S_pos h (g 9 k) = -1 := ⟨fun z => (hd.mp z).resolve_right hne, fun z => hd.mpr (Or.inl z)⟩
      by_cases z : g 8 (g 10 k) = 0 ∧ S_pos h (g 9 k) = -1
      · rw [if_pos ⟨z.1, hd3.mpr z.2⟩, if_pos z]
      · rw [if_neg (fun w => z ⟨w.1, hd3.mp w.2⟩), if_neg z]
  have h0 : nF g h k0 = 0 := if_neg (fun z => (S_pos_no e).mp z.2 p hp.1 hp.2 e9)
  unfold nD
  rw [h_sum_ext _ key, (h_sum_up (nF g h) k0 _ (g 0 11).toNat hk0.1).1 (by omega), h0]
  omega
theorem nX.del {h : h_T} (hx : nX h) {p : Int} (hp : 0 ≤ p ∧ p < h 0 11) : nX (S_del h p) := by
  intro i k a b c
  rw [S_del_11] at c
  rw [S_del_9, S_del_9]
  split
  · split
    · exact hx i k a b (by omega)
    · exact hx i (k + 1) a (by omega) (by omega)
  · rw [if_neg (by omega)]
    exact hx (i + 1) (k + 1) (by omega) (by omega) (by omega)
theorem yI.del {g h : h_T} (hg : nX g) (H : yI g h) {p : Int} (hp : 0 ≤ p ∧ p < h 0 11) {h2 : h_T} (e4 : h2 0 4 = h 0 4 + (if g 8 (h 10 p) = 0 then 1 else 0)) (e8 : h2 8 = h 8) (e9 : h2 9 = S_del h p 9) (e10 : h2 10 = S_del h p 10) (e11 : h2 0 11 = S_del h p 0 11) : yI g h2 := by
  have hD := nD_del hg H hp
  obtain ⟨a, b, c, d, e⟩ := H
  have hD2 : nD g h2 = nD g (S_del h p) := by
    unfold nD
    exact congrArg (fun f => h_sum f (g 0 11).toNat) (funext fun k => by unfold nF; rw [S_pos_eq e9 e11])
  refine ⟨by rw [e4, hD2, hD]; omega, e8.trans b, fun i x y => ?_, fun i k x y z => ?_, by rw [e11, S_del_11]; omega⟩
  · rw [e11, S_del_11] at y
    rw [e9, e10, S_del_9, S_del_10]
    by_cases q : i < p
    · rw [if_pos q, if_pos q]
      exact c i x (by omega)
    · rw [if_neg q, if_neg q]
      exact c (i + 1) (by omega) (by omega)
  · rw [e9]
    exact d.del hp i k x y (by rw [← e11]; exact z)
theorem yI.do_ {g h : h_T} (hg : nX g) (H : yI g h) {x p : Int} (hp : 0 ≤ p ∧ p < h 0 11) (h10 : h 10 p = x) (hx : g 8 x = 0) : yI g (S_do h x p) := by
  have H1 : yI g (S_pay (S_sweep h p) x (h 12 p)) := H.st (S_pay_n (by decide)) rfl rfl rfl (S_pay_n (by decide))
  have e10 : S_pay (S_sweep h p) x (h 12 p) 10 p = x := h10
  have e11 : S_pay (S_sweep h p) x (h 12 p) 0 11 = h 0 11 := S_pay_n (by decide)
  refine H1.del hg (p := p) (by rw [e11]; exact hp) ?_ ?_ ?_ ?_ ?_
  · rw [e10, if_pos hx, show S_pay (S_sweep h p) x (h 12 p) 0 4 = h 0 4 from S_pay_n (by decide)]
    exact hs_s
  · show hs _ 0 4 _ 8 = _
    rw [hs_c (by decide), S_del_c (by decide)]
  · show hs _ 0 4 _ 9 = _
    rw [hs_c (by decide)]
  · show hs _ 0 4 _ 10 = _
    rw [hs_c (by decide)]
  · show hs _ 0 4 _ 0 11 = _
    rw [hs_i (by decide)]
theorem S_do_7 {h : h_T} {x p : Int} : S_do h x p 7 = h 7 := by
  unfold S_do
  rw [hs_c (by decide), S_del_c (by decide)]
  rfl
theorem yI.work {g : h_T} (hg : nX g) {x : Int} (hx : g 8 x = 0) : ∀ (n : Nat) (h : h_T) (e : Int), yI g h → yI g (S_work x n h e) ∧ S_work x n h e 7 = h 7 := by
  intro n
  induction n with
  | zero => intro h e H; exact ⟨H, rfl⟩
  | succ n ih =>
    intro h e H
    rw [S_work]
    split
    · exact ⟨H, rfl⟩
    · next c =>
      have hf := S_first_rg (g := h) x H.2.2.2.2
      have h1 := ih _ (e - h 13 (S_first h x)) (H.do_ hg (x := x) (p := S_first h x) (by omega) (by omega) hx)
      exact ⟨h1.1, h1.2.trans S_do_7⟩
theorem yI.turn {g h : h_T} (hg : nX g) (H : yI g h) (x : Int) : yI g (S_turn h x) ∧ (∀ y : Int, y ≠ x → S_turn h x 7 y = h 7 y) ∧ (g 8 x = 0 → S_turn h x 7 x = 0) := by
  have e8 := congrFun H.2.1 x
  unfold S_turn
  by_cases c : h 8 x = 0
  · rw [if_pos c]
    have H1 : yI g (hs h 7 x 0) := H.st rfl (hs_c (by decide)) (hs_c (by decide)) (hs_c (by decide)) rfl
    obtain ⟨q1, q2⟩ := yI.work hg (x := x) (by rw [← e8]; exact c) 8 (hs h 7 x 0) (S_energy (hs h 7 x 0) x) H1
    refine ⟨q1, fun y hy => ?_, fun _ => ?_⟩
    · rw [q2, hs_i hy]
    · rw [q2, hs_s]
  · rw [if_neg c]
    refine ⟨H.st rfl (hs_c (by decide)) (hs_c (by decide)) (hs_c (by decide)) rfl, fun y hy => hs_i hy, fun z => absurd (e8.trans z) c⟩
theorem yI.turns {g h : h_T} (hg : nX g) (H : yI g h) : ∀ k : Nat, yI g (S_turns h k) ∧ ∀ x : Int, 0 ≤ x → x < k → g 8 x = 0 → S_turns h k 7 x = 0 := by
  intro k
  induction k with
  | zero => exact ⟨H, fun x a b => by omega⟩
  | succ k ih =>
    obtain ⟨q1, q2, q3⟩ := yI.turn hg ih.1 (k : Int)
    refine ⟨q1, fun x a b c => ?_⟩
    by_cases e : x = (k : Int)
    · subst e
      exact q3 c
    · exact (q2 x e).trans (ih.2 x a (by omega) c)
theorem yI.brk {g : h_T} (hg : nX g) (hr : ∀ k : Int, 0 ≤ k → k < g 0 11 → 0 ≤ g 10 k ∧ g 10 k < g 0 9) : ∀ (k : Nat) (h : h_T), yI g h → (∀ x : Int, 0 ≤ x → x < g 0 9 → g 8 x = 0 → h 7 x = 0) → (k : Int) ≤ h 0 11 → yI g (S_brk k h) := by
  intro k
  induction k with
  | zero => intro h H _ _; exact H
  | succ k ih =>
    intro h H h7 hk
    rw [S_brk]
    by_cases c : 3 ≤ h 7 (h 10 (k : Int))
    · rw [if_pos c]
      obtain ⟨k0, hk0, e9, e10⟩ := H.2.2.1 (k : Int) (by omega) (by omega)
      have hne : g 8 (h 10 (k : Int)) ≠ 0 := fun z => by
        have q1 := hr k0 hk0.1 hk0.2
        rw [← e10] at q1
        have := h7 _ q1.1 q1.2 z
        omega
      refine ih _ (H.del hg (p := (k : Int)) (by omega) ?_ ?_ ?_ ?_ ?_) (fun x a b d => ?_) ?_
      · rw [if_neg hne, hs_i (by decide), S_del_n (by decide)]; omega
      · rw [hs_c (by decide), S_del_c (by decide)]
      · rw [hs_c (by decide)]
      · rw [hs_c (by decide)]
      · rw [hs_i (by decide)]
      · rw [hs_c (by decide), S_del_c (by decide)]
        exact h7 x a b d
      · rw [hs_i (by decide), S_del_11]; omega
    · rw [if_neg c]
      exact ih h H h7 (by omega)
theorem S_grow1_c {h : h_T} {x : Int} {c : Nat} (hc : c ≠ 0 ∧ c ≠ 6) : S_grow1 h x c = h c := by
  unfold S_grow1
  split
  · rw [hs_c hc.2, hs_c hc.1]
  · rfl
theorem S_grow_c {h : h_T} {c : Nat} (hc : c ≠ 0 ∧ c ≠ 6) : ∀ k : Nat, S_grow h k c = h c := by
  intro k
  induction k with
  | zero => rfl
  | succ k ih => exact (S_grow1_c hc).trans ih
theorem yI.night {g h : h_T} (hg : nX g) (hr : ∀ k : Int, 0 ≤ k → k < g 0 11 → 0 ≤ g 10 k ∧ g 10 k < g 0 9) (h9 : h 0 9 = g 0 9) (H : yI g h) : yI g (S_night h) := by
  have hc1 : ∀ c : Nat, c ≠ 0 → c ≠ 1 → S_n1 h c = h c := fun c a b => by
    unfold S_n1
    rw [S_dust_o 6 b, hs_c a]
  have H1 : yI g (S_n1 h) := H.st (S_n1_n (by decide)) (hc1 8 (by decide) (by decide)) (hc1 9 (by decide) (by decide)) (hc1 10 (by decide) (by decide)) (S_n1_n (by decide))
  have e9 : S_n1 h 0 9 = g 0 9 := (S_n1_n (by decide)).trans h9
  have H2 := yI.turns hg H1 (S_n1 h 0 9).toNat
  have H3 : yI g (S_n3 h) := yI.brk hg hr _ _ H2.1 (fun x a b c => H2.2 x a (by rw [e9]; omega) c) (by
    have := H2.1.2.2.2.2
    show ((S_n2 h 0 11).toNat : Int) ≤ S_n2 h 0 11
    have q : 0 ≤ S_n2 h 0 11 := this
    omega)
  unfold S_night
  split
  · exact H3.st (S_grow_n (by decide) _) (S_grow_c (by decide) _) (S_grow_c (by decide) _) (S_grow_c (by decide) _) (S_grow_n (by decide) _)
  · exact H3
theorem nR {K : Int} {g : h_T} (hB : h_BK K g) : ∀ k : Int, 0 ≤ k → k < g 0 11 → 0 ≤ g 10 k ∧ g 10 k < g 0 9 := fun k a b => by
  have := hB.co (i := k) ⟨a, b⟩
  omega
theorem yI.nights {K : Int} {g : h_T} (hB : h_BK K g) (hg : nX g) : ∀ N : Nat, yI g (S_nights g N) := by
  intro N
  induction N with
  | zero => exact yI.rf hg hB.n11.1
  | succ N ih => exact yI.night hg (nR hB) (hB.nights N).2.1 ih
theorem nGone1 {K : Int} {h : h_T} (hB : h_BK K h) (hx : nX h) {id : Int} (hp : S_pos h id = -1) : S_pos (S_night h) id = -1 := by
  have H := yI.night hx (nR hB) rfl (yI.rf hx hB.n11.1)
  refine (S_pos_no H.2.2.2.2).mpr (fun i a b => ?_)
  obtain ⟨k, hk, e9, -⟩ := H.2.2.1 i a b
  rw [e9]
  exact (S_pos_no hB.n11.1).mp hp k hk.1 hk.2
theorem nGone {K : Int} {g : h_T} (hI : h_I K g) {id : Int} (j : Nat) (hp : S_pos (S_nights g j) id = -1) : ∀ d : Nat, S_pos (S_nights g (j + d)) id = -1 := by
  intro d
  induction d with
  | zero => exact hp
  | succ d ih => exact nGone1 (hI.1.nights (j + d)).1 (hI.2.nights hI.1 (j + d)).2.2.1 ih
/-- the night foretold is not later than N just where the contract is gone after N nights -/
theorem nFore {K : Int} {g : h_T} (hI : h_I K g) {id N : Int} (hN : 1 ≤ N ∧ N ≤ 60) : (S_nud g id ≠ -1 ∧ S_nud g id ≤ N) ↔ S_pos (S_nights g N.toNat) id = -1 := by
  have hrg := h_find_rg (p := fun k => decide (S_pos (S_nights g k.toNat) id = -1)) 60 1 (by omega)
  have hno := h_find_no (p := fun k => decide (S_pos (S_nights g k.toNat) id = -1)) 60 1
  have hS : S_nud g id = h_find (fun k => decide (S_pos (S_nights g k.toNat) id = -1)) 60 1 := rfl
  rw [← hS] at hrg hno
  refine ⟨fun ⟨a, b⟩ => ?_, fun hp => ?_⟩
  · rcases hrg with q | ⟨q1, q2, q3, q4⟩
    · exact absurd q a
    · have := nGone hI _ (of_decide_eq_true q3) (N - S_nud g id).toNat
      rw [show (S_nud g id).toNat + (N - S_nud g id).toNat = N.toNat by omega] at this
      exact this
  · rcases hrg with q | ⟨q1, q2, q3, q4⟩
    · have := hno q (by omega) N (by omega) (by omega)
      rw [decide_eq_false_iff_not] at this
      exact absurd hp this
    · refine ⟨by omega, ?_⟩
      by_cases c : S_nud g id ≤ N
      · exact c
      · have := q4 N (by omega) (by omega)
        rw [decide_eq_false_iff_not] at this
        exact absurd hp this
theorem S_nud_rg (g : h_T) (id : Int) : S_nud g id = -1 ∨ (1 ≤ S_nud g id ∧ S_nud g id ≤ 60) := by
  rcases h_find_rg (p := fun k => decide (S_pos (S_nights g k.toNat) id = -1)) 60 1 (by omega) with q | ⟨q1, q2, -, -⟩
  · exact Or.inl q
  · exact Or.inr ⟨q1, by
      have e : S_nud g id = h_find (fun k => decide (S_pos (S_nights g k.toNat) id = -1)) 60 1 := rfl
      rw [e]
      omega⟩
