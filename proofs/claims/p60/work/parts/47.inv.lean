theorem h_BK.st3 {K : Int} {g : h_T} (h : h_BK K g) {i v : Int} (hv : v = 0 ∨ v = 1) : h_BK K (hs g 3 i v) := by
  have e3 : ∀ j, hs g 3 i v 3 j = v ∨ hs g 3 i v 3 j = g 3 j := fun j => by
    rw [hs_at]; split
    · exact Or.inl rfl
    · exact Or.inr rfl
  obtain ⟨h0, h1, h2, h3, h4, h5, h6, h7⟩ := h
  unfold h_BK
  rw [(hs_c (by decide) : hs g 3 i v 0 = g 0), (hs_c (by decide) : hs g 3 i v 1 = g 1), (hs_c (by decide) : hs g 3 i v 2 = g 2), (hs_c (by decide) : hs g 3 i v 4 = g 4), (hs_c (by decide) : hs g 3 i v 5 = g 5), (hs_c (by decide) : hs g 3 i v 6 = g 6), (hs_c (by decide) : hs g 3 i v 7 = g 7), (hs_c (by decide) : hs g 3 i v 8 = g 8), (hs_c (by decide) : hs g 3 i v 9 = g 9), (hs_c (by decide) : hs g 3 i v 10 = g 10), (hs_c (by decide) : hs g 3 i v 11 = g 11), (hs_c (by decide) : hs g 3 i v 12 = g 12), (hs_c (by decide) : hs g 3 i v 13 = g 13)]
  exact ⟨h0, h1, h2, h3, h4, fun j hj => by have a := h5 j hj; rcases e3 j with w | w <;> rw [w] <;> omega, h6, h7⟩
theorem h_BK.st8 {K : Int} {g : h_T} (h : h_BK K g) {i v : Int} (hv : v = 0 ∨ v = 1) : h_BK K (hs g 8 i v) := by
  have e3 : ∀ j, hs g 8 i v 8 j = v ∨ hs g 8 i v 8 j = g 8 j := fun j => by
    rw [hs_at]; split
    · exact Or.inl rfl
    · exact Or.inr rfl
  obtain ⟨h0, h1, h2, h3, h4, h5, h6, h7⟩ := h
  unfold h_BK
  rw [(hs_c (by decide) : hs g 8 i v 0 = g 0), (hs_c (by decide) : hs g 8 i v 1 = g 1), (hs_c (by decide) : hs g 8 i v 2 = g 2), (hs_c (by decide) : hs g 8 i v 3 = g 3), (hs_c (by decide) : hs g 8 i v 4 = g 4), (hs_c (by decide) : hs g 8 i v 5 = g 5), (hs_c (by decide) : hs g 8 i v 6 = g 6), (hs_c (by decide) : hs g 8 i v 7 = g 7), (hs_c (by decide) : hs g 8 i v 9 = g 9), (hs_c (by decide) : hs g 8 i v 10 = g 10), (hs_c (by decide) : hs g 8 i v 11 = g 11), (hs_c (by decide) : hs g 8 i v 12 = g 12), (hs_c (by decide) : hs g 8 i v 13 = g 13)]
  exact ⟨h0, h1, h2, h3, h4, h5, fun j hj => by have a := h6 j hj; rcases e3 j with w | w <;> rw [w] <;> omega, h7⟩
theorem h_BK.gob {K : Int} {g : h_T} (h : h_BK K g) (hK : 5 ≤ K) {s : Int} (hs9 : 1 ≤ s ∧ s ≤ 9) (h9 : g 0 9 < 5) : h_BK K (S_gob g s) := by
  have es : ∀ k : Int, S_gob g s 0 k = if k = 9 then g 0 9 + 1 else g 0 k := fun k => by simp [S_gob, hs_at]
  have eo : ∀ c i, c ≠ 0 → (c < 4 ∨ 8 < c ∨ i ≠ g 0 9) → S_gob g s c i = g c i := fun c i q1 q2 => by
    unfold S_gob
    simp only [hs_at]
    rw [if_neg (by omega), if_neg (by omega), if_neg (by omega), if_neg (by omega), if_neg (by omega), if_neg (by omega)]
  have e4 : S_gob g s 4 (g 0 9) = s := by simp [S_gob, hs_at]
  have e5 : S_gob g s 5 (g 0 9) = 0 := by simp [S_gob, hs_at]
  have e6 : S_gob g s 6 (g 0 9) = 0 := by simp [S_gob, hs_at]
  have e7 : S_gob g s 7 (g 0 9) = 0 := by simp [S_gob, hs_at]
  have e8 : S_gob g s 8 (g 0 9) = 0 := by simp [S_gob, hs_at]
  obtain ⟨h0, h1, h2, h3, h4, h5, h6, h7⟩ := h
  have z9 := h0 9 (by omega)
  refine ⟨fun k hk => ?_, ?_, ?_, ?_, fun i hi => ?_, fun i hi => ?_, fun i hi => ?_, fun i hi => ?_⟩
  · rw [es]
    have := h0 k hk
    split <;> omega
  · rw [es, if_neg (by decide)]; exact h1
  · rw [es, if_pos rfl]; omega
  · rw [es, if_neg (by decide)]; exact h3
  · rw [eo 1 i (by decide) (by omega)]; exact h4 i hi
  · rw [es, if_neg (by decide)] at hi
    rw [eo 2 i (by decide) (by omega), eo 3 i (by decide) (by omega)]; exact h5 i hi
  · rw [es, if_pos rfl] at hi
    by_cases q : i = g 0 9
    · rw [q, e4, e5, e6, e7, e8]; omega
    · rw [eo 4 i (by decide) (by omega), eo 5 i (by decide) (by omega), eo 6 i (by decide) (by omega), eo 7 i (by decide) (by omega), eo 8 i (by decide) (by omega)]; exact h6 i (by omega)
  · rw [es, if_neg (by decide)] at hi
    rw [es, if_pos rfl, eo 9 i (by decide) (by omega), eo 10 i (by decide) (by omega), eo 11 i (by decide) (by omega), eo 12 i (by decide) (by omega), eo 13 i (by decide) (by omega)]
    have := h7 i hi
    omega
theorem h_BK.bro {K : Int} {g : h_T} (h : h_BK K g) (hK : 5 ≤ K) {s : Int} (hs9 : 1 ≤ s ∧ s ≤ 20) (h9 : g 0 8 < 4) : h_BK K (S_bro g s) := by
  have es : ∀ k : Int, S_bro g s 0 k = if k = 8 then g 0 8 + 1 else g 0 k := fun k => by simp [S_bro, hs_at]
  have eo : ∀ c i, c ≠ 0 → (c < 2 ∨ 3 < c ∨ i ≠ g 0 8) → S_bro g s c i = g c i := fun c i q1 q2 => by
    unfold S_bro
    simp only [hs_at]
    rw [if_neg (by omega), if_neg (by omega), if_neg (by omega)]
  have e4 : S_bro g s 2 (g 0 8) = s := by simp [S_bro, hs_at]
  have e5 : S_bro g s 3 (g 0 8) = 0 := by simp [S_bro, hs_at]
  obtain ⟨h0, h1, h2, h3, h4, h5, h6, h7⟩ := h
  have z9 := h0 8 (by omega)
  refine ⟨fun k hk => ?_, ?_, ?_, ?_, fun i hi => ?_, fun i hi => ?_, fun i hi => ?_, fun i hi => ?_⟩
  · rw [es]
    have := h0 k hk
    split <;> omega
  · rw [es, if_pos rfl]; omega
  · rw [es, if_neg (by decide)]; exact h2
  · rw [es, if_neg (by decide)]; exact h3
  · rw [eo 1 i (by decide) (by omega)]; exact h4 i hi
  · rw [es, if_pos rfl] at hi
    by_cases q : i = g 0 8
    · rw [q, e4, e5]; omega
    · rw [eo 2 i (by decide) (by omega), eo 3 i (by decide) (by omega)]; exact h5 i (by omega)
  · rw [es, if_neg (by decide)] at hi
    rw [eo 4 i (by decide) (by omega), eo 5 i (by decide) (by omega), eo 6 i (by decide) (by omega), eo 7 i (by decide) (by omega), eo 8 i (by decide) (by omega)]; exact h6 i (by omega)
  · rw [es, if_neg (by decide)] at hi
    rw [es, if_neg (by decide), eo 9 i (by decide) (by omega), eo 10 i (by decide) (by omega), eo 11 i (by decide) (by omega), eo 12 i (by decide) (by omega), eo 13 i (by decide) (by omega)]
    exact h7 i hi
theorem h_BK.con {K : Int} {g : h_T} (h : h_BK K g) (hK : 8 ≤ K) {x r w e : Int} (hx : 0 ≤ x ∧ x < g 0 9) (hr : 0 ≤ r ∧ r < 6) (hw : 1 ≤ w ∧ w ≤ 50) (he : 1 ≤ e ∧ e ≤ 20) (h11 : g 0 11 < 8) : h_BK (K + 1) (S_con g x r w e) := by
  have es : ∀ k : Int, S_con g x r w e 0 k = if k = 10 then g 0 10 + 1 else if k = 11 then g 0 11 + 1 else g 0 k := fun k => by simp [S_con, hs_at]
  have eo : ∀ c i, c ≠ 0 → (c < 9 ∨ 13 < c ∨ i ≠ g 0 11) → S_con g x r w e c i = g c i := fun c i q1 q2 => by
    unfold S_con
    simp only [hs_at]
    rw [if_neg (by omega), if_neg (by omega), if_neg (by omega), if_neg (by omega), if_neg (by omega), if_neg (by omega), if_neg (by omega)]
  have e4 : S_con g x r w e 9 (g 0 11) = g 0 10 := by simp [S_con, hs_at]
  have e5 : S_con g x r w e 10 (g 0 11) = x := by simp [S_con, hs_at]
  have e6 : S_con g x r w e 11 (g 0 11) = r := by simp [S_con, hs_at]
  have e7 : S_con g x r w e 12 (g 0 11) = w := by simp [S_con, hs_at]
  have e8 : S_con g x r w e 13 (g 0 11) = e := by simp [S_con, hs_at]
  obtain ⟨h0, h1, h2, h3, h4, h5, h6, h7⟩ := h
  have z9 := h0 10 (by omega)
  have z1 := h0 11 (by omega)
  refine ⟨fun k hk => ?_, ?_, ?_, ?_, fun i hi => ?_, fun i hi => ?_, fun i hi => ?_, fun i hi => ?_⟩
  · rw [es]
    have := h0 k hk
    split
    · omega
    · split <;> omega
  · rw [es, if_neg (by decide), if_neg (by decide)]; exact h1
  · rw [es, if_neg (by decide), if_neg (by decide)]; exact h2
  · rw [es, if_neg (by decide), if_pos rfl]; omega
  · rw [eo 1 i (by decide) (by omega)]; exact h4 i hi
  · rw [es, if_neg (by decide), if_neg (by decide)] at hi
    rw [eo 2 i (by decide) (by omega), eo 3 i (by decide) (by omega)]; exact h5 i (by omega)
  · rw [es, if_neg (by decide), if_neg (by decide)] at hi
    rw [eo 4 i (by decide) (by omega), eo 5 i (by decide) (by omega), eo 6 i (by decide) (by omega), eo 7 i (by decide) (by omega), eo 8 i (by decide) (by omega)]
    have := h6 i (by omega)
    omega
  · rw [es, if_neg (by decide), if_pos rfl] at hi
    rw [es 9, if_neg (by decide), if_neg (by decide)]
    by_cases q : i = g 0 11
    · rw [q, e4, e5, e6, e7, e8]; omega
    · rw [eo 9 i (by decide) (by omega), eo 10 i (by decide) (by omega), eo 11 i (by decide) (by omega), eo 12 i (by decide) (by omega), eo 13 i (by decide) (by omega)]
      have := h7 i (by omega)
      omega
/-! what else stays: the accounts; one contract a goblin and room; ids ascending -/
def h_acc (g : h_T) : Int := g 0 1 + S_purses g - g 0 2 + g 0 3
def h_U (g : h_T) : Prop := (∀ i k : Int, 0 ≤ i → i < k → k < g 0 11 → ¬ (g 10 i = g 10 k ∧ g 11 i = g 11 k)) ∧ (∀ i k : Int, 0 ≤ i → i < k → k < g 0 11 → g 9 i < g 9 k) ∧ ∀ i : Int, 0 ≤ i → i < g 0 11 → g 9 i < g 0 10
def h_W (g : h_T) : Prop := h_acc g = 100 ∧ h_U g
def h_I (K : Int) (g : h_T) : Prop := h_BK K g ∧ h_W g
theorem h_sum_up (f : Int → Int) (x v : Int) : ∀ n : Nat, 0 ≤ x → (x < n → h_sum (fun j => if j = x then v else f j) n = h_sum f n - f x + v) ∧ ((n : Int) ≤ x → h_sum (fun j => if j = x then v else f j) n = h_sum f n) := by
  intro n
  induction n with
  | zero => intro h; exact ⟨fun q => by omega, fun _ => rfl⟩
  | succ n ih =>
    intro h
    have i1 := ih h
    refine ⟨fun q => ?_, fun q => ?_⟩
    · rw [h_sum, h_sum]
      by_cases z : (n : Int) = x
      · rw [i1.2 (by omega), if_pos z, z]; omega
      · rw [i1.1 (by omega), if_neg z]; omega
    · rw [h_sum, h_sum, i1.2 (by omega), if_neg (by omega)]
theorem S_purses_st5 {g : h_T} {x v : Int} (hx : 0 ≤ x ∧ x < g 0 9) : S_purses (hs g 5 x v) = S_purses g - g 5 x + v := by
  have := (h_sum_up (fun j => g 5 j) x v (g 0 9).toNat hx.1).1 (by omega)
  unfold S_purses
  rw [← this]
  have e : hs g 5 x v 0 9 = g 0 9 := rfl
  rw [e]
  congr 1
  funext j
  rw [hs_at]
  simp only [true_and]
theorem S_purses_st {g : h_T} {c : Nat} {i v : Int} (h : c ≠ 5 ∧ (c ≠ 0 ∨ i ≠ 9)) : S_purses (hs g c i v) = S_purses g := by
  unfold S_purses
  have e : hs g c i v 0 9 = g 0 9 := if_neg (by omega)
  rw [e, hs_c (c' := 5) (by omega)]
theorem h_acc_st {g : h_T} {c : Nat} {i v : Int} (h : c ≠ 5 ∧ (c ≠ 0 ∨ (i ≠ 1 ∧ i ≠ 2 ∧ i ≠ 3 ∧ i ≠ 9))) : h_acc (hs g c i v) = h_acc g := by
  unfold h_acc
  have e : ∀ k : Int, (k = 1 ∨ k = 2 ∨ k = 3) → hs g c i v 0 k = g 0 k := fun k hk => if_neg (by omega)
  rw [e 1 (by omega), e 2 (by omega), e 3 (by omega), S_purses_st (by omega)]
theorem h_acc_del {g : h_T} {p : Int} : h_acc (S_del g p) = h_acc g := by
  unfold h_acc
  have e : S_purses (S_del g p) = S_purses g := by
    unfold S_purses
    rw [S_del_n (by decide)]
    congr 1
  rw [S_del_n (by decide), S_del_n (by decide), S_del_n (by decide), e]
theorem h_U.st {g : h_T} (h : h_U g) {c : Nat} {i v : Int} (hc : c ≠ 9 ∧ c ≠ 10 ∧ c ≠ 11 ∧ (c ≠ 0 ∨ (i ≠ 10 ∧ i ≠ 11))) : h_U (hs g c i v) := by
  unfold h_U
  have e : ∀ k : Int, (k = 10 ∨ k = 11) → hs g c i v 0 k = g 0 k := fun k hk => if_neg (by omega)
  rw [e 10 (by omega), e 11 (by omega), hs_c (c' := 9) (by omega), hs_c (c' := 10) (by omega), hs_c (c' := 11) (by omega)]
  exact h
theorem h_U.del {g : h_T} (h : h_U g) {p : Int} (hp : 0 ≤ p ∧ p < g 0 11) : h_U (S_del g p) := by
  obtain ⟨u1, u2, u3⟩ := h
  have e11 : S_del g p 0 11 = g 0 11 - 1 := by simp [S_del]
  have ec : ∀ c, 9 ≤ c ∧ c ≤ 13 → ∀ i, S_del g p c i = g c (if i < p then i else i + 1) := fun c q i => by
    unfold S_del
    rw [if_pos q]
    split <;> rfl
  refine ⟨fun i k h1 h2 h3 => ?_, fun i k h1 h2 h3 => ?_, fun i h1 h2 => ?_⟩
  · rw [e11] at h3
    rw [ec 10 (by omega), ec 10 (by omega), ec 11 (by omega), ec 11 (by omega)]
    exact u1 _ _ (by split <;> omega) (by split <;> split <;> omega) (by split <;> omega)
  · rw [e11] at h3
    rw [ec 9 (by omega), ec 9 (by omega)]
    exact u2 _ _ (by split <;> omega) (by split <;> split <;> omega) (by split <;> omega)
  · rw [e11] at h2
    rw [ec 9 (by omega), S_del_n (by decide)]
    exact u3 _ (by split <;> omega) (by split <;> omega)
theorem h_W.st {g : h_T} (h : h_W g) {c : Nat} {i v : Int} (hc : c ≠ 5 ∧ c ≠ 9 ∧ c ≠ 10 ∧ c ≠ 11 ∧ (c ≠ 0 ∨ (i ≠ 1 ∧ i ≠ 2 ∧ i ≠ 3 ∧ i ≠ 9 ∧ i ≠ 10 ∧ i ≠ 11))) : h_W (hs g c i v) := ⟨(h_acc_st (by omega)).trans h.1, h.2.st (by omega)⟩
theorem h_W.del {g : h_T} (h : h_W g) {p : Int} (hp : 0 ≤ p ∧ p < g 0 11) : h_W (S_del g p) := ⟨h_acc_del.trans h.1, h.2.del hp⟩
theorem h_W.pay {g : h_T} (h : h_W g) {x w : Int} (hx : 0 ≤ x ∧ x < g 0 9) : h_W (S_pay g x w) := by
  refine ⟨?_, ?_⟩
  · rw [← h.1]
    unfold S_pay h_acc
    rw [S_purses_st5 (by simpa [hs_at] using hx), S_purses_st (by omega), S_purses_st (by omega), S_purses_st (by omega)]
    simp [hs_at]
    omega
  · unfold S_pay
    exact (((h.2.st (by omega)).st (by omega)).st (by omega)).st (by omega)
theorem h_W.do_ {g : h_T} (h : h_W g) {x p : Int} (hx : 0 ≤ x ∧ x < g 0 9) (hp : 0 ≤ p ∧ p < g 0 11) : h_W (S_do g x p) := by
  unfold S_do S_sweep
  refine h_W.st (h_W.del (h_W.pay (h.st (by omega)) hx) ?_) (by omega)
  rw [S_pay_n (by omega)]
  exact hp
theorem h_W.work {x : Int} : ∀ (n : Nat) {K : Int} {g : h_T} (e : Int), h_BK K g → h_W g → 0 ≤ x ∧ x < g 0 9 → h_W (S_work x n g e) := by
  intro n
  induction n with
  | zero => intro K g e _ h _; exact h
  | succ n ih =>
    intro K g e hB h hx
    rw [S_work]
    split
    · exact h
    · rename_i q
      rcases S_first_rg (g := g) x hB.n11.1 with z | ⟨z1, z2, z3⟩
      · exact absurd (Or.inl z) q
      · have e9 : S_do g x (S_first g x) 0 9 = g 0 9 := by rw [S_do_n (by omega)]; rfl
        exact ih _ (hB.do_ hx ⟨z1, z2⟩) (h.do_ hx ⟨z1, z2⟩) (by rw [e9]; exact hx)
theorem h_W.brk : ∀ (k : Nat) {g : h_T}, h_W g → (k : Int) ≤ g 0 11 → h_W (S_brk k g) := by
  intro k
  induction k with
  | zero => intro g h _; exact h
  | succ k ih =>
    intro g h hk
    rw [S_brk]
    split
    · exact ih ((h.del (by omega)).st (by omega)) (by simp [hs_at, S_del]; omega)
    · exact ih h (by omega)
theorem h_W.grow1 {g : h_T} (h : h_W g) (x : Int) : h_W (S_grow1 g x) := by
  unfold S_grow1
  split
  · exact (h.st (by omega)).st (by omega)
  · exact h
theorem h_W.grow {g : h_T} (h : h_W g) : ∀ k : Nat, h_W (S_grow g k) := by
  intro k
  induction k with
  | zero => exact h
  | succ k ih => exact ih.grow1 _
theorem h_W.dust {g : h_T} (h : h_W g) : ∀ k : Nat, h_W (S_dust g k) := by
  intro k
  induction k with
  | zero => exact h
  | succ k ih => exact ih.st (by omega)
theorem h_W.turn {K : Int} {g : h_T} (hB : h_BK K g) (h : h_W g) {x : Int} (hx : 0 ≤ x ∧ x < g 0 9) : h_W (S_turn g x) := by
  unfold S_turn
  split
  · exact h_W.work 8 _ ((hB.mono (show K ≤ max K 0 by omega)).st7 (by omega)) (h.st (by omega)) hx
  · exact h.st (by omega)
theorem h_W.turns {K : Int} {g : h_T} (hB : h_BK K g) (h : h_W g) : ∀ k : Nat, (k : Int) ≤ g 0 9 → h_W (S_turns g k) := by
  intro k
  induction k with
  | zero => intro _; exact h
  | succ k ih =>
    intro hk
    have b := hB.turns k (by omega)
    exact h_W.turn b.1 (ih (by omega)) ⟨by omega, by rw [b.2.1]; omega⟩
theorem h_W.night {K : Int} {g : h_T} (hB : h_BK K g) (h : h_W g) : h_W (S_night g) := by
  have b1 := hB.n1
  have b2 := hB.n2
  have w1 : h_W (S_n1 g) := (h.st (by omega)).dust 6
  have w2 : h_W (S_n2 g) := h_W.turns b1.1 w1 _ (by have := b1.1.n9; omega)
  have w3 : h_W (S_n3 g) := w2.brk _ (by have := b2.1.n11; omega)
  unfold S_night
  split
  · exact w3.grow _
  · exact w3
theorem h_W.nights {K : Int} {g : h_T} (hB : h_BK K g) (h : h_W g) : ∀ k : Nat, h_W (S_nights g k) := by
  intro k
  induction k with
  | zero => exact h
  | succ k ih => exact h_W.night (hB.nights k).1 ih
theorem h_W.gob {g : h_T} (h : h_W g) (h9 : 0 ≤ g 0 9) (s : Int) : h_W (S_gob g s) := by
  have es : ∀ k : Int, S_gob g s 0 k = if k = 9 then g 0 9 + 1 else g 0 k := fun k => by simp [S_gob, hs_at]
  refine ⟨?_, ?_⟩
  · rw [← h.1]
    have e : S_purses (S_gob g s) = S_purses g := by
      unfold S_purses
      rw [es, if_pos rfl, h_sum_succ _ h9]
      have e0 : S_gob g s 5 (g 0 9) = 0 := by simp [S_gob, hs_at]
      rw [e0, Int.add_zero]
      refine h_sum_congr (fun j hj => ?_)
      unfold S_gob
      simp only [hs_at]
      rw [if_neg (by omega), if_neg (by omega), if_neg (by omega), if_neg (by omega), if_neg (by omega), if_neg (by omega)]
    unfold h_acc
    rw [e, es, es, es, if_neg (by decide), if_neg (by decide), if_neg (by decide)]
  · unfold S_gob
    exact (((((h.2.st (by omega)).st (by omega)).st (by omega)).st (by omega)).st (by omega)).st (by omega)
theorem h_W.bro {g : h_T} (h : h_W g) (s : Int) : h_W (S_bro g s) := by
  unfold S_bro
  exact ((h.st (by omega)).st (by omega)).st (by omega)
theorem h_W.con {g : h_T} (h : h_W g) (h11 : 0 ≤ g 0 11) {x r w e : Int} (hn : S_has g x r = false) : h_W (S_con g x r w e) := by
  have hno : ∀ j : Int, 0 ≤ j → j < g 0 11 → ¬ (g 10 j = x ∧ g 11 j = r) := by
    intro j h1 h2
    have q : h_find (fun i => decide (g 10 i = x ∧ g 11 i = r)) (g 0 11).toNat 0 = -1 := by
      unfold S_has at hn
      simpa using hn
    have := h_find_no _ 0 q (by omega) j h1 (by omega)
    simpa using this
  refine ⟨?_, ?_⟩
  · rw [← h.1]
    unfold S_con
    rw [h_acc_st (by omega), h_acc_st (by omega), h_acc_st (by omega), h_acc_st (by omega), h_acc_st (by omega), h_acc_st (by omega), h_acc_st (by omega)]
  · obtain ⟨u1, u2, u3⟩ := h.2
    have es : ∀ k : Int, S_con g x r w e 0 k = if k = 10 then g 0 10 + 1 else if k = 11 then g 0 11 + 1 else g 0 k := fun k => by simp [S_con, hs_at]
    have e9 : ∀ i, S_con g x r w e 9 i = if i = g 0 11 then g 0 10 else g 9 i := fun i => by simp [S_con, hs_at]
    have e10 : ∀ i, S_con g x r w e 10 i = if i = g 0 11 then x else g 10 i := fun i => by simp [S_con, hs_at]
    have e11 : ∀ i, S_con g x r w e 11 i = if i = g 0 11 then r else g 11 i := fun i => by simp [S_con, hs_at]
    refine ⟨fun i k h1 h2 h3 => ?_, fun i k h1 h2 h3 => ?_, fun i h1 h2 => ?_⟩
    · rw [es, if_neg (by decide), if_pos rfl] at h3
      rw [e10 i, e10 k, e11 i, e11 k, if_neg (show ¬ i = g 0 11 by omega), if_neg (show ¬ i = g 0 11 by omega)]
      by_cases q : k = g 0 11
      · rw [if_pos q, if_pos q]; exact hno i h1 (by omega)
      · rw [if_neg q, if_neg q]; exact u1 i k h1 h2 (by omega)
    · rw [es, if_neg (by decide), if_pos rfl] at h3
      rw [e9, e9, if_neg (by omega)]
      by_cases q : k = g 0 11
      · rw [if_pos q]; exact u3 i h1 (by omega)
      · rw [if_neg q]; exact u2 i k h1 h2 (by omega)
    · rw [es, if_neg (by decide), if_pos rfl] at h2
      rw [e9, es, if_pos rfl]
      by_cases q : i = g 0 11
      · rw [if_pos q]; omega
      · rw [if_neg q]; have := u3 i h1 (by omega); omega
/-- every operation keeps it all -/
def h_Ip (K : Int) (S : Int × h_T) : Prop := h_I (K + 5300) S.2
theorem h_I.mono {K K2 : Int} {g : h_T} (h : h_I K g) (hk : K ≤ K2) : h_I K2 g := ⟨h.1.mono hk, h.2⟩
theorem h_Ip.rf {K k : Int} {g : h_T} (h : h_I K g) : h_Ip K (k, g) := h.mono (by omega)
theorem S_addGoblin_I {K : Int} {g : h_T} (h : h_I K g) (s : Int) : h_Ip K (S_addGoblin g s) := by
  have n9 := h.1.n9
  have n0 := h.1.s 0 (by omega)
  unfold S_addGoblin
  split
  · exact h_Ip.rf h
  · split
    · exact h_Ip.rf h
    · exact ⟨(h.1.mono (show K ≤ K + 5300 by omega)).gob (by omega) (by omega) (by omega), h.2.gob n9.1 s⟩
theorem S_addBroom_I {K : Int} {g : h_T} (h : h_I K g) (s : Int) : h_Ip K (S_addBroom g s) := by
  have n0 := h.1.s 0 (by omega)
  unfold S_addBroom
  split
  · exact h_Ip.rf h
  · split
    · exact h_Ip.rf h
    · exact ⟨(h.1.mono (show K ≤ K + 5300 by omega)).bro (by omega) (by omega) (by omega), h.2.bro s⟩
theorem S_banish_I {K : Int} {g : h_T} (h : h_I K g) (s : Int) : h_Ip K (S_banish g s) := by
  unfold S_banish
  split
  · exact h_Ip.rf h
  · split
    · exact h_Ip.rf h
    · exact ⟨(h.1.mono (show K ≤ K + 5300 by omega)).st3 (Or.inr rfl), h.2.st (by omega)⟩
theorem S_recall_I {K : Int} {g : h_T} (h : h_I K g) (s : Int) : h_Ip K (S_recall g s) := by
  unfold S_recall
  split
  · exact h_Ip.rf h
  · split
    · exact h_Ip.rf h
    · exact ⟨(h.1.mono (show K ≤ K + 5300 by omega)).st3 (Or.inl rfl), h.2.st (by omega)⟩
theorem S_rest_I {K : Int} {g : h_T} (h : h_I K g) (s : Int) : h_Ip K (S_rest g s) := by
  unfold S_rest
  split
  · exact h_Ip.rf h
  · split
    · exact h_Ip.rf h
    · exact ⟨(h.1.mono (show K ≤ K + 5300 by omega)).st8 (Or.inr rfl), h.2.st (by omega)⟩
theorem S_wake_I {K : Int} {g : h_T} (h : h_I K g) (s : Int) : h_Ip K (S_wake g s) := by
  unfold S_wake
  split
  · exact h_Ip.rf h
  · split
    · exact h_Ip.rf h
    · exact ⟨(h.1.mono (show K ≤ K + 5300 by omega)).st8 (Or.inl rfl), h.2.st (by omega)⟩
theorem S_hire_I {K : Int} {g : h_T} (h : h_I K g) (x r w e : Int) : h_Ip K (S_hire g x r w e) := by
  have n11 := h.1.n11
  have n0 := h.1.s 0 (by omega)
  unfold S_hire
  split
  · exact h_Ip.rf h
  · split
    · exact h_Ip.rf h
    · split
      · exact h_Ip.rf h
      · split
        · exact h_Ip.rf h
        · rename_i q1 q2 q3 q4
          exact ⟨((h.1.mono (show K ≤ K + 5299 by omega)).con (by omega) (by omega) (by omega) (by omega) (by omega) (by omega)).mono (by omega), h.2.con n11.1 (by simpa using q4)⟩
theorem S_cancel_I {K : Int} {g : h_T} (h : h_I K g) (x : Int) : h_Ip K (S_cancel g x) := by
  have n11 := h.1.n11
  have hp := S_pos_rg (g := g) x (by omega)
  unfold S_cancel
  split
  · exact h_Ip.rf h
  · have c := h.1.co (i := S_pos g x) (by omega)
    have gx := h.1.go (i := g 10 (S_pos g x)) (by omega)
    have n1 := h.1.s 1 (by omega)
    have hc : 0 ≤ S_cut g (S_pos g x) ∧ S_cut g (S_pos g x) ≤ 5 ∧ S_cut g (S_pos g x) ≤ g 0 1 := by unfold S_cut; omega
    refine ⟨?_, ?_⟩
    · exact (((h.1.mono (show K ≤ K + 5300 by omega)).st0 (by omega) (by omega)).st5 (by omega)).del (by simp [hs_at]; omega)
    · refine h_W.del ⟨?_, ?_⟩ (by simp [hs_at]; omega)
      · rw [← h.2.1]
        unfold h_acc
        rw [S_purses_st5 (by simp [hs_at]; omega), S_purses_st (by omega)]
        simp [hs_at]
        omega
      · exact (h.2.2.st (by omega)).st (by omega)
theorem S_lend_I {K : Int} {g : h_T} (h : h_I K g) (x c : Int) : h_Ip K (S_lend g x c) := by
  unfold S_lend
  split
  · exact h_Ip.rf h
  · split
    · exact h_Ip.rf h
    · split
      · exact h_Ip.rf h
      · have gx := h.1.go (i := x) (by omega)
        have n1 := h.1.s 1 (by omega)
        refine ⟨(((h.1.mono (show K ≤ K + 5300 by omega)).st0 (by omega) (by omega)).st5 (by omega)).st6 (by omega), ?_, ?_⟩
        · rw [← h.2.1]
          dsimp only
          rw [h_acc_st (by omega)]
          unfold h_acc
          rw [S_purses_st5 (by simp [hs_at]; omega), S_purses_st (by omega)]
          simp [hs_at]
          omega
        · exact ((h.2.2.st (by omega)).st (by omega)).st (by omega)
theorem S_fund_I {K : Int} {g : h_T} (h : h_I K g) (c : Int) : h_Ip K (S_fund g c) := by
  unfold S_fund
  split
  · exact h_Ip.rf h
  · have n1 := h.1.s 1 (by omega)
    have n2 := h.1.s 2 (by omega)
    refine ⟨((h.1.mono (show K ≤ K + 5300 by omega)).st0 (by omega) (by omega)).st0 (by omega) (by omega), ?_, ?_⟩
    · rw [← h.2.1]
      unfold h_acc
      rw [S_purses_st (by omega), S_purses_st (by omega)]
      simp [hs_at]
      omega
    · exact (h.2.2.st (by omega)).st (by omega)
theorem S_spend_I {K : Int} {g : h_T} (h : h_I K g) (c : Int) : h_Ip K (S_spend g c) := by
  unfold S_spend
  split
  · exact h_Ip.rf h
  · split
    · exact h_Ip.rf h
    · have n1 := h.1.s 1 (by omega)
      have n2 := h.1.s 3 (by omega)
      refine ⟨((h.1.mono (show K ≤ K + 5300 by omega)).st0 (by omega) (by omega)).st0 (by omega) (by omega), ?_, ?_⟩
      · rw [← h.2.1]
        unfold h_acc
        rw [S_purses_st (by omega), S_purses_st (by omega)]
        simp [hs_at]
        omega
      · exact (h.2.2.st (by omega)).st (by omega)
theorem S_pass_I {K : Int} {g : h_T} (h : h_I K g) (n : Int) : h_Ip K (S_pass g n) := by
  unfold S_pass
  split
  · exact h_Ip.rf h
  · exact ⟨h.1.nights3 _ (by omega), h_W.nights h.1 h.2 _⟩
theorem S_exec_I {K : Int} {g : h_T} (h : h_I K g) (k : Nat) (f : Int → Int) : h_Ip K (S_exec g k f) := by
  unfold S_exec
  split
  · exact S_addGoblin_I h _
  · exact S_addBroom_I h _
  · exact S_banish_I h _
  · exact S_recall_I h _
  · exact S_hire_I h _ _ _ _
  · exact S_cancel_I h _
  · exact S_rest_I h _
  · exact S_wake_I h _
  · exact S_lend_I h _ _
  · exact S_fund_I h _
  · exact S_spend_I h _
  · exact S_pass_I h _
  · exact S_pass_I h _

