/-- the bounds, with K for what grows -/
def h_BK (K : Int) (g : h_T) : Prop := (∀ k : Int, 0 ≤ k ∧ k < 12 → 0 ≤ g 0 k ∧ g 0 k ≤ K) ∧ g 0 8 ≤ 4 ∧ g 0 9 ≤ 5 ∧ g 0 11 ≤ 8 ∧
  (∀ i : Int, 0 ≤ i ∧ i < 6 → 0 ≤ g 1 i ∧ g 1 i ≤ 99) ∧ (∀ i : Int, 0 ≤ i ∧ i < g 0 8 → 1 ≤ g 2 i ∧ g 2 i ≤ 20 ∧ (g 3 i = 0 ∨ g 3 i = 1)) ∧
  (∀ i : Int, 0 ≤ i ∧ i < g 0 9 → 1 ≤ g 4 i ∧ g 4 i ≤ 9 ∧ 0 ≤ g 5 i ∧ g 5 i ≤ K ∧ 0 ≤ g 6 i ∧ g 6 i ≤ 999 ∧ 0 ≤ g 7 i ∧ g 7 i ≤ K ∧ (g 8 i = 0 ∨ g 8 i = 1)) ∧
  (∀ i : Int, 0 ≤ i ∧ i < g 0 11 → 0 ≤ g 9 i ∧ g 9 i ≤ K ∧ 0 ≤ g 10 i ∧ g 10 i < g 0 9 ∧ 0 ≤ g 11 i ∧ g 11 i < 6 ∧ 1 ≤ g 12 i ∧ g 12 i ≤ 50 ∧ 1 ≤ g 13 i ∧ g 13 i ≤ 20)
theorem h_BK.mono {K K2 : Int} {g : h_T} (h : h_BK K g) (hk : K ≤ K2) : h_BK K2 g := by
  obtain ⟨h0, h1, h2, h3, h4, h5, h6, h7⟩ := h
  exact ⟨fun k q => by have := h0 k q; omega, h1, h2, h3, h4, h5, fun i q => by have := h6 i q; omega, fun i q => by have := h7 i q; omega⟩
theorem h_BK.toB {K : Int} {g : h_T} (h : h_BK K g) (hk : K ≤ 100000000) : h_B g := h.mono hk
theorem h_BK.s {K : Int} {g : h_T} (h : h_BK K g) (k : Int) (hk : 0 ≤ k ∧ k < 12) : 0 ≤ g 0 k ∧ g 0 k ≤ K := h.1 k hk
theorem h_BK.n8 {K : Int} {g : h_T} (h : h_BK K g) : 0 ≤ g 0 8 ∧ g 0 8 ≤ 4 := ⟨(h.1 8 (by omega)).1, h.2.1⟩
theorem h_BK.n9 {K : Int} {g : h_T} (h : h_BK K g) : 0 ≤ g 0 9 ∧ g 0 9 ≤ 5 := ⟨(h.1 9 (by omega)).1, h.2.2.1⟩
theorem h_BK.n11 {K : Int} {g : h_T} (h : h_BK K g) : 0 ≤ g 0 11 ∧ g 0 11 ≤ 8 := ⟨(h.1 11 (by omega)).1, h.2.2.2.1⟩
theorem h_BK.du {K : Int} {g : h_T} (h : h_BK K g) {i : Int} (hi : 0 ≤ i ∧ i < 6) : 0 ≤ g 1 i ∧ g 1 i ≤ 99 := h.2.2.2.2.1 i hi
theorem h_BK.br {K : Int} {g : h_T} (h : h_BK K g) {i : Int} (hi : 0 ≤ i ∧ i < g 0 8) : 1 ≤ g 2 i ∧ g 2 i ≤ 20 ∧ (g 3 i = 0 ∨ g 3 i = 1) := h.2.2.2.2.2.1 i hi
theorem h_BK.go {K : Int} {g : h_T} (h : h_BK K g) {i : Int} (hi : 0 ≤ i ∧ i < g 0 9) : 1 ≤ g 4 i ∧ g 4 i ≤ 9 ∧ 0 ≤ g 5 i ∧ g 5 i ≤ K ∧ 0 ≤ g 6 i ∧ g 6 i ≤ 999 ∧ 0 ≤ g 7 i ∧ g 7 i ≤ K ∧ (g 8 i = 0 ∨ g 8 i = 1) := h.2.2.2.2.2.2.1 i hi
theorem h_BK.co {K : Int} {g : h_T} (h : h_BK K g) {i : Int} (hi : 0 ≤ i ∧ i < g 0 11) : 0 ≤ g 9 i ∧ g 9 i ≤ K ∧ 0 ≤ g 10 i ∧ g 10 i < g 0 9 ∧ 0 ≤ g 11 i ∧ g 11 i < 6 ∧ 1 ≤ g 12 i ∧ g 12 i ≤ 50 ∧ 1 ≤ g 13 i ∧ g 13 i ≤ 20 := h.2.2.2.2.2.2.2 i hi
theorem h_BK.st1 {K : Int} {g : h_T} (h : h_BK K g) {i v : Int} (hv : 0 ≤ v ∧ v ≤ 99) : h_BK K (hs g 1 i v) := by
  have e3 : ∀ j, hs g 1 i v 1 j = v ∨ hs g 1 i v 1 j = g 1 j := fun j => by
    rw [hs_at]; split
    · exact Or.inl rfl
    · exact Or.inr rfl
  obtain ⟨h0, h1, h2, h3, h4, h5, h6, h7⟩ := h
  unfold h_BK
  rw [(hs_c (by decide) : hs g 1 i v 0 = g 0), (hs_c (by decide) : hs g 1 i v 2 = g 2), (hs_c (by decide) : hs g 1 i v 3 = g 3), (hs_c (by decide) : hs g 1 i v 4 = g 4), (hs_c (by decide) : hs g 1 i v 5 = g 5), (hs_c (by decide) : hs g 1 i v 6 = g 6), (hs_c (by decide) : hs g 1 i v 7 = g 7), (hs_c (by decide) : hs g 1 i v 8 = g 8), (hs_c (by decide) : hs g 1 i v 9 = g 9), (hs_c (by decide) : hs g 1 i v 10 = g 10), (hs_c (by decide) : hs g 1 i v 11 = g 11), (hs_c (by decide) : hs g 1 i v 12 = g 12), (hs_c (by decide) : hs g 1 i v 13 = g 13)]
  exact ⟨h0, h1, h2, h3, fun j hj => by have a := h4 j hj; rcases e3 j with w | w <;> rw [w] <;> omega, h5, h6, h7⟩
theorem h_BK.st5 {K : Int} {g : h_T} (h : h_BK K g) {i v : Int} (hv : 0 ≤ v ∧ v ≤ K) : h_BK K (hs g 5 i v) := by
  have e3 : ∀ j, hs g 5 i v 5 j = v ∨ hs g 5 i v 5 j = g 5 j := fun j => by
    rw [hs_at]; split
    · exact Or.inl rfl
    · exact Or.inr rfl
  obtain ⟨h0, h1, h2, h3, h4, h5, h6, h7⟩ := h
  unfold h_BK
  rw [(hs_c (by decide) : hs g 5 i v 0 = g 0), (hs_c (by decide) : hs g 5 i v 1 = g 1), (hs_c (by decide) : hs g 5 i v 2 = g 2), (hs_c (by decide) : hs g 5 i v 3 = g 3), (hs_c (by decide) : hs g 5 i v 4 = g 4), (hs_c (by decide) : hs g 5 i v 6 = g 6), (hs_c (by decide) : hs g 5 i v 7 = g 7), (hs_c (by decide) : hs g 5 i v 8 = g 8), (hs_c (by decide) : hs g 5 i v 9 = g 9), (hs_c (by decide) : hs g 5 i v 10 = g 10), (hs_c (by decide) : hs g 5 i v 11 = g 11), (hs_c (by decide) : hs g 5 i v 12 = g 12), (hs_c (by decide) : hs g 5 i v 13 = g 13)]
  exact ⟨h0, h1, h2, h3, h4, h5, fun j hj => by have a := h6 j hj; rcases e3 j with w | w <;> rw [w] <;> omega, h7⟩
theorem h_BK.st6 {K : Int} {g : h_T} (h : h_BK K g) {i v : Int} (hv : 0 ≤ v ∧ v ≤ 999) : h_BK K (hs g 6 i v) := by
  have e3 : ∀ j, hs g 6 i v 6 j = v ∨ hs g 6 i v 6 j = g 6 j := fun j => by
    rw [hs_at]; split
    · exact Or.inl rfl
    · exact Or.inr rfl
  obtain ⟨h0, h1, h2, h3, h4, h5, h6, h7⟩ := h
  unfold h_BK
  rw [(hs_c (by decide) : hs g 6 i v 0 = g 0), (hs_c (by decide) : hs g 6 i v 1 = g 1), (hs_c (by decide) : hs g 6 i v 2 = g 2), (hs_c (by decide) : hs g 6 i v 3 = g 3), (hs_c (by decide) : hs g 6 i v 4 = g 4), (hs_c (by decide) : hs g 6 i v 5 = g 5), (hs_c (by decide) : hs g 6 i v 7 = g 7), (hs_c (by decide) : hs g 6 i v 8 = g 8), (hs_c (by decide) : hs g 6 i v 9 = g 9), (hs_c (by decide) : hs g 6 i v 10 = g 10), (hs_c (by decide) : hs g 6 i v 11 = g 11), (hs_c (by decide) : hs g 6 i v 12 = g 12), (hs_c (by decide) : hs g 6 i v 13 = g 13)]
  exact ⟨h0, h1, h2, h3, h4, h5, fun j hj => by have a := h6 j hj; rcases e3 j with w | w <;> rw [w] <;> omega, h7⟩
theorem h_BK.st7 {K : Int} {g : h_T} (h : h_BK K g) {i v : Int} (hv : 0 ≤ v ∧ v ≤ K) : h_BK K (hs g 7 i v) := by
  have e3 : ∀ j, hs g 7 i v 7 j = v ∨ hs g 7 i v 7 j = g 7 j := fun j => by
    rw [hs_at]; split
    · exact Or.inl rfl
    · exact Or.inr rfl
  obtain ⟨h0, h1, h2, h3, h4, h5, h6, h7⟩ := h
  unfold h_BK
  rw [(hs_c (by decide) : hs g 7 i v 0 = g 0), (hs_c (by decide) : hs g 7 i v 1 = g 1), (hs_c (by decide) : hs g 7 i v 2 = g 2), (hs_c (by decide) : hs g 7 i v 3 = g 3), (hs_c (by decide) : hs g 7 i v 4 = g 4), (hs_c (by decide) : hs g 7 i v 5 = g 5), (hs_c (by decide) : hs g 7 i v 6 = g 6), (hs_c (by decide) : hs g 7 i v 8 = g 8), (hs_c (by decide) : hs g 7 i v 9 = g 9), (hs_c (by decide) : hs g 7 i v 10 = g 10), (hs_c (by decide) : hs g 7 i v 11 = g 11), (hs_c (by decide) : hs g 7 i v 12 = g 12), (hs_c (by decide) : hs g 7 i v 13 = g 13)]
  exact ⟨h0, h1, h2, h3, h4, h5, fun j hj => by have a := h6 j hj; rcases e3 j with w | w <;> rw [w] <;> omega, h7⟩
theorem h_BK.st0 {K : Int} {g : h_T} (h : h_BK K g) {i v : Int} (hi : i ≠ 8 ∧ i ≠ 9 ∧ i ≠ 11) (hv : 0 ≤ v ∧ v ≤ K) : h_BK K (hs g 0 i v) := by
  have e3 : ∀ j, hs g 0 i v 0 j = v ∨ hs g 0 i v 0 j = g 0 j := fun j => by
    rw [hs_at]; split
    · exact Or.inl rfl
    · exact Or.inr rfl
  have e8 : hs g 0 i v 0 8 = g 0 8 := hs_i (by omega)
  have e9 : hs g 0 i v 0 9 = g 0 9 := hs_i (by omega)
  have e11 : hs g 0 i v 0 11 = g 0 11 := hs_i (by omega)
  obtain ⟨h0, h1, h2, h3, h4, h5, h6, h7⟩ := h
  unfold h_BK
  rw [e8, e9, e11, (hs_c (by decide) : hs g 0 i v 1 = g 1), (hs_c (by decide) : hs g 0 i v 2 = g 2), (hs_c (by decide) : hs g 0 i v 3 = g 3), (hs_c (by decide) : hs g 0 i v 4 = g 4), (hs_c (by decide) : hs g 0 i v 5 = g 5), (hs_c (by decide) : hs g 0 i v 6 = g 6), (hs_c (by decide) : hs g 0 i v 7 = g 7), (hs_c (by decide) : hs g 0 i v 8 = g 8), (hs_c (by decide) : hs g 0 i v 9 = g 9), (hs_c (by decide) : hs g 0 i v 10 = g 10), (hs_c (by decide) : hs g 0 i v 11 = g 11), (hs_c (by decide) : hs g 0 i v 12 = g 12), (hs_c (by decide) : hs g 0 i v 13 = g 13)]
  exact ⟨fun k hk => by have a := h0 k hk; rcases e3 k with w | w <;> rw [w] <;> omega, h1, h2, h3, h4, h5, h6, h7⟩
theorem h_BK.del {K : Int} {g : h_T} (h : h_BK K g) {p : Int} (hp : 0 ≤ p ∧ p < g 0 11) : h_BK K (S_del g p) := by
  obtain ⟨h0, h1, h2, h3, h4, h5, h6, h7⟩ := h
  have es : ∀ k : Int, S_del g p 0 k = if k = 11 then g 0 11 - 1 else g 0 k := fun k => by simp [S_del]
  have eo : ∀ c, c ≠ 0 → c < 9 → S_del g p c = g c := fun c q1 q2 => by funext i; simp [S_del, q1, show ¬ (9 ≤ c ∧ c ≤ 13) by omega]
  have ec : ∀ c, 9 ≤ c ∧ c ≤ 13 → ∀ i, S_del g p c i = if i < p then g c i else g c (i + 1) := fun c q i => by simp [S_del, q]
  unfold h_BK
  rw [es 8, es 9, es 11, eo 1 (by decide) (by decide), eo 2 (by decide) (by decide), eo 3 (by decide) (by decide), eo 4 (by decide) (by decide), eo 5 (by decide) (by decide), eo 6 (by decide) (by decide), eo 7 (by decide) (by decide), eo 8 (by decide) (by decide)]
  refine ⟨fun k hk => ?_, h1, h2, by rw [if_pos rfl]; omega, h4, h5, h6, fun i hi => ?_⟩
  · rw [es]
    have a := h0 k hk
    have b := h0 11 (by omega)
    split <;> omega
  · rw [if_pos rfl] at hi
    rw [ec 9 (by omega), ec 10 (by omega), ec 11 (by omega), ec 12 (by omega), ec 13 (by omega)]
    simp only [show ¬ ((9 : Int) = 11) from by decide, if_false]
    split
    · exact h7 i (by omega)
    · exact h7 (i + 1) (by omega)
theorem S_pay_n {g : h_T} {x w k : Int} (hk : k ≠ 6 ∧ k ≠ 1) : S_pay g x w 0 k = g 0 k := by simp [S_pay, hs_at, hk]
theorem h_BK.pay {K : Int} {g : h_T} (h : h_BK K g) {x w : Int} (hx : 0 ≤ x ∧ x < g 0 9) (hw : 1 ≤ w ∧ w ≤ 50) : h_BK (K + 50) (S_pay g x w) := by
  have h1 := h.s 1 (by omega)
  have h6 := h.s 6 (by omega)
  have gx := h.go hx
  have h' := h.mono (show K ≤ K + 50 by omega)
  unfold S_pay
  exact (((h'.st0 (by omega) (by omega)).st0 (by omega) (by omega)).st6 (by omega)).st5 (by omega)
theorem h_BK.sweep {K : Int} {g : h_T} (h : h_BK K g) {p : Int} (hp : 0 ≤ p ∧ p < g 0 11) (hg : 0 ≤ S_great g) : h_BK K (S_sweep g p) := by
  have a := h.co hp
  have b := h.du (i := g 11 p) (by omega)
  exact h.st1 (by omega)
theorem h_BK.great {K : Int} {g : h_T} (h : h_BK K g) : 0 ≤ S_great g ∧ S_great g ≤ 20 :=
  h_max_bd (by omega) (fun j hj => by have := (h.br hj).2.1; split <;> omega)
theorem h_BK.inUse {K : Int} {g : h_T} (h : h_BK K g) : 0 ≤ S_inUse g ∧ S_inUse g ≤ 4 := by
  have h8 := h.n8
  have := h_sum_bd (f := fun j => 1 - g 3 j) (B := 1) (n := g 0 8) (by omega) (fun j hj => by have := (h.br hj).2.2; omega)
  unfold S_inUse
  omega
theorem S_do_n {g : h_T} {x p k : Int} (hk : k ≠ 6 ∧ k ≠ 1 ∧ k ≠ 4) : S_do g x p 0 k = if k = 11 then g 0 11 - 1 else g 0 k := by
  simp [S_do, S_del, hs_at, hk, S_pay_n, S_sweep]
theorem h_BK.do_ {K : Int} {g : h_T} (h : h_BK K g) {x p : Int} (hx : 0 ≤ x ∧ x < g 0 9) (hp : 0 ≤ p ∧ p < g 0 11) : h_BK (K + 50) (S_do g x p) := by
  have a := h.co hp
  have hs1 : h_BK K (S_sweep g p) := h.sweep hp h.great.1
  have e9 : S_sweep g p 0 9 = g 0 9 := rfl
  have e11 : S_sweep g p 0 11 = g 0 11 := rfl
  have h2 := hs1.pay (x := x) (w := g 12 p) (by rw [e9]; exact hx) (by omega)
  have h3 := h2.del (p := p) (by rw [S_pay_n (by omega), e11]; exact hp)
  have h4 := h.s 4 (by omega)
  exact h3.st0 (by omega) (by omega)
theorem S_first_rg {g : h_T} (x : Int) (h : 0 ≤ g 0 11) : S_first g x = -1 ∨ (0 ≤ S_first g x ∧ S_first g x < g 0 11 ∧ g 10 (S_first g x) = x) := by
  have := h_find_rg (p := fun i => decide (g 10 i = x)) (g 0 11).toNat 0 (by omega)
  rcases this with q | ⟨q1, q2, q3, -⟩
  · exact Or.inl q
  · refine Or.inr ⟨q1, ?_, of_decide_eq_true q3⟩
    unfold S_first
    omega
theorem S_pos_rg {g : h_T} (x : Int) (h : 0 ≤ g 0 11) : S_pos g x = -1 ∨ (0 ≤ S_pos g x ∧ S_pos g x < g 0 11 ∧ g 9 (S_pos g x) = x) := by
  have := h_find_rg (p := fun i => decide (g 9 i = x)) (g 0 11).toNat 0 (by omega)
  rcases this with q | ⟨q1, q2, q3, -⟩
  · exact Or.inl q
  · refine Or.inr ⟨q1, ?_, of_decide_eq_true q3⟩
    unfold S_pos
    omega
theorem h_BK.work {x : Int} : ∀ (n : Nat) {K : Int} {g : h_T} (e : Int), h_BK K g → 0 ≤ x ∧ x < g 0 9 → h_BK (K + 50 * n) (S_work x n g e) ∧ S_work x n g e 0 9 = g 0 9 ∧ S_work x n g e 0 8 = g 0 8 := by
  intro n
  induction n with
  | zero => intro K g e h hx; exact ⟨h.mono (by omega), rfl, rfl⟩
  | succ n ih =>
    intro K g e h hx
    rw [S_work]
    split
    · exact ⟨h.mono (by omega), rfl, rfl⟩
    · rename_i q
      rcases S_first_rg (g := g) x h.n11.1 with z | ⟨z1, z2, z3⟩
      · exact absurd (Or.inl z) q
      · have hd := h.do_ (x := x) (p := S_first g x) hx ⟨z1, z2⟩
        have e9 : S_do g x (S_first g x) 0 9 = g 0 9 := by rw [S_do_n (by omega)]; rfl
        have e8 : S_do g x (S_first g x) 0 8 = g 0 8 := by rw [S_do_n (by omega)]; rfl
        have r := ih (e - g 13 (S_first g x)) hd (by rw [e9]; exact hx)
        exact ⟨r.1.mono (by omega), r.2.1.trans e9, r.2.2.trans e8⟩
theorem S_del_n {g : h_T} {p k : Int} (hk : k ≠ 11) : S_del g p 0 k = g 0 k := by simp [S_del, hk]
theorem h_BK.brk : ∀ (k : Nat) {K : Int} {g : h_T}, h_BK K g → (k : Int) ≤ g 0 11 → h_BK (K + k) (S_brk k g) ∧ S_brk k g 0 9 = g 0 9 ∧ S_brk k g 0 8 = g 0 8 ∧ S_brk k g 0 0 = g 0 0 := by
  intro k
  induction k with
  | zero => intro K g h hk; exact ⟨h.mono (by omega), rfl, rfl, rfl⟩
  | succ k ih =>
    intro K g h hk
    rw [S_brk]
    have e5 := h.s 5 (by omega)
    split
    · have h1 := ((h.mono (show K ≤ K + 1 by omega)).del (p := (k : Int)) (by omega)).st0 (i := 5) (v := g 0 5 + 1) (by omega) (by omega)
      have q11 : hs (S_del g (k : Int)) 0 5 (g 0 5 + 1) 0 11 = g 0 11 - 1 := by simp [hs_at, S_del]
      have r := ih h1 (by rw [q11]; omega)
      refine ⟨r.1.mono (by omega), r.2.1.trans ?_, r.2.2.1.trans ?_, r.2.2.2.trans ?_⟩ <;> simp [hs_at, S_del]
    · have r := ih h (by omega)
      exact ⟨r.1.mono (by omega), r.2.1, r.2.2.1, r.2.2.2⟩
theorem S_grown_bd {d : Int} (h : 0 < d ∧ d ≤ 999) : 0 ≤ S_grown d ∧ S_grown d ≤ 999 ∧ d ≤ S_grown d := by unfold S_grown; omega
theorem h_BK.grow1 {K : Int} {g : h_T} (h : h_BK K g) {x : Int} (hx : 0 ≤ x ∧ x < g 0 9) : h_BK (K + 1000) (S_grow1 g x) ∧ S_grow1 g x 0 9 = g 0 9 ∧ S_grow1 g x 0 8 = g 0 8 := by
  have gx := h.go hx
  have e7 := h.s 7 (by omega)
  unfold S_grow1
  split
  · have b := S_grown_bd (d := g 6 x) (by omega)
    exact ⟨((h.mono (show K ≤ K + 1000 by omega)).st0 (by omega) (by omega)).st6 (by omega), rfl, rfl⟩
  · exact ⟨h.mono (by omega), rfl, rfl⟩
theorem h_BK.grow {K : Int} {g : h_T} (h : h_BK K g) : ∀ k : Nat, (k : Int) ≤ g 0 9 → h_BK (K + 1000 * k) (S_grow g k) ∧ S_grow g k 0 9 = g 0 9 ∧ S_grow g k 0 8 = g 0 8 := by
  intro k
  induction k with
  | zero => intro _; exact ⟨h.mono (by omega), rfl, rfl⟩
  | succ k ih =>
    intro hk
    have r := ih (by omega)
    have q := r.1.grow1 (x := (k : Int)) (by rw [r.2.1]; omega)
    exact ⟨q.1.mono (by omega), q.2.1.trans r.2.1, q.2.2.trans r.2.2⟩
theorem S_dust_o {g : h_T} (k : Nat) {c : Nat} (hc : c ≠ 1) : S_dust g k c = g c := by
  induction k with
  | zero => rfl
  | succ k ih => rw [S_dust, hs_c hc, ih]
theorem h_BK.dust {K : Int} {g : h_T} (h : h_BK K g) : ∀ k : Nat, k ≤ 6 → h_BK K (S_dust g k) := by
  intro k
  induction k with
  | zero => intro _; exact h
  | succ k ih =>
    intro hk
    have r := ih (by omega)
    have q := r.du (i := (k : Int)) (by omega)
    exact r.st1 (by omega)
theorem h_BK.turn {K : Int} {g : h_T} (h : h_BK K g) {x : Int} (hx : 0 ≤ x ∧ x < g 0 9) : h_BK (K + 401) (S_turn g x) ∧ S_turn g x 0 9 = g 0 9 ∧ S_turn g x 0 8 = g 0 8 := by
  have gx := h.go hx
  have h0 := h.s 0 (by omega)
  unfold S_turn
  split
  · have h1 := (h.mono (show K ≤ K + 1 by omega)).st7 (i := x) (v := 0) (by omega)
    have r := h1.work (x := x) 8 (S_energy (hs g 7 x 0) x) hx
    exact ⟨r.1.mono (by omega), r.2.1, r.2.2⟩
  · exact ⟨((h.mono (show K ≤ K + 401 by omega)).st7 (by omega)), rfl, rfl⟩
theorem h_BK.turns {K : Int} {g : h_T} (h : h_BK K g) : ∀ k : Nat, (k : Int) ≤ g 0 9 → h_BK (K + 401 * k) (S_turns g k) ∧ S_turns g k 0 9 = g 0 9 ∧ S_turns g k 0 8 = g 0 8 := by
  intro k
  induction k with
  | zero => intro _; exact ⟨h.mono (by omega), rfl, rfl⟩
  | succ k ih =>
    intro hk
    have r := ih (by omega)
    have q := r.1.turn (x := (k : Int)) (by rw [r.2.1]; omega)
    exact ⟨q.1.mono (by omega), q.2.1.trans r.2.1, q.2.2.trans r.2.2⟩
theorem h_BK.n1 {K : Int} {g : h_T} (h : h_BK K g) : h_BK (K + 1) (S_n1 g) ∧ S_n1 g 0 9 = g 0 9 ∧ S_n1 g 0 8 = g 0 8 := by
  have h0 := h.s 0 (by omega)
  refine ⟨((h.mono (show K ≤ K + 1 by omega)).st0 (by omega) (by omega)).dust 6 (by omega), ?_, ?_⟩ <;> (unfold S_n1; rw [S_dust_o 6 (by decide)]; rfl)
theorem h_BK.n2 {K : Int} {g : h_T} (h : h_BK K g) : h_BK (K + 3000) (S_n2 g) ∧ S_n2 g 0 9 = g 0 9 ∧ S_n2 g 0 8 = g 0 8 := by
  have h1 := h.n1
  have n9 := h1.1.n9
  have r := h1.1.turns (S_n1 g 0 9).toNat (by omega)
  exact ⟨r.1.mono (by omega), r.2.1.trans h1.2.1, r.2.2.trans h1.2.2⟩
theorem h_BK.n3 {K : Int} {g : h_T} (h : h_BK K g) : h_BK (K + 3008) (S_n3 g) ∧ S_n3 g 0 9 = g 0 9 ∧ S_n3 g 0 8 = g 0 8 ∧ S_n3 g 0 0 = S_n2 g 0 0 := by
  have h1 := h.n2
  have n11 := h1.1.n11
  have r := h1.1.brk (S_n2 g 0 11).toNat (by omega)
  exact ⟨r.1.mono (by omega), r.2.1.trans h1.2.1, r.2.2.1.trans h1.2.2, r.2.2.2⟩
theorem h_BK.night {K : Int} {g : h_T} (h : h_BK K g) : h_BK (K + 9000) (S_night g) ∧ S_night g 0 9 = g 0 9 ∧ S_night g 0 8 = g 0 8 := by
  have h1 := h.n3
  have n9 := h1.1.n9
  unfold S_night
  split
  · have r := h1.1.grow (S_n3 g 0 9).toNat (by omega)
    exact ⟨r.1.mono (by omega), r.2.1.trans h1.2.1, r.2.2.trans h1.2.2.1⟩
  · exact ⟨h1.1.mono (by omega), h1.2.1, h1.2.2.1⟩
theorem h_BK.nights {K : Int} {g : h_T} (h : h_BK K g) : ∀ k : Nat, h_BK (K + 9000 * k) (S_nights g k) ∧ S_nights g k 0 9 = g 0 9 ∧ S_nights g k 0 8 = g 0 8 := by
  intro k
  induction k with
  | zero => exact ⟨h.mono (by omega), rfl, rfl⟩
  | succ k ih =>
    have q := ih.1.night
    exact ⟨q.1.mono (by omega), q.2.1.trans ih.2.1, q.2.2.trans ih.2.2⟩
