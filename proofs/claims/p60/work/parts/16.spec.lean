/-! what the household's questions answer, of an abstract state -/
def h_sum (f : Int → Int) : Nat → Int
  | 0 => 0
  | n + 1 => h_sum f n + f (n : Int)
def h_max (f : Int → Int) : Nat → Int
  | 0 => 0
  | n + 1 => max (h_max f n) (f (n : Int))
theorem h_sum_succ (f : Int → Int) {i : Int} (h : 0 ≤ i) : h_sum f (i + 1).toNat = h_sum f i.toNat + f i := by
  obtain ⟨n, rfl⟩ := Int.eq_ofNat_of_zero_le h
  rfl
theorem h_max_succ (f : Int → Int) {i : Int} (h : 0 ≤ i) : h_max f (i + 1).toNat = max (h_max f i.toNat) (f i) := by
  obtain ⟨n, rfl⟩ := Int.eq_ofNat_of_zero_le h
  rfl
theorem h_sum_congr {f f2 : Int → Int} {n : Int} (h : ∀ j, 0 ≤ j ∧ j < n → f j = f2 j) : h_sum f n.toNat = h_sum f2 n.toNat := by
  have key : ∀ k : Nat, (k : Int) ≤ n → h_sum f k = h_sum f2 k := by
    intro k
    induction k with
    | zero => intro _; rfl
    | succ k ih => intro hk; rw [h_sum, h_sum, ih (by omega), h k (by omega)]
  by_cases hn : 0 ≤ n
  · exact key n.toNat (by omega)
  · rw [show n.toNat = 0 by omega]; rfl
theorem h_max_congr {f f2 : Int → Int} {n : Int} (h : ∀ j, 0 ≤ j ∧ j < n → f j = f2 j) : h_max f n.toNat = h_max f2 n.toNat := by
  have key : ∀ k : Nat, (k : Int) ≤ n → h_max f k = h_max f2 k := by
    intro k
    induction k with
    | zero => intro _; rfl
    | succ k ih => intro hk; rw [h_max, h_max, ih (by omega), h k (by omega)]
  by_cases hn : 0 ≤ n
  · exact key n.toNat (by omega)
  · rw [show n.toNat = 0 by omega]; rfl
theorem h_sum_bd {f : Int → Int} {B : Int} {n : Int} (hB : 0 ≤ B) (h : ∀ j, 0 ≤ j ∧ j < n → 0 ≤ f j ∧ f j ≤ B) : 0 ≤ h_sum f n.toNat ∧ h_sum f n.toNat ≤ n.toNat * B := by
  have key : ∀ k : Nat, (k : Int) ≤ n → 0 ≤ h_sum f k ∧ h_sum f k ≤ k * B := by
    intro k
    induction k with
    | zero => intro _; simp [h_sum]
    | succ k ih =>
      intro hk
      have h1 := ih (by omega)
      have h2 := h k (by omega)
      rw [h_sum]
      refine ⟨by omega, ?_⟩
      have : ((k + 1 : Nat) : Int) * B = k * B + B := by rw [show ((k + 1 : Nat) : Int) = (k : Int) + 1 from rfl, Int.add_mul, Int.one_mul]
      omega
  by_cases hn : 0 ≤ n
  · exact key n.toNat (by omega)
  · rw [show n.toNat = 0 by omega]; simp [h_sum]
theorem h_max_bd {f : Int → Int} {B : Int} {n : Int} (hB : 0 ≤ B) (h : ∀ j, 0 ≤ j ∧ j < n → f j ≤ B) : 0 ≤ h_max f n.toNat ∧ h_max f n.toNat ≤ B := by
  have key : ∀ k : Nat, (k : Int) ≤ n → 0 ≤ h_max f k ∧ h_max f k ≤ B := by
    intro k
    induction k with
    | zero => intro _; simp only [h_max]; omega
    | succ k ih =>
      intro hk
      have h1 := ih (by omega)
      have h2 := h k (by omega)
      rw [h_max]
      omega
  by_cases hn : 0 ≤ n
  · exact key n.toNat (by omega)
  · rw [show n.toNat = 0 by omega]; simp only [h_max]; omega
/-- the bounds that the walks need -/
def h_B (g : h_T) : Prop := (∀ k : Int, 0 ≤ k ∧ k < 12 → 0 ≤ g 0 k ∧ g 0 k ≤ 100000000) ∧ g 0 8 ≤ 4 ∧ g 0 9 ≤ 5 ∧ g 0 11 ≤ 8 ∧
  (∀ i : Int, 0 ≤ i ∧ i < 6 → 0 ≤ g 1 i ∧ g 1 i ≤ 99) ∧ (∀ i : Int, 0 ≤ i ∧ i < g 0 8 → 1 ≤ g 2 i ∧ g 2 i ≤ 20 ∧ (g 3 i = 0 ∨ g 3 i = 1)) ∧
  (∀ i : Int, 0 ≤ i ∧ i < g 0 9 → 1 ≤ g 4 i ∧ g 4 i ≤ 9 ∧ 0 ≤ g 5 i ∧ g 5 i ≤ 100000000 ∧ 0 ≤ g 6 i ∧ g 6 i ≤ 999 ∧ 0 ≤ g 7 i ∧ g 7 i ≤ 100000000 ∧ (g 8 i = 0 ∨ g 8 i = 1)) ∧
  (∀ i : Int, 0 ≤ i ∧ i < g 0 11 → 0 ≤ g 9 i ∧ g 9 i ≤ 100000000 ∧ 0 ≤ g 10 i ∧ g 10 i < g 0 9 ∧ 0 ≤ g 11 i ∧ g 11 i < 6 ∧ 1 ≤ g 12 i ∧ g 12 i ≤ 50 ∧ 1 ≤ g 13 i ∧ g 13 i ≤ 20)
theorem h_B.s {g : h_T} (h : h_B g) (k : Int) (hk : 0 ≤ k ∧ k < 12) : 0 ≤ g 0 k ∧ g 0 k ≤ 100000000 := h.1 k hk
theorem h_B.n8 {g : h_T} (h : h_B g) : 0 ≤ g 0 8 ∧ g 0 8 ≤ 4 := ⟨(h.1 8 (by omega)).1, h.2.1⟩
theorem h_B.n9 {g : h_T} (h : h_B g) : 0 ≤ g 0 9 ∧ g 0 9 ≤ 5 := ⟨(h.1 9 (by omega)).1, h.2.2.1⟩
theorem h_B.n11 {g : h_T} (h : h_B g) : 0 ≤ g 0 11 ∧ g 0 11 ≤ 8 := ⟨(h.1 11 (by omega)).1, h.2.2.2.1⟩
theorem h_B.du {g : h_T} (h : h_B g) {i : Int} (hi : 0 ≤ i ∧ i < 6) : 0 ≤ g 1 i ∧ g 1 i ≤ 99 := h.2.2.2.2.1 i hi
theorem h_B.br {g : h_T} (h : h_B g) {i : Int} (hi : 0 ≤ i ∧ i < g 0 8) : 1 ≤ g 2 i ∧ g 2 i ≤ 20 ∧ (g 3 i = 0 ∨ g 3 i = 1) := h.2.2.2.2.2.1 i hi
theorem h_B.go {g : h_T} (h : h_B g) {i : Int} (hi : 0 ≤ i ∧ i < g 0 9) : 1 ≤ g 4 i ∧ g 4 i ≤ 9 ∧ 0 ≤ g 5 i ∧ g 5 i ≤ 100000000 ∧ 0 ≤ g 6 i ∧ g 6 i ≤ 999 ∧ 0 ≤ g 7 i ∧ g 7 i ≤ 100000000 ∧ (g 8 i = 0 ∨ g 8 i = 1) := h.2.2.2.2.2.2.1 i hi
theorem h_B.co {g : h_T} (h : h_B g) {i : Int} (hi : 0 ≤ i ∧ i < g 0 11) : 0 ≤ g 9 i ∧ g 9 i ≤ 100000000 ∧ 0 ≤ g 10 i ∧ g 10 i < g 0 9 ∧ 0 ≤ g 11 i ∧ g 11 i < 6 ∧ 1 ≤ g 12 i ∧ g 12 i ≤ 50 ∧ 1 ≤ g 13 i ∧ g 13 i ≤ 20 := h.2.2.2.2.2.2.2 i hi
def S_inUse (g : h_T) : Int := h_sum (fun j => 1 - g 3 j) (g 0 8).toNat
def S_great (g : h_T) : Int := h_max (fun j => if g 3 j = 0 then g 2 j else 0) (g 0 8).toNat
def S_resting (g : h_T) : Int := h_sum (fun j => g 8 j) (g 0 9).toNat
def S_purses (g : h_T) : Int := h_sum (fun j => g 5 j) (g 0 9).toNat
def S_energy (g : h_T) (i : Int) : Int := g 4 i * (S_inUse g + 1)
/-- the first row of n, from i on, of which p holds; n's value -1 if there is none -/
def h_find (p : Int → Bool) : Nat → Int → Int
  | 0, _ => -1
  | n + 1, i => if p i then i else h_find p n (i + 1)
def S_pos (g : h_T) (id : Int) : Int := h_find (fun i => decide (g 9 i = id)) (g 0 11).toNat 0
def S_first (g : h_T) (go : Int) : Int := h_find (fun i => decide (g 10 i = go)) (g 0 11).toNat 0
def S_has (g : h_T) (go rm : Int) : Bool := decide (h_find (fun i => decide (g 10 i = go ∧ g 11 i = rm)) (g 0 11).toNat 0 ≠ -1)
theorem S_inUse_bd {g : h_T} (h : h_B g) : 0 ≤ S_inUse g ∧ S_inUse g ≤ 4 := by
  have h8 := h.n8
  have := h_sum_bd (f := fun j => 1 - g 3 j) (B := 1) (n := g 0 8) (by omega) (fun j hj => by have := (h.br hj).2.2; omega)
  unfold S_inUse
  omega
theorem S_great_bd {g : h_T} (h : h_B g) : 0 ≤ S_great g ∧ S_great g ≤ 20 :=
  h_max_bd (by omega) (fun j hj => by have := (h.br hj).2.1; split <;> omega)
