/-! ranks: of n rows, how many are ahead; each rank is somebody's, and they come in order -/
theorem h_sum_le {f g : Int → Int} : ∀ n : Nat, (∀ j : Int, 0 ≤ j → j < n → f j ≤ g j) → h_sum f n ≤ h_sum g n := by
  intro n
  induction n with
  | zero => intro _; exact Int.le_refl _
  | succ n ih =>
    intro h
    have h1 := ih (fun j a b => h j a (by omega))
    have h2 := h n (by omega) (by omega)
    rw [h_sum, h_sum]
    omega
theorem h_sum_lts {f g : Int → Int} {k : Int} : ∀ n : Nat, (∀ j : Int, 0 ≤ j → j < n → f j ≤ g j) → 0 ≤ k → k < n → f k < g k → h_sum f n < h_sum g n := by
  intro n
  induction n with
  | zero => intro _ h1 h2; omega
  | succ n ih =>
    intro h h1 h2 h3
    rw [h_sum, h_sum]
    by_cases hk : k = n
    · have h4 := h_sum_le n (fun j a b => h j a (by omega))
      rw [hk] at h3
      omega
    · have h4 := ih (fun j a b => h j a (by omega)) h1 (by omega) h3
      have h5 := h n (by omega) (by omega)
      omega
theorem h_sum_cst (c : Int) : ∀ n : Nat, h_sum (fun _ => c) n = n * c := by
  intro n
  induction n with
  | zero => simp [h_sum]
  | succ n ih => rw [h_sum, ih, show ((n + 1 : Nat) : Int) = (n : Int) + 1 from rfl, Int.add_mul, Int.one_mul]
theorem h_sum_addf (f g : Int → Int) : ∀ n : Nat, h_sum (fun j => f j + g j) n = h_sum f n + h_sum g n := by
  intro n
  induction n with
  | zero => rfl
  | succ n ih => rw [h_sum, h_sum, h_sum, ih]; omega
theorem h_sum_swap (F : Int → Int → Int) (n : Nat) : ∀ m : Nat, h_sum (fun r => h_sum (fun a => F r a) n) m = h_sum (fun a => h_sum (fun r => F r a) m) n := by
  intro m
  induction m with
  | zero => exact ((h_sum_cst 0 n).trans (Int.mul_zero _)).symm
  | succ m ih =>
    rw [h_sum, ih, ← h_sum_addf]
    rfl
theorem h_sum_ext {f g : Int → Int} : ∀ n : Nat, (∀ j : Int, 0 ≤ j → j < n → f j = g j) → h_sum f n = h_sum g n := by
  intro n
  induction n with
  | zero => intro _; rfl
  | succ n ih =>
    intro h
    rw [h_sum, h_sum, ih (fun j a b => h j a (by omega)), h n (by omega) (by omega)]
theorem h_sum_ind {k : Int} : ∀ m : Nat, 0 ≤ k → (k < m → h_sum (fun r => if k = r then (1 : Int) else 0) m = 1) ∧ ((m : Int) ≤ k → h_sum (fun r => if k = r then (1 : Int) else 0) m = 0) := by
  intro m h0
  induction m with
  | zero => exact ⟨fun h => by omega, fun _ => rfl⟩
  | succ m ih =>
    refine ⟨fun h => ?_, fun h => ?_⟩
    · rw [h_sum]
      by_cases hk : k = m
      · rw [ih.2 (by omega), if_pos hk]; rfl
      · rw [ih.1 (by omega), if_neg hk]; rfl
    · rw [h_sum, ih.2 (by omega), if_neg (by omega)]; rfl
theorem h_sum_one {f : Int → Int} {r : Int} : ∀ m : Nat, (∀ a b : Int, 0 ≤ a → a < b → b < m → f a ≠ f b) → h_sum (fun a => if f a = r then (1 : Int) else 0) m ≤ 1 ∧ ((∀ a : Int, 0 ≤ a → a < m → f a ≠ r) → h_sum (fun a => if f a = r then (1 : Int) else 0) m = 0) := by
  intro m
  induction m with
  | zero => intro _; exact ⟨by simp only [h_sum]; omega, fun _ => rfl⟩
  | succ m ih =>
    intro h
    obtain ⟨h1, h2⟩ := ih (fun a b x y z => h a b x y (by omega))
    refine ⟨?_, fun h3 => ?_⟩
    · rw [h_sum]
      by_cases hm : f m = r
      · rw [h2 (fun a x y z => h a m x y (by omega) (z.trans hm.symm)), if_pos hm]; omega
      · rw [if_neg hm]; omega
    · rw [h_sum, h2 (fun a x y => h3 a x (by omega)), if_neg (h3 m (by omega) (by omega))]; rfl
def rk (ah : Int → Int → Bool) (n : Nat) (x : Int) : Int := h_sum (fun o => if ah o x = true then 1 else 0) n
def rkO (ah : Int → Int → Bool) (n : Nat) : Prop := (∀ a, ah a a = false) ∧ (∀ a b c, ah a b = true → ah b c = true → ah a c = true) ∧ ∀ a b : Int, 0 ≤ a → a < n → 0 ≤ b → b < n → a ≠ b → ah a b = true ∨ ah b a = true
theorem rk_lt {ah : Int → Int → Bool} {n : Nat} (h : rkO ah n) {a b : Int} (ha : 0 ≤ a ∧ a < n) (hab : ah a b = true) : rk ah n a < rk ah n b := by
  refine h_sum_lts (k := a) n (fun j _ _ => ?_) ha.1 ha.2 ?_
  · by_cases c : ah j a = true
    · rw [if_pos c, if_pos (h.2.1 j a b c hab)]; omega
    · rw [if_neg c]; split <;> omega
  · rw [if_pos hab, if_neg (by rw [h.1 a]; exact Bool.false_ne_true)]; omega
theorem rk_rg {ah : Int → Int → Bool} {n : Nat} (h : rkO ah n) {a : Int} (ha : 0 ≤ a ∧ a < n) : 0 ≤ rk ah n a ∧ rk ah n a < n := by
  have h1 : h_sum (fun _ => 0) n ≤ rk ah n a := h_sum_le n (fun j _ _ => by split <;> omega)
  have h2 : rk ah n a < h_sum (fun _ => 1) n := h_sum_lts (k := a) n (fun j _ _ => by split <;> omega) ha.1 ha.2 (by rw [if_neg (by rw [h.1 a]; exact Bool.false_ne_true)]; omega)
  rw [h_sum_cst] at h1 h2
  omega
theorem rk_inj {ah : Int → Int → Bool} {n : Nat} (h : rkO ah n) {a b : Int} (ha : 0 ≤ a ∧ a < n) (hb : 0 ≤ b ∧ b < n) (he : rk ah n a = rk ah n b) : a = b := by
  by_cases c : a = b
  · exact c
  · rcases h.2.2 a b ha.1 ha.2 hb.1 hb.2 c with q | q
    · have := rk_lt h ha q; omega
    · have := rk_lt h hb q; omega
theorem rk_sur {ah : Int → Int → Bool} {n : Nat} (h : rkO ah n) {r : Int} (hr : 0 ≤ r ∧ r < n) : ∃ a : Int, (0 ≤ a ∧ a < n) ∧ rk ah n a = r := by
  refine Classical.byContradiction (fun hc => ?_)
  have hno : ∀ a : Int, 0 ≤ a → a < n → rk ah n a ≠ r := fun a x y z => hc ⟨a, ⟨x, y⟩, z⟩
  have hone : ∀ q : Int, h_sum (fun a => if rk ah n a = q then (1 : Int) else 0) n ≤ 1 ∧ ((∀ a : Int, 0 ≤ a → a < n → rk ah n a ≠ q) → h_sum (fun a => if rk ah n a = q then (1 : Int) else 0) n = 0) := fun q => h_sum_one n (fun a b x y z e => by have := rk_inj h ⟨x, by omega⟩ ⟨by omega, z⟩ e; omega)
  have hsw := h_sum_swap (fun q a => if rk ah n a = q then (1 : Int) else 0) n n
  have hR : h_sum (fun a => h_sum (fun q => if rk ah n a = q then (1 : Int) else 0) n) n = h_sum (fun _ => 1) n := h_sum_ext n (fun a x y => by
    have := rk_rg h ⟨x, y⟩
    exact (h_sum_ind n this.1).1 this.2)
  have hL : h_sum (fun q => h_sum (fun a => if rk ah n a = q then (1 : Int) else 0) n) n < h_sum (fun _ => 1) n := h_sum_lts (k := r) n (fun j _ _ => (hone j).1) hr.1 hr.2 (by
    show h_sum (fun a => if rk ah n a = r then (1 : Int) else 0) n < 1
    rw [(hone r).2 hno]; omega)
  rw [hsw, hR] at hL
  omega
theorem rk_fd {ah : Int → Int → Bool} {n : Nat} (h : rkO ah n) {r : Int} (hr : 0 ≤ r ∧ r < n) : (0 ≤ h_find (fun a => decide (rk ah n a = r)) n 0 ∧ h_find (fun a => decide (rk ah n a = r)) n 0 < n) ∧ rk ah n (h_find (fun a => decide (rk ah n a = r)) n 0) = r := by
  rcases h_find_rg (p := fun a => decide (rk ah n a = r)) n 0 (by omega) with hq | ⟨h1, h2, h3, -⟩
  · obtain ⟨a, ha, hb⟩ := rk_sur h hr
    have := h_find_no n 0 hq (by omega) a ha.1 (by omega)
    rw [decide_eq_false_iff_not] at this
    exact absurd hb this
  · exact ⟨⟨h1, by omega⟩, of_decide_eq_true h3⟩
theorem rk_no {ah : Int → Int → Bool} {n : Nat} (h : rkO ah n) {r : Int} (hr : r < 0 ∨ (n : Int) ≤ r) : h_find (fun a => decide (rk ah n a = r)) n 0 = -1 := by
  rcases h_find_rg (p := fun a => decide (rk ah n a = r)) n 0 (by omega) with hq | ⟨h1, h2, h3, -⟩
  · exact hq
  · have h4 := of_decide_eq_true h3
    have h5 := rk_rg h (a := h_find (fun a => decide (rk ah n a = r)) n 0) ⟨h1, by omega⟩
    omega
theorem rk_nx {ah : Int → Int → Bool} {n : Nat} (h : rkO ah n) {r : Int} (hr : 0 ≤ r ∧ r + 1 < n) : ah (h_find (fun a => decide (rk ah n a = r)) n 0) (h_find (fun a => decide (rk ah n a = r + 1)) n 0) = true := by
  have h1 := rk_fd h (r := r) (by omega)
  have h2 := rk_fd h (r := r + 1) (by omega)
  rcases h.2.2 _ _ h1.1.1 h1.1.2 h2.1.1 h2.1.2 (fun e => by rw [e] at h1; omega) with q | q
  · exact q
  · have := rk_lt h h2.1 q
    omega
/-- rooms by dust -/
def ahD (g : h_T) (o x : Int) : Bool := decide (g 1 o > g 1 x ∨ (g 1 o = g 1 x ∧ o < x))
theorem ahD_O (g : h_T) : rkO (ahD g) 6 := by
  refine ⟨fun a => ?_, fun a b c h1 h2 => ?_, fun a b _ _ _ _ h => ?_⟩
  · unfold ahD
    rw [decide_eq_false_iff_not]
    omega
  · unfold ahD at *
    rw [decide_eq_true_eq] at *
    omega
  · unfold ahD
    rw [decide_eq_true_eq, decide_eq_true_eq]
    omega
theorem S_rdust_rk (g : h_T) (x : Int) : S_rdust g x = rk (ahD g) 6 x := by
  unfold S_rdust rk ahD
  simp only [decide_eq_true_eq]
theorem S_rbd_fd (g : h_T) (r : Int) : S_rbd g r = h_find (fun a => decide (rk (ahD g) 6 a = r)) 6 0 := by
  unfold S_rbd
  simp only [S_rdust_rk]
theorem S_rbd_in {g : h_T} {r : Int} (hr : 0 ≤ r ∧ r < 6) : 0 ≤ S_rbd g r ∧ S_rbd g r < 6 := by
  have := (rk_fd (ahD_O g) (r := r) (by omega)).1
  rw [S_rbd_fd]
  omega
theorem S_rbd_no {g : h_T} {r : Int} (hr : r < 0 ∨ 6 ≤ r) : S_rbd g r = -1 := by
  rw [S_rbd_fd]
  exact rk_no (ahD_O g) (by omega)
theorem S_rbd_nx {g : h_T} {r : Int} (hr : 0 ≤ r ∧ r < 5) : g 1 (S_rbd g r) > g 1 (S_rbd g (r + 1)) ∨ (g 1 (S_rbd g r) = g 1 (S_rbd g (r + 1)) ∧ S_rbd g r < S_rbd g (r + 1)) := by
  have := rk_nx (ahD_O g) (r := r) (by omega)
  rw [← S_rbd_fd, ← S_rbd_fd] at this
  exact of_decide_eq_true this
/-- goblins by wealth -/
theorem S_ahead_O (g : h_T) (n : Nat) : rkO (S_ahead g) n := by
  refine ⟨fun a => ?_, fun a b c h1 h2 => ?_, fun a b _ _ _ _ h => ?_⟩
  · unfold S_ahead
    rw [decide_eq_false_iff_not]
    omega
  · unfold S_ahead at *
    rw [decide_eq_true_eq] at *
    omega
  · unfold S_ahead
    rw [decide_eq_true_eq, decide_eq_true_eq]
    omega
theorem S_gbw_fd (g : h_T) (r : Int) : S_gbw g r = h_find (fun a => decide (rk (S_ahead g) (g 0 9).toNat a = r)) (g 0 9).toNat 0 := rfl
theorem S_gbw_in {g : h_T} {r : Int} (hr : 0 ≤ r ∧ r < g 0 9) : 0 ≤ S_gbw g r ∧ S_gbw g r < g 0 9 := by
  have := (rk_fd (S_ahead_O g (g 0 9).toNat) (r := r) (by omega)).1
  rw [S_gbw_fd]
  omega
theorem S_gbw_no {g : h_T} {r : Int} (h0 : 0 ≤ g 0 9) (hr : r < 0 ∨ g 0 9 ≤ r) : S_gbw g r = -1 := by
  rw [S_gbw_fd]
  exact rk_no (S_ahead_O g _) (by omega)
theorem S_gbw_nx {g : h_T} {r : Int} (hr : 0 ≤ r ∧ r + 1 < g 0 9) : g 5 (S_gbw g r) - g 6 (S_gbw g r) > g 5 (S_gbw g (r + 1)) - g 6 (S_gbw g (r + 1)) ∨ (g 5 (S_gbw g r) - g 6 (S_gbw g r) = g 5 (S_gbw g (r + 1)) - g 6 (S_gbw g (r + 1)) ∧ (g 4 (S_gbw g r) > g 4 (S_gbw g (r + 1)) ∨ (g 4 (S_gbw g r) = g 4 (S_gbw g (r + 1)) ∧ S_gbw g r < S_gbw g (r + 1)))) := by
  have := rk_nx (S_ahead_O g (g 0 9).toNat) (r := r) (by omega)
  rw [← S_gbw_fd, ← S_gbw_fd] at this
  exact of_decide_eq_true this
/-- the best wages from a contract on -/
def k_F (g : h_T) (x : Int) : Nat → Int → Int → Int
  | 0, _, _ => 0
  | n + 1, i, e => if g 10 i = x ∧ g 13 i ≤ e then max (k_F g x n (i + 1) e) (g 12 i + k_F g x n (i + 1) (e - g 13 i)) else k_F g x n (i + 1) e
theorem k_F_s {g : h_T} {x : Int} {n : Nat} {i e : Int} : k_F g x (n + 1) i e = if g 10 i = x ∧ g 13 i ≤ e then max (k_F g x n (i + 1) e) (g 12 i + k_F g x n (i + 1) (e - g 13 i)) else k_F g x n (i + 1) e := rfl
theorem k_F_snoc {g : h_T} {x : Int} : ∀ (n : Nat) (i e : Int), (∀ j : Int, i ≤ j → j ≤ i + n → 0 ≤ g 13 j) → k_F g x (n + 1) i e = if g 10 (i + n) = x ∧ g 13 (i + n) ≤ e then max (k_F g x n i e) (k_F g x n i (e - g 13 (i + n)) + g 12 (i + n)) else k_F g x n i e := by
  intro n
  induction n with
  | zero =>
    intro i e h
    rw [show i + ((0 : Nat) : Int) = i by omega, k_F]
    simp only [k_F]
    split <;> omega
  | succ n ih =>
    intro i e h
    have h1 := h i (by omega) (by omega)
    have h2 := h (i + ((n + 1 : Nat) : Int)) (by omega) (by omega)
    have hj : ∀ j : Int, i + 1 ≤ j → j ≤ i + 1 + n → 0 ≤ g 13 j := fun j a b => h j (by omega) (by omega)
    have e1 := ih (i + 1) e hj
    have e2 := ih (i + 1) (e - g 13 i) hj
    have hi : i + 1 + (n : Int) = i + ((n + 1 : Nat) : Int) := by omega
    rw [hi] at e1 e2
    have e3 : e - g 13 i - g 13 (i + ((n + 1 : Nat) : Int)) = e - g 13 (i + ((n + 1 : Nat) : Int)) - g 13 i := by omega
    rw [e3] at e2
    rw [k_F_s (n := n + 1), e1, e2, k_F_s (n := n), k_F_s (n := n)]
    generalize g 13 i = f0 at *
    generalize g 13 (i + ((n + 1 : Nat) : Int)) = f1 at *
    generalize g 12 i = w0
    generalize g 12 (i + ((n + 1 : Nat) : Int)) = w1
    generalize g 10 i = a0
    generalize g 10 (i + ((n + 1 : Nat) : Int)) = a1
    generalize k_F g x n (i + 1) e = A
    generalize k_F g x n (i + 1) (e - f0) = B
    generalize k_F g x n (i + 1) (e - f1) = C
    generalize k_F g x n (i + 1) (e - f1 - f0) = E
    clear e1 e2 e3 hj h ih hi
    (repeat' split) <;> omega
theorem k_F_ks {g : h_T} (hB : h_B g) (x : Int) : ∀ (n : Nat) (e : Int), (n : Int) ≤ g 0 11 → k_F g x n 0 e = h_ks g x n e := by
  intro n
  induction n with
  | zero => intro e _; rfl
  | succ n ih =>
    intro e hn
    rw [k_F_snoc n 0 e (fun j a b => by have := hB.co (i := j) (by omega); omega), show (0 : Int) + (n : Int) = n by omega, h_ks, ih e (by omega), ih (e - g 13 (n : Int)) (by omega)]
theorem k_F_bd {g : h_T} (hB : h_B g) (x : Int) : ∀ (n : Nat) (i e : Int), 0 ≤ i → i + n ≤ g 0 11 → 0 ≤ k_F g x n i e ∧ k_F g x n i e ≤ 50 * n := by
  intro n
  induction n with
  | zero => intro i e _ _; exact ⟨Int.le_refl _, Int.le_refl _⟩
  | succ n ih =>
    intro i e h0 h1
    have c := hB.co (i := i) (by omega)
    have i1 := ih (i + 1) e (by omega) (by omega)
    have i2 := ih (i + 1) (e - g 13 i) (by omega) (by omega)
    rw [k_F]
    split <;> omega
