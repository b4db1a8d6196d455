theorem m_b01 {c : Prop} [Decidable c] {w : Int} (h : (if c then (1 : Int) else 0) = w) : (c ∧ w = 1) ∨ (¬ c ∧ w = 0) := by
  by_cases hc : c
  · rw [if_pos hc] at h; exact Or.inl ⟨hc, h.symm⟩
  · rw [if_neg hc] at h; exact Or.inr ⟨hc, h.symm⟩
theorem h_eq.s {t g : h_T} (h : h_eq t g) (k : Int) (hk : 0 ≤ k ∧ k < 12) : t 0 k = g 0 k := h.1 k hk
theorem h_n1 (g : h_T) : h_n g 1 = 6 := rfl
theorem h_n_br (g : h_T) {c : Nat} (h : 2 ≤ c ∧ c ≤ 3) : h_n g c = g 0 8 := by unfold h_n; rw [if_neg (by omega), if_pos (by omega)]
theorem h_n_go (g : h_T) {c : Nat} (h : 4 ≤ c ∧ c ≤ 8) : h_n g c = g 0 9 := by unfold h_n; rw [if_neg (by omega), if_neg (by omega), if_pos (by omega)]
theorem h_n_co (g : h_T) {c : Nat} (h : 9 ≤ c) : h_n g c = g 0 11 := by unfold h_n; rw [if_neg (by omega), if_neg (by omega), if_neg (by omega)]
theorem h_eq.of {t g : h_T} (h0 : ∀ k : Int, 0 ≤ k ∧ k < 12 → t 0 k = g 0 k) (h1 : ∀ i : Int, 0 ≤ i ∧ i < 6 → t 1 i = g 1 i) (h2 : ∀ (c : Nat) (i : Int), 2 ≤ c ∧ c ≤ 3 → 0 ≤ i ∧ i < g 0 8 → t c i = g c i) (h3 : ∀ (c : Nat) (i : Int), 4 ≤ c ∧ c ≤ 8 → 0 ≤ i ∧ i < g 0 9 → t c i = g c i) (h4 : ∀ (c : Nat) (i : Int), 9 ≤ c ∧ c ≤ 13 → 0 ≤ i ∧ i < g 0 11 → t c i = g c i) : h_eq t g := by
  refine ⟨h0, fun c i hc hi => ?_⟩
  by_cases e1 : c = 1
  · subst e1; exact h1 i (by rw [h_n1] at hi; exact hi)
  · by_cases e2 : c ≤ 3
    · exact h2 c i (by omega) (by rw [h_n_br g (by omega)] at hi; exact hi)
    · by_cases e3 : c ≤ 8
      · exact h3 c i (by omega) (by rw [h_n_go g (by omega)] at hi; exact hi)
      · exact h4 c i (by omega) (by rw [h_n_co g (by omega)] at hi; exact hi)
theorem h_eq.du {t g : h_T} (h : h_eq t g) {i : Int} (hi : 0 ≤ i ∧ i < 6) : t 1 i = g 1 i := h.2 1 i (by omega) (by rw [h_n1]; exact hi)
theorem h_eq.br {t g : h_T} (h : h_eq t g) {c : Nat} {i : Int} (hc : 2 ≤ c ∧ c ≤ 3) (hi : 0 ≤ i ∧ i < g 0 8) : t c i = g c i := h.2 c i (by omega) (by rw [h_n_br g hc]; exact hi)
theorem h_eq.go {t g : h_T} (h : h_eq t g) {c : Nat} {i : Int} (hc : 4 ≤ c ∧ c ≤ 8) (hi : 0 ≤ i ∧ i < g 0 9) : t c i = g c i := h.2 c i (by omega) (by rw [h_n_go g hc]; exact hi)
theorem h_eq.co {t g : h_T} (h : h_eq t g) {c : Nat} {i : Int} (hc : 9 ≤ c ∧ c ≤ 13) (hi : 0 ≤ i ∧ i < g 0 11) : t c i = g c i := h.2 c i (by omega) (by rw [h_n_co g hc.1]; exact hi)
/-- what a chain of stores holds: by the column, by the row -/
theorem hs_at {g : h_T} {c c' : Nat} {i j v : Int} : hs g c i v c' j = if c' = c ∧ j = i then v else g c' j := rfl
theorem h_eq.bro {t g : h_T} (h : h_eq t g) (s : Int) : h_eq (S_bro t s) (S_bro g s) := by
  have e8 := h.s 8 (by omega)
  have es : ∀ k : Int, S_bro g s 0 k = if k = 8 then g 0 8 + 1 else g 0 k := fun k => by simp [S_bro, hs_at]
  refine h_eq.of (fun k hk => ?_) (fun i hi => ?_) (fun c i hc hi => ?_) (fun c i hc hi => ?_) (fun c i hc hi => ?_)
  · have := h.s k hk
    simp [S_bro, hs_at, e8, this]
  · have := h.du hi
    simp [S_bro, hs_at, this]
  · rw [es, if_pos rfl] at hi
    unfold S_bro
    simp only [hs_at, show c ≠ 0 by omega, false_and, if_false, e8]
    by_cases q : i = g 0 8
    · have : c = 2 ∨ c = 3 := by omega
      rcases this with rfl | rfl <;> simp [q]
    · have := h.br hc (i := i) (by omega)
      simp [q, this]
  · rw [es, if_neg (by omega)] at hi
    have := h.go hc hi
    unfold S_bro
    simp only [hs_at, show c ≠ 0 by omega, show c ≠ 2 by omega, show c ≠ 3 by omega, false_and, if_false, this]
  · rw [es, if_neg (by omega)] at hi
    have := h.co hc hi
    unfold S_bro
    simp only [hs_at, show c ≠ 0 by omega, show c ≠ 2 by omega, show c ≠ 3 by omega, false_and, if_false, this]
theorem h_eq.con {t g : h_T} (h : h_eq t g) (x r w e : Int) : h_eq (S_con t x r w e) (S_con g x r w e) := by
  have e11 := h.s 11 (by omega)
  have e10 := h.s 10 (by omega)
  have es : ∀ k : Int, S_con g x r w e 0 k = if k = 10 then g 0 10 + 1 else if k = 11 then g 0 11 + 1 else g 0 k := fun k => by simp [S_con, hs_at]
  refine h_eq.of (fun k hk => ?_) (fun i hi => ?_) (fun c i hc hi => ?_) (fun c i hc hi => ?_) (fun c i hc hi => ?_)
  · have := h.s k hk
    simp [S_con, hs_at, e11, e10, this]
  · have := h.du hi
    simp [S_con, hs_at, this]
  · rw [es, if_neg (by omega), if_neg (by omega)] at hi
    have := h.br hc hi
    unfold S_con
    simp only [hs_at, show c ≠ 0 by omega, show c ≠ 9 by omega, show c ≠ 10 by omega, show c ≠ 11 by omega, show c ≠ 12 by omega, show c ≠ 13 by omega, false_and, if_false, this]
  · rw [es, if_neg (by omega), if_neg (by omega)] at hi
    have := h.go hc hi
    unfold S_con
    simp only [hs_at, show c ≠ 0 by omega, show c ≠ 9 by omega, show c ≠ 10 by omega, show c ≠ 11 by omega, show c ≠ 12 by omega, show c ≠ 13 by omega, false_and, if_false, this]
  · rw [es, if_neg (by omega), if_pos rfl] at hi
    unfold S_con
    simp only [hs_at, show c ≠ 0 by omega, false_and, if_false, e11, e10]
    by_cases q : i = g 0 11
    · have : c = 9 ∨ c = 10 ∨ c = 11 ∨ c = 12 ∨ c = 13 := by omega
      rcases this with rfl | rfl | rfl | rfl | rfl <;> simp [q]
    · have := h.co hc (i := i) (by omega)
      simp [q, this]
theorem h_eq.del {t g : h_T} (h : h_eq t g) (p : Int) : h_eq (S_del t p) (S_del g p) := by
  have e11 := h.s 11 (by omega)
  have es : ∀ k : Int, S_del g p 0 k = if k = 11 then g 0 11 - 1 else g 0 k := fun k => by simp [S_del]
  refine h_eq.of (fun k hk => ?_) (fun i hi => ?_) (fun c i hc hi => ?_) (fun c i hc hi => ?_) (fun c i hc hi => ?_)
  · have := h.s k hk
    simp [S_del, e11, this]
  · have := h.du hi
    simp [S_del, this]
  · rw [es, if_neg (by omega)] at hi
    have := h.br hc hi
    unfold S_del
    simp only [show ¬ (9 ≤ c ∧ c ≤ 13) by omega, show c ≠ 0 by omega, false_and, if_false, this]
  · rw [es, if_neg (by omega)] at hi
    have := h.go hc hi
    unfold S_del
    simp only [show ¬ (9 ≤ c ∧ c ≤ 13) by omega, show c ≠ 0 by omega, false_and, if_false, this]
  · rw [es, if_pos rfl] at hi
    unfold S_del
    rw [if_pos hc, if_pos hc]
    split
    · exact h.co hc (by omega)
    · exact h.co hc (by omega)
theorem h_bit.gob {t : h_T} (h : h_bit t) (s : Int) : h_bit (S_gob t s) := (((((h.st (Or.inl (by decide))).st (Or.inl (by decide))).st (Or.inl (by decide))).st (Or.inl (by decide))).st (Or.inr (Or.inl rfl))).st (Or.inl (by decide))
theorem h_bit.bro {t : h_T} (h : h_bit t) (s : Int) : h_bit (S_bro t s) := ((h.st (Or.inl (by decide))).st (Or.inr (Or.inl rfl))).st (Or.inl (by decide))
theorem h_bit.con {t : h_T} (h : h_bit t) (x r w e : Int) : h_bit (S_con t x r w e) := ((((((h.st (Or.inl (by decide))).st (Or.inl (by decide))).st (Or.inl (by decide))).st (Or.inl (by decide))).st (Or.inl (by decide))).st (Or.inl (by decide))).st (Or.inl (by decide))
theorem h_bit.del {t : h_T} (h : h_bit t) (p : Int) : h_bit (S_del t p) := fun i => by simpa [S_del] using h i
/-- rows moved up by one, from p on, till i -/
def S_sh (t : h_T) (p i : Int) : h_T := fun c j => if (9 ≤ c ∧ c ≤ 13) ∧ p ≤ j ∧ j < i then t c (j + 1) else t c j
theorem S_sh_0 (t : h_T) (p : Int) : S_sh t p p = t := by
  funext c j
  exact if_neg (fun q => by omega)
theorem S_sh_ge {t : h_T} {p i : Int} {c : Nat} {j : Int} (h : i ≤ j) : S_sh t p i c j = t c j := if_neg (fun q => by omega)
theorem S_sh_s {t : h_T} {p i : Int} {k : Int} : S_sh t p i 0 k = t 0 k := if_neg (fun q => by omega)
theorem S_sh_1 {t : h_T} {p i : Int} (h : p ≤ i) : hs (hs (hs (hs (hs (S_sh t p i) 9 i (t 9 (i + 1))) 10 i (t 10 (i + 1))) 11 i (t 11 (i + 1))) 12 i (t 12 (i + 1))) 13 i (t 13 (i + 1)) = S_sh t p (i + 1) := by
  funext c j
  simp only [hs_at, S_sh]
  by_cases hj : j = i
  · subst hj
    by_cases hc : 9 ≤ c ∧ c ≤ 13
    · have : c = 9 ∨ c = 10 ∨ c = 11 ∨ c = 12 ∨ c = 13 := by omega
      rw [if_pos (⟨hc, h, by omega⟩ : (9 ≤ c ∧ c ≤ 13) ∧ p ≤ j ∧ j < j + 1)]
      rcases this with rfl | rfl | rfl | rfl | rfl <;> simp
    · simp only [show c ≠ 9 by omega, show c ≠ 10 by omega, show c ≠ 11 by omega, show c ≠ 12 by omega, show c ≠ 13 by omega, false_and, if_false, hc]
  · simp only [hj, and_false, if_false]
    by_cases q : (9 ≤ c ∧ c ≤ 13) ∧ p ≤ j ∧ j < i
    · rw [if_pos q, if_pos ⟨q.1, q.2.1, by omega⟩]
    · rw [if_neg q, if_neg (fun z => q ⟨z.1, z.2.1, by omega⟩)]
theorem S_sh_del {t : h_T} {p : Int} (h : p < t 0 11) : h_eq (hs (S_sh t p (t 0 11 - 1)) 0 11 (t 0 11 - 1)) (S_del t p) := by
  refine h_eq.of (fun k hk => ?_) (fun i hi => ?_) (fun c i hc hi => ?_) (fun c i hc hi => ?_) (fun c i hc hi => ?_)
  · simp [hs_at, S_sh, S_del]
  · simp [hs_at, S_sh, S_del]
  · simp only [hs_at, S_sh, S_del, show ¬ (9 ≤ c ∧ c ≤ 13) by omega, show c ≠ 0 by omega, false_and, if_false]
  · simp only [hs_at, S_sh, S_del, show ¬ (9 ≤ c ∧ c ≤ 13) by omega, show c ≠ 0 by omega, false_and, if_false]
  · have hi2 : i < t 0 11 - 1 := by
      have := hi.2
      simpa [S_del] using this
    simp only [hs_at, S_sh, S_del, show c ≠ 0 by omega, false_and, if_false, hc, true_and, if_true]
    by_cases q : i < p
    · simp [hc, q, show ¬ (p ≤ i) by omega]
    · simp [hc, q, show p ≤ i by omega, hi2]
