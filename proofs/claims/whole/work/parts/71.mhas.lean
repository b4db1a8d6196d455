/-- a contract with this id and of this goblin is open -/
def hasR (g : h_T) (y x : Int) : Prop := ∃ i : Int, (0 ≤ i ∧ i < g 0 11) ∧ g 9 i = y ∧ g 10 i = x
theorem hasR.eq {t g : h_T} (h : h_eq t g) {y x : Int} (hr : hasR g y x) : hasR t y x := by
  obtain ⟨i, hi, h9, h10⟩ := hr
  have e := h.s 11 (by omega)
  exact ⟨i, by omega, (h.co (by decide) hi).trans h9, (h.co (by decide) hi).trans h10⟩
theorem hasR.pos {g : h_T} {y x : Int} (hr : hasR g y x) : S_pos g y ≠ -1 := by
  obtain ⟨i, hi, h9, h10⟩ := hr
  intro z
  have := h_find_no (p := fun i => decide (g 9 i = y)) (g 0 11).toNat 0 z (by omega) i hi.1 (by omega)
  simp [h9] at this
theorem hasR.of {g : h_T} (h0 : 0 ≤ g 0 11) {y : Int} (h : S_pos g y ≠ -1) : hasR g y (g 10 (S_pos g y)) := by
  rcases S_pos_rg (g := g) y h0 with h1 | ⟨h1, h2, h3⟩
  · exact absurd h1 h
  · exact ⟨_, ⟨h1, h2⟩, h3, rfl⟩
theorem S_dm_co {g : h_T} {x p : Int} {c : Nat} (hc : 9 ≤ c ∧ c ≤ 13) (i : Int) : S_dm g x p c i = if i < p then g c i else g c (i + 1) := by
  unfold S_dm S_del
  rw [if_pos hc]
  have e : S_pay (S_sweep g p) x (g 12 p) c = g c := by
    unfold S_pay S_sweep
    rw [hs_c (by omega), hs_c (by omega), hs_c (by omega), hs_c (by omega), hs_c (by omega)]
  rw [e]
theorem hasR.dmS {g : h_T} {x p y z : Int} (hp : 0 ≤ p ∧ p < g 0 11) (h : hasR (S_dm g x p) y z) : hasR g y z := by
  obtain ⟨i, hi, h9, h10⟩ := h
  rw [X_d11] at hi
  rw [S_dm_co (by decide)] at h9 h10
  by_cases q : i < p
  · rw [if_pos q] at h9 h10
    exact ⟨i, by omega, h9, h10⟩
  · rw [if_neg q] at h9 h10
    exact ⟨i + 1, by omega, h9, h10⟩
theorem hasR.dmP {g : h_T} {x p y z : Int} (hp : 0 ≤ p ∧ p < g 0 11) (hx : g 10 p = x) (hz : z ≠ x) (h : hasR g y z) : hasR (S_dm g x p) y z := by
  obtain ⟨i, hi, h9, h10⟩ := h
  have hne : i ≠ p := fun q => hz (by rw [← h10, q]; exact hx)
  by_cases q : i < p
  · refine ⟨i, by rw [X_d11]; omega, ?_, ?_⟩
    · rw [S_dm_co (by decide), if_pos q]; exact h9
    · rw [S_dm_co (by decide), if_pos q]; exact h10
  · refine ⟨i - 1, by rw [X_d11]; omega, ?_, ?_⟩
    · rw [S_dm_co (by decide), if_neg (by omega), show i - 1 + 1 = i by omega]; exact h9
    · rw [S_dm_co (by decide), if_neg (by omega), show i - 1 + 1 = i by omega]; exact h10
theorem X_wmR {x : Int} : ∀ (n : Nat) (g : h_T) (e : Int), 0 ≤ g 0 11 → (∀ y z, hasR (S_wm x n g e) y z → hasR g y z) ∧ (∀ y z, z ≠ x → hasR g y z → hasR (S_wm x n g e) y z) ∧ S_wm x n g e 8 = g 8 ∧ S_wm x n g e 7 = g 7 ∧ 0 ≤ S_wm x n g e 0 11 := by
  intro n
  induction n with
  | zero => intro g e h0; exact ⟨fun _ _ h => h, fun _ _ _ h => h, rfl, rfl, h0⟩
  | succ n ih =>
    intro g e h0
    rw [S_wm]
    by_cases q : S_first g x = -1 ∨ e < g 13 (S_first g x)
    · rw [if_pos q]
      exact ⟨fun _ _ h => h, fun _ _ _ h => h, rfl, rfl, h0⟩
    · rw [if_neg q]
      rcases S_first_rg (g := g) x h0 with h1 | ⟨h1, h2, h3⟩
      · exact absurd (Or.inl h1) q
      · obtain ⟨i1, i2, i3, i4, i5⟩ := ih (S_dm g x (S_first g x)) (e - g 13 (S_first g x)) (by rw [X_d11]; omega)
        exact ⟨fun y z h => (i1 y z h).dmS ⟨h1, h2⟩, fun y z hz h => i2 y z hz (h.dmP ⟨h1, h2⟩ h3 hz), i3.trans (S_dm_c (by decide)), i4.trans (S_dm_c (by decide)), i5⟩
theorem X_tmR {g : h_T} (h0 : 0 ≤ g 0 11) : ∀ k : Nat, (∀ y z, hasR (S_tm g k) y z → hasR g y z) ∧ (∀ y z, g 8 z ≠ 0 → hasR g y z → hasR (S_tm g k) y z) ∧ S_tm g k 8 = g 8 ∧ 0 ≤ S_tm g k 0 11 := by
  intro k
  induction k with
  | zero => exact ⟨fun _ _ h => h, fun _ _ _ h => h, rfl, h0⟩
  | succ k ih =>
    obtain ⟨i1, i2, i3, i4⟩ := ih
    rw [S_tm]
    unfold S_turnm
    by_cases q : S_tm g k 8 (k : Int) = 0
    · rw [if_pos q]
      obtain ⟨j1, j2, j3, j4, j5⟩ := X_wmR (x := (k : Int)) 8 (hs (S_tm g k) 7 (k : Int) 0) (S_energy (hs (S_tm g k) 7 (k : Int) 0) (k : Int)) i4
      refine ⟨fun y z h => i1 y z (j1 y z h), fun y z hz h => j2 y z (fun e => hz ?_) (i2 y z hz h), j3.trans i3, j5⟩
      rw [e, ← i3]
      exact q
    · rw [if_neg q]
      exact ⟨fun y z h => i1 y z h, fun y z hz h => i2 y z hz h, i3, i4⟩
theorem X_cRm {T : h_T} {r : Nat → Int} (h : r ∈ cR T) : hasR T (r 9) (r 10) := by
  unfold cR at h
  simp only [List.mem_map, List.mem_range] at h
  obtain ⟨i, hi, rfl⟩ := h
  exact ⟨(i : Int), by omega, rfl, rfl⟩
theorem X_cRo {T : h_T} {y z : Int} (h : hasR T y z) : ∃ r ∈ cR T, r 9 = y ∧ r 10 = z := by
  obtain ⟨i, hi, h9, h10⟩ := h
  refine ⟨fun c => T c i, ?_, h9, h10⟩
  unfold cR
  simp only [List.mem_map, List.mem_range]
  exact ⟨i.toNat, by omega, by funext c; rw [show ((i.toNat : Nat) : Int) = i by omega]⟩
theorem X_rwR {G : h_T} {L : List (Nat → Int)} {y z : Int} : hasR (S_rw G L) y z ↔ ∃ r ∈ L, r 9 = y ∧ r 10 = z := by
  constructor
  · rintro ⟨i, hi, h9, h10⟩
    rw [S_rw_11] at hi
    rw [S_rw_r (by decide)] at h9 h10
    exact ⟨_, X_mem (by omega), h9, h10⟩
  · rintro ⟨r, hr9, h9, h10⟩
    obtain ⟨i, hi, rfl⟩ := List.mem_iff_getElem.mp hr9
    have e : L.getD (i : Int).toNat (fun _ => 0) = L[i] := by simp [List.getD, hi]
    refine ⟨(i : Int), by rw [S_rw_11]; omega, ?_, ?_⟩
    · rw [S_rw_r (by decide), e]; exact h9
    · rw [S_rw_r (by decide), e]; exact h10
theorem S_n1_co {g : h_T} {c : Nat} (hc : 1 < c) : S_n1 g c = g c := by
  unfold S_n1
  rw [S_dust_o 6 (by omega), hs_c (by omega)]
theorem X_fle {p : (Nat → Int) → Bool} : ∀ l : List (Nat → Int), (l.filter p).length = l.length → l.filter p = l := by
  intro l
  induction l with
  | nil => intro _; rfl
  | cons a l ih =>
    intro h
    have hle := List.length_filter_le p l
    rw [List.filter_cons] at h ⊢
    by_cases q : p a = true
    · rw [if_pos q] at h ⊢
      rw [ih (by simpa using h)]
    · rw [if_neg q] at h
      simp at h
      omega
/-- a night: what is open was open; what a resting goblin has stays, or is broken -/
theorem X_nightR {g : h_T} {K : Int} (hg : h_BK K g) (hK : K ≤ 80000000) : (∀ y z, hasR (S_night g) y z → hasR g y z) ∧ (∀ y z, g 8 z ≠ 0 → hasR g y z → S_night g 0 5 = g 0 5 → hasR (S_night g) y z) ∧ S_night g 0 5 ≥ g 0 5 := by
  have h := X_night (T := S_tm (S_n1 g) (g 0 9).toNat) (m := S_tc (S_n1 g) (g 0 9).toNat) (n := (g 0 9).toNat) hg hK rfl rfl rfl
  obtain ⟨h, -⟩ := h
  obtain ⟨T, hT⟩ : ∃ z, z = S_tm (S_n1 g) (g 0 9).toNat := ⟨_, rfl⟩
  rw [← hT] at h
  have n11 := hg.n11
  have e11 : S_n1 g 0 11 = g 0 11 := S_n1_n (by decide)
  have hR := X_tmR (g := S_n1 g) (by omega) (g 0 9).toNat
  rw [← hT] at hR
  obtain ⟨i1, i2, i3, i4⟩ := hR
  have e5 : T 0 5 = g 0 5 := by rw [hT, S_tm_k (by decide)]; exact S_n1_n (by decide)
  have hl : ((cR T).length : Int) = T 0 11 := by simp [cR]; omega
  have hle : (S_ln T (T 0 9)).length ≤ (cR T).length := List.length_filter_le _ _
  have k5 : S_night g 0 5 = g 0 5 + (T 0 11 - ((S_ln T (T 0 9)).length : Int)) := by
    rw [← h.s 5 (by omega), S_rw_5]
    show S_gn T (g 0 9).toNat 0 5 + (S_gn T (g 0 9).toNat 0 11 - _) = _
    rw [S_gn_n (by decide), S_gn_n (by decide), e5]
  have n1 : ∀ y z, hasR (S_n1 g) y z → hasR g y z := by
    rintro y z ⟨i, hi, h9, h10⟩
    rw [S_n1_co (by decide)] at h9 h10
    exact ⟨i, by omega, h9, h10⟩
  have n2 : ∀ y z, hasR g y z → hasR (S_n1 g) y z := by
    rintro y z ⟨i, hi, h9, h10⟩
    exact ⟨i, by omega, by rw [S_n1_co (by decide)]; exact h9, by rw [S_n1_co (by decide)]; exact h10⟩
  refine ⟨fun y z hz => ?_, fun y z hz hyz h5 => ?_, by omega⟩
  · have h1 := hz.eq h
    rw [X_rwR] at h1
    obtain ⟨r, hr9, rfl, rfl⟩ := h1
    exact n1 _ _ (i1 _ _ (X_cRm (List.mem_filter.mp hr9).1))
  · refine hasR.eq h.sym ?_
    rw [X_rwR]
    have h2 := i2 y z (by rw [S_n1_co (by decide)]; exact hz) (n2 _ _ hyz)
    obtain ⟨r, hr9, a, b⟩ := X_cRo h2
    refine ⟨r, ?_, a, b⟩
    have hll : (S_ln T (T 0 9)).length = (cR T).length := by omega
    have : S_ln T (T 0 9) = cR T := X_fle _ hll
    rw [this]
    exact hr9
