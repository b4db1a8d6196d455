/-! the changes, of an abstract state: answer (below 0: refused) and state -/
def S_gob (g : h_T) (s : Int) : h_T := hs (hs (hs (hs (hs (hs g 4 (g 0 9) s) 5 (g 0 9) 0) 6 (g 0 9) 0) 7 (g 0 9) 0) 8 (g 0 9) 0) 0 9 (g 0 9 + 1)
def S_bro (g : h_T) (p : Int) : h_T := hs (hs (hs g 2 (g 0 8) p) 3 (g 0 8) 0) 0 8 (g 0 8 + 1)
def S_con (g : h_T) (x r w e : Int) : h_T := hs (hs (hs (hs (hs (hs (hs g 9 (g 0 11) (g 0 10)) 10 (g 0 11) x) 11 (g 0 11) r) 12 (g 0 11) w) 13 (g 0 11) e) 0 11 (g 0 11 + 1)) 0 10 (g 0 10 + 1)
def S_del (g : h_T) (p : Int) : h_T := fun c i => if 9 ≤ c ∧ c ≤ 13 then (if i < p then g c i else g c (i + 1)) else if c = 0 ∧ i = 11 then g 0 11 - 1 else g c i
def S_pay (g : h_T) (x w : Int) : h_T := hs (hs (hs (hs g 0 6 (g 0 6 + (w - min w (g 0 1)))) 0 1 (g 0 1 + (min (min w (g 0 1)) (g 6 x) - min w (g 0 1)))) 6 x (g 6 x - min (min w (g 0 1)) (g 6 x))) 5 x (g 5 x + (min w (g 0 1) - min (min w (g 0 1)) (g 6 x)))
def S_sweep (g : h_T) (p : Int) : h_T := hs g 1 (g 11 p) (max (g 1 (g 11 p) - (10 + S_great g)) 0)
def S_do (g : h_T) (x p : Int) : h_T := hs (S_del (S_pay (S_sweep g p) x (g 12 p)) p) 0 4 (g 0 4 + 1)
def S_work (x : Int) : Nat → h_T → Int → h_T
  | 0, g, _ => g
  | n + 1, g, e => if S_first g x = -1 ∨ e < g 13 (S_first g x) then g else S_work x n (S_do g x (S_first g x)) (e - g 13 (S_first g x))
/-- contracts broken, from the last of k to the first -/
def S_brk : Nat → h_T → h_T
  | 0, g => g
  | k + 1, g => S_brk k (if 3 ≤ g 7 (g 10 (k : Int)) then hs (S_del g (k : Int)) 0 5 (g 0 5 + 1) else g)
def S_grown (d : Int) : Int := min (d + d / 10 + 1) 999
def S_grow1 (g : h_T) (x : Int) : h_T := if 0 < g 6 x then hs (hs g 0 7 (g 0 7 + (S_grown (g 6 x) - g 6 x))) 6 x (S_grown (g 6 x)) else g
def S_grow (g : h_T) : Nat → h_T
  | 0 => g
  | k + 1 => S_grow1 (S_grow g k) (k : Int)
def S_dust (g : h_T) : Nat → h_T
  | 0 => g
  | k + 1 => hs (S_dust g k) 1 (k : Int) (min (S_dust g k 1 (k : Int) + 3) 99)
def S_turn (g : h_T) (x : Int) : h_T := if g 8 x = 0 then S_work x 8 (hs g 7 x 0) (S_energy (hs g 7 x 0) x) else hs g 7 x (g 7 x + 1)
def S_turns (g : h_T) : Nat → h_T
  | 0 => g
  | k + 1 => S_turn (S_turns g k) (k : Int)
def S_n1 (g : h_T) : h_T := S_dust (hs g 0 0 (g 0 0 + 1)) 6
def S_n2 (g : h_T) : h_T := S_turns (S_n1 g) (S_n1 g 0 9).toNat
def S_n3 (g : h_T) : h_T := S_brk (S_n2 g 0 11).toNat (S_n2 g)
def S_night (g : h_T) : h_T := if S_n3 g 0 0 % 7 = 0 then S_grow (S_n3 g) (S_n3 g 0 9).toNat else S_n3 g
def S_nights (g : h_T) : Nat → h_T
  | 0 => g
  | k + 1 => S_night (S_nights g k)
def S_addGoblin (g : h_T) (s : Int) : Int × h_T := if s < 1 ∨ 9 < s then (-2, g) else if 5 ≤ g 0 9 then (-3, g) else (g 0 9, S_gob g s)
def S_addBroom (g : h_T) (p : Int) : Int × h_T := if p < 1 ∨ 20 < p then (-2, g) else if 4 ≤ g 0 8 then (-3, g) else (g 0 8, S_bro g p)
def S_banish (g : h_T) (x : Int) : Int × h_T := if ¬ (0 ≤ x ∧ x < g 0 8) then (-1, g) else if g 3 x ≠ 0 then (-3, g) else (S_inUse (hs g 3 x 1), hs g 3 x 1)
def S_recall (g : h_T) (x : Int) : Int × h_T := if ¬ (0 ≤ x ∧ x < g 0 8) then (-1, g) else if g 3 x = 0 then (-3, g) else (S_inUse (hs g 3 x 0), hs g 3 x 0)
def S_hire (g : h_T) (x r w e : Int) : Int × h_T := if ¬ ((0 ≤ x ∧ x < g 0 9) ∧ (0 ≤ r ∧ r < 6)) then (-1, g) else if w < 1 ∨ 50 < w ∨ e < 1 ∨ 20 < e then (-2, g) else if 8 ≤ g 0 11 then (-3, g) else if S_has g x r = true then (-4, g) else (g 0 10, S_con g x r w e)
def S_cut (g : h_T) (p : Int) : Int := min (g 12 p / 10) (g 0 1)
def S_cancel (g : h_T) (id : Int) : Int × h_T := if S_pos g id = -1 then (-5, g) else (S_cut g (S_pos g id), S_del (hs (hs g 0 1 (g 0 1 - S_cut g (S_pos g id))) 5 (g 10 (S_pos g id)) (g 5 (g 10 (S_pos g id)) + S_cut g (S_pos g id))) (S_pos g id))
def S_rest (g : h_T) (x : Int) : Int × h_T := if ¬ (0 ≤ x ∧ x < g 0 9) then (-1, g) else if g 8 x ≠ 0 then (-3, g) else (S_resting (hs g 8 x 1), hs g 8 x 1)
def S_wake (g : h_T) (x : Int) : Int × h_T := if ¬ (0 ≤ x ∧ x < g 0 9) then (-1, g) else if g 8 x = 0 then (-3, g) else (g 7 x, hs g 8 x 0)
def S_lend (g : h_T) (x c : Int) : Int × h_T := if ¬ (0 ≤ x ∧ x < g 0 9) then (-1, g) else if c < 1 ∨ 99 < c then (-2, g) else if g 0 1 < c ∨ 200 < g 6 x + c then (-4, g) else (g 6 x + c, hs (hs (hs g 0 1 (g 0 1 - c)) 5 x (g 5 x + c)) 6 x (g 6 x + c))
def S_fund (g : h_T) (c : Int) : Int × h_T := if c < 1 ∨ 999 < c then (-2, g) else (g 0 1 + c, hs (hs g 0 1 (g 0 1 + c)) 0 2 (g 0 2 + c))
def S_spend (g : h_T) (c : Int) : Int × h_T := if c < 1 ∨ 999 < c then (-2, g) else if g 0 1 < c then (-4, g) else (g 0 1 - c, hs (hs g 0 1 (g 0 1 - c)) 0 3 (g 0 3 + c))
def S_pass (g : h_T) (n : Int) : Int × h_T := if n < 1 ∨ 60 < n then (-2, g) else (S_nights g n.toNat 0 4 - g 0 4, S_nights g n.toNat)
def h_op (b : Nat) (M : m_M) (S : Int × h_T) : Option Value → m_M → Prop := fun v M' => v = some (VI S.1) ∧ hhR b S.2 M' ∧ m_fr b 17 M M'
theorem h_op.mk {b : Nat} {M M' : m_M} {S : Int × h_T} {r : Int} {g : h_T} (e : S = (r, g)) (h : hhR b g M') (hf : m_fr b 17 M M') : h_op b M S (some (VI r)) M' := by
  subst e
  exact ⟨rfl, h, hf⟩
/-- a chain of stores keeps the agreement, also where a count goes up behind the new row -/
theorem h_eq.gob {t g : h_T} (h : h_eq t g) (s : Int) : h_eq (S_gob t s) (S_gob g s) := by
  have e9 := h.1 9 (by omega)
  refine ⟨fun k hk => ?_, fun c i hc hi => ?_⟩
  · unfold S_gob hs
    have := h.1 k hk
    simp only [show (0 : Nat) ≠ 4 from by decide, show (0 : Nat) ≠ 5 from by decide, show (0 : Nat) ≠ 6 from by decide, show (0 : Nat) ≠ 7 from by decide, show (0 : Nat) ≠ 8 from by decide, false_and, if_false, true_and, e9]
    split
    · rfl
    · exact this
  · have key : c ≤ 3 ∨ 9 ≤ c ∨ i < g 0 9 → t c i = g c i := fun hq => h.2 c i hc (by
      unfold h_n at hi ⊢
      unfold S_gob hs at hi
      simp only [show (0 : Nat) ≠ 4 from by decide, show (0 : Nat) ≠ 5 from by decide, show (0 : Nat) ≠ 6 from by decide, show (0 : Nat) ≠ 7 from by decide, show (0 : Nat) ≠ 8 from by decide, false_and, if_false, true_and, show (8 : Int) ≠ 9 from by decide, show (11 : Int) ≠ 9 from by decide, if_true] at hi
      split
      · omega
      · split
        · rename_i a b; rw [if_neg a, if_pos b] at hi; exact hi
        · split
          · rename_i a b d; rw [if_neg a, if_neg b, if_pos d] at hi; omega
          · rename_i a b d; rw [if_neg a, if_neg b, if_neg d] at hi; exact hi)
    have hle : 4 ≤ c → c ≤ 8 → i ≤ g 0 9 := fun h4 h8 => by
      unfold h_n S_gob hs at hi
      rw [if_neg (by omega), if_neg (by omega), if_pos h8] at hi
      simp at hi
      omega
    unfold S_gob hs
    rw [e9]
    by_cases hi9 : i = g 0 9
    · subst hi9
      by_cases h4 : 4 ≤ c ∧ c ≤ 8
      · have : c = 4 ∨ c = 5 ∨ c = 6 ∨ c = 7 ∨ c = 8 := by omega
        rcases this with rfl | rfl | rfl | rfl | rfl <;> simp
      · have := key (by omega)
        simp only [show c ≠ 4 by omega, show c ≠ 5 by omega, show c ≠ 6 by omega, show c ≠ 7 by omega, show c ≠ 8 by omega, show c ≠ 0 by omega, false_and, if_false]
        exact this
    · have := key (by omega)
      simp only [hi9, and_false, if_false, show c ≠ 0 by omega, false_and]
      exact this
