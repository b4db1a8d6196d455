/-! the reference's reading is the reading of the forms -/
def wl (x : Int) : Int := s_of (x + 1) - s_of x
def fk (k : Nat) : Int := if k = 12 then 11 else (k : Int)
def f_tl (k : Nat) : Nat := [1, 1, 1, 1, 7, 1, 1, 1, 3, 1, 1, 0, 2].getD k 0
theorem wl_rg {x : Int} (hx : 0 ≤ x ∧ x ≤ 11) : 5 ≤ wl x ∧ wl x ≤ 7 := by
  have h : x = 0 ∨ x = 1 ∨ x = 2 ∨ x = 3 ∨ x = 4 ∨ x = 5 ∨ x = 6 ∨ x = 7 ∨ x = 8 ∨ x = 9 ∨ x = 10 ∨ x = 11 := by omega
  rcases h with rfl | rfl | rfl | rfl | rfl | rfl | rfl | rfl | rfl | rfl | rfl | rfl <;> decide
theorem fz_l : ∀ k : Fin 13, (fo_z.getD k []).length = (wl (fk k)).toNat + f_tl k := by decide +kernel
theorem fz_c : ∀ (k : Fin 13) (j : Fin 7), ((j : Nat) : Int) < wl (fk k) → (fo_z.getD k []).getD j 0 = zN.getD (s_of (fk k) + ((j : Nat) : Int)).toNat 0 ∧ (fo_z.getD k []).getD j 0 ≠ 35 ∧ (fo_z.getD k []).getD j 0 ≠ 42 := by decide +kernel
theorem fz_d : ∀ x y : Fin 12, x ≠ y → ∃ i : Fin 7, ((i : Nat) : Int) < wl ((x : Nat) : Int) ∧ ((i : Nat) : Int) < wl ((y : Nat) : Int) ∧ zN.getD (s_of ((x : Nat) : Int) + ((i : Nat) : Int)).toNat 0 ≠ zN.getD (s_of ((y : Nat) : Int) + ((i : Nat) : Int)).toNat 0 := by decide +kernel
theorem fk_rg {k : Nat} (hk : k < 13) : 0 ≤ fk k ∧ fk k ≤ 11 := by unfold fk; split <;> omega
theorem k_mt_all {tx : List Int} {q b : Int} : ∀ (n : Nat) (k i : Int), k ≤ i → i < k_mt tx q b n k → q + i < (tx.length : Int) ∧ tx.getD (q + i).toNat 0 = zN.getD (b + i).toNat 0 := by
  intro n
  induction n with
  | zero => intro k i h1 h2; rw [k_mt] at h2; omega
  | succ n ih =>
    intro k i h1 h2
    rw [k_mt] at h2
    split at h2
    · rename_i z
      by_cases y : i = k
      · rw [y]; exact z
      · exact ih (k + 1) i (by omega) h2
    · omega
theorem k_m_rg {tx : List Int} {q x : Int} (hx : 0 ≤ x ∧ x ≤ 11) (hq : 0 ≤ q ∧ q ≤ (tx.length : Int)) : 0 ≤ k_m tx q x ∧ k_m tx q x ≤ wl x ∧ q + k_m tx q x ≤ (tx.length : Int) := by
  have h := k_mt_rg (tx := tx) (q := q) (b := s_of x) (wl x).toNat 0 (by omega)
  have hw := wl_rg hx
  have e : k_mt tx q (s_of x) (wl x).toNat 0 = k_m tx q x := rfl
  rw [e] at h
  omega
/-- a word that stands here leaves no other -/
theorem k_m_lt {tx : List Int} {q x y : Int} (hx : 0 ≤ x ∧ x ≤ 11) (hy : 0 ≤ y ∧ y ≤ 11) (hq : 0 ≤ q ∧ q ≤ (tx.length : Int)) (hxy : y ≠ x) (h : k_m tx q x = wl x) : k_m tx q y < wl x ∧ k_m tx q y < wl y := by
  obtain ⟨i, h1, h2, h3⟩ := fz_d ⟨x.toNat, by omega⟩ ⟨y.toNat, by omega⟩ (fun z => hxy (by have := congrArg Fin.val z; dsimp only at this; omega))
  dsimp only at h1 h2 h3
  rw [show ((x.toNat : Nat) : Int) = x by omega] at h1 h3
  rw [show ((y.toNat : Nat) : Int) = y by omega] at h2 h3
  have a1 := (k_mt_all (tx := tx) (q := q) (b := s_of x) (wl x).toNat 0 ((i : Nat) : Int) (by omega) (by show ((i : Nat) : Int) < k_m tx q x; omega)).2
  have key : k_m tx q y ≤ ((i : Nat) : Int) := by
    by_cases z : ((i : Nat) : Int) < k_m tx q y
    · have a2 := (k_mt_all (tx := tx) (q := q) (b := s_of y) (wl y).toNat 0 ((i : Nat) : Int) (by omega) z).2
      exact absurd (a1.symm.trans a2) h3
    · omega
  omega
/-- letters of a form, one behind another -/
theorem p_fit_lit (tx z : List Int) (b q : Int) : ∀ (m n : Nat) (k : Int) (A : List Int) (fu : Int), (∀ j : Int, k ≤ j → j < k + m → z.getD j.toNat 0 = zN.getD (b + j).toNat 0 ∧ z.getD j.toNat 0 ≠ 35 ∧ z.getD j.toNat 0 ≠ 42) → p_fit tx z (m + n) k (q + k) A fu = if k_mt tx q b m k = k + m then p_fit tx z n (k + m) (q + (k + m)) A fu else (-1, max fu (q + k_mt tx q b m k), A) := by
  intro m
  induction m with
  | zero =>
    intro n k A fu h
    rw [k_mt, show k + ((0 : Nat) : Int) = k by omega, if_pos rfl, Nat.zero_add]
  | succ m ih =>
    intro n k A fu h
    obtain ⟨h1, h2, h3⟩ := h k (by omega) (by omega)
    rw [show m + 1 + n = (m + n) + 1 by omega, p_fit, k_mt]
    have e1 : p_eos tx (z.getD k.toNat 0) (q + k) = if q + k < (tx.length : Int) ∧ tx.getD (q + k).toNat 0 = zN.getD (b + k).toNat 0 then q + k + 1 else q + k := by
      unfold p_eos
      rw [if_neg (by omega), h1]
    rw [e1, if_neg (show ¬ (z.getD k.toNat 0 = 35 ∨ z.getD k.toNat 0 = 42) by omega)]
    by_cases c : q + k < (tx.length : Int) ∧ tx.getD (q + k).toNat 0 = zN.getD (b + k).toNat 0
    · rw [if_pos c, if_pos c, if_neg (by omega), show q + k + 1 = q + (k + 1) by omega, ih n (k + 1) A fu (fun j a1 a2 => h j (by omega) (by omega)), show k + 1 + (m : Int) = k + ((m + 1 : Nat) : Int) by omega]
    · rw [if_neg c, if_neg c, if_pos rfl, if_neg (by omega)]
theorem p_f1_w {tx : List Int} {k : Nat} {q fu : Int} (hk : k < 13) : p_f1 tx k q fu = if k_m tx q (fk k) = wl (fk k) then p_fit tx (fo_z.getD k []) (f_tl k) (wl (fk k)) (q + wl (fk k)) [] fu else (-1, max fu (q + k_m tx q (fk k)), []) := by
  have hw := wl_rg (fk_rg hk)
  have hl := fz_l ⟨k, hk⟩
  dsimp only at hl
  have h := p_fit_lit tx (fo_z.getD k []) (s_of (fk k)) q (wl (fk k)).toNat (f_tl k) 0 [] fu (fun j a1 a2 => by
    have := fz_c ⟨k, hk⟩ ⟨j.toNat, by omega⟩ (by dsimp only; omega)
    dsimp only at this
    rw [show ((j.toNat : Nat) : Int) = j by omega] at this
    exact this)
  rw [show (0 : Int) + ((wl (fk k)).toNat : Int) = wl (fk k) by omega, show q + 0 = q by omega] at h
  unfold p_f1
  rw [hl]
  exact h
/-- the end of a command, from a state of the reference's reading -/
def e_ok (tx : List Int) (s : Int × Int) : Prop := s.2 = -1 ∧ ¬ (s.1 < (tx.length : Int) ∧ tx.getD s.1.toNat 0 ≠ 59)
def e_er (s : Int × Int) : Int := if s.2 = -1 then s.1 else s.2
def fR (tx : List Int) (r : Int × Int × List Int) (s : Int × Int) (A : List Int) (fu : Int) : Prop := (e_ok tx s → r = (s.1, fu, A)) ∧ (¬ e_ok tx s → r.1 = -1 ∧ r.2.1 = max fu (e_er s))
theorem f_end {tx z : List Int} {i : Int} {s : Int × Int} {A : List Int} {fu : Int} (hs : s.2 = -1) : fR tx (p_fit tx z 0 i s.1 A fu) s A fu := by
  unfold fR e_ok e_er
  rw [p_fit, if_pos hs]
  by_cases c : s.1 < (tx.length : Int) ∧ tx.getD s.1.toNat 0 ≠ 59
  · rw [if_pos c]
    exact ⟨fun h => absurd c h.2, fun _ => ⟨rfl, rfl⟩⟩
  · rw [if_neg c]
    exact ⟨fun _ => rfl, fun h => absurd ⟨hs, c⟩ h⟩
theorem f_bad {tx : List Int} {q fu : Int} {A B : List Int} {s : Int × Int} (hq : 0 ≤ q) (hs : s = (q, q)) : fR tx (-1, max fu q, A) s B fu := by
  subst hs
  unfold fR e_ok e_er
  refine ⟨fun h => ?_, fun _ => ⟨rfl, ?_⟩⟩
  · have := h.1
    dsimp only at this
    omega
  · dsimp only
    rw [if_neg (show ¬ q = -1 by omega)]
theorem ltr_eq {tx : List Int} {q : Int} (h : q < (tx.length : Int)) : ltr tx q = tx.getD q.toNat 0 := if_pos h
theorem ltr_no {tx : List Int} {q : Int} (h : ¬ q < (tx.length : Int)) : ltr tx q = -1 := if_neg h
theorem e_dg {tx : List Int} {q : Int} : (q < (tx.length : Int) ∧ 48 ≤ tx.getD q.toNat 0 ∧ tx.getD q.toNat 0 ≤ 57) ↔ (48 ≤ ltr tx q ∧ ltr tx q ≤ 57) := by
  by_cases c : q < (tx.length : Int)
  · rw [ltr_eq c]
    exact ⟨fun h => h.2, fun h => ⟨c, h⟩⟩
  · rw [ltr_no c]
    exact ⟨fun h => absurd h.1 c, fun h => by omega⟩
theorem t_d_y {tx : List Int} {s : Int × Int} (hs : s.2 = -1) (h : 48 ≤ ltr tx s.1 ∧ ltr tx s.1 ≤ 57) : t_d tx s = (ltr tx s.1 - 48, s.1 + 1, -1) := by
  unfold t_d r_v r_q r_w
  have hk : r_ok tx s.1 s.2 48 57 := ⟨hs, h⟩
  rw [if_pos hk, if_pos hk, if_pos hk, hs]
theorem t_d_n {tx : List Int} {s : Int × Int} (hs : s.2 = -1) (h : ¬ (48 ≤ ltr tx s.1 ∧ ltr tx s.1 ≤ 57)) : t_d tx s = (0, s.1, s.1) := by
  unfold t_d r_v r_q r_w
  have hk : ¬ r_ok tx s.1 s.2 48 57 := fun z => h z.2
  rw [if_neg hk, if_neg hk, if_neg hk, if_pos hs]
theorem t_s_y {tx : List Int} {s : Int × Int} {c : Int} (hs : s.2 = -1) (h : ltr tx s.1 = c) : t_s tx c s = (s.1 + 1, -1) := by
  unfold t_s r_q r_w
  have hk : r_ok tx s.1 s.2 c c := ⟨hs, by omega, by omega⟩
  rw [if_pos hk, if_pos hk, hs]
theorem t_s_n {tx : List Int} {s : Int × Int} {c : Int} (hs : s.2 = -1) (h : ltr tx s.1 ≠ c) : t_s tx c s = (s.1, s.1) := by
  unfold t_s r_q r_w
  have hk : ¬ r_ok tx s.1 s.2 c c := fun z => h (by have := z.2; omega)
  rw [if_neg hk, if_neg hk, if_pos hs]
theorem t_d_b {tx : List Int} {s : Int × Int} (hs : s.2 ≠ -1) : (t_d tx s).2 = s := by
  unfold t_d r_q r_w
  have hk : ¬ r_ok tx s.1 s.2 48 57 := fun z => hs z.1
  rw [if_neg hk, if_neg hk, if_neg hs]
theorem t_s_b {tx : List Int} {s : Int × Int} {c : Int} (hs : s.2 ≠ -1) : t_s tx c s = s := by
  unfold t_s r_q r_w
  have hk : ¬ r_ok tx s.1 s.2 c c := fun z => hs z.1
  rw [if_neg hk, if_neg hk, if_neg hs]
theorem nu_b {tx : List Int} {q wr n : Int} (h : wr ≠ -1) : ∀ k : Nat, nu tx k q wr n = (n, q, wr) := by
  intro k
  cases k with
  | zero => rfl
  | succ k => rw [nu, if_neg (fun z => h z.1)]
theorem t_n_b {tx : List Int} {s : Int × Int} (hs : s.2 ≠ -1) : (t_n tx s).2 = s := by
  unfold t_n r_n r_q r_w
  have hk : ¬ r_ok tx s.1 s.2 48 57 := fun z => hs z.1
  rw [if_neg hk, if_neg hk, if_neg hs, nu_b hs]
/-- the digits of a number, beside the forms' -/
theorem nu_e (tx : List Int) : ∀ (k : Nat) (q acc : Int), (nu tx k q (-1) acc).2.2 = -1 ∧ (nu tx k q (-1) acc).2.1 = p_eod tx k q ∧ q ≤ p_eod tx k q ∧ p_num tx (p_eod tx k q - q).toNat q acc = (nu tx k q (-1) acc).1 := by
  intro k
  induction k with
  | zero =>
    intro q acc
    refine ⟨rfl, rfl, Int.le_refl _, ?_⟩
    rw [p_eod, show (q - q).toNat = 0 by omega]
    rfl
  | succ k ih =>
    intro q acc
    rw [nu, p_eod]
    by_cases c : 48 ≤ ltr tx q ∧ ltr tx q ≤ 57
    · have hk : r_ok tx q (-1) 48 57 := ⟨rfl, c⟩
      have hc := e_dg.mpr c
      rw [if_pos hk, if_pos hc]
      obtain ⟨i1, i2, i3, i4⟩ := ih (q + 1) (10 * acc + (ltr tx q - 48))
      refine ⟨i1, i2, by omega, ?_⟩
      rw [show (p_eod tx k (q + 1) - q).toNat = (p_eod tx k (q + 1) - (q + 1)).toNat + 1 by omega, p_num, ← ltr_eq hc.1, show acc * 10 + (ltr tx q - 48) = 10 * acc + (ltr tx q - 48) by omega]
      exact i4
    · have hk : ¬ r_ok tx q (-1) 48 57 := fun z => c z.2
      rw [if_neg hk, if_neg (fun z => c (e_dg.mp z))]
      have e : p_eod tx k q = q := by
        cases k with
        | zero => rfl
        | succ k =>
          have : ∀ m : Nat, p_eod tx m q = q := by
            intro m
            induction m with
            | zero => rfl
            | succ m im => rw [p_eod, if_neg (fun z => c (e_dg.mp z))]; exact im
          exact this _
      rw [e]
      refine ⟨rfl, rfl, Int.le_refl _, ?_⟩
      rw [show (q - q).toNat = 0 by omega]
      rfl
theorem t_n_y {tx : List Int} {s : Int × Int} (hs : s.2 = -1) (h : 48 ≤ ltr tx s.1 ∧ ltr tx s.1 ≤ 57) : (t_n tx s).2.2 = -1 ∧ (t_n tx s).2.1 = p_eod tx 3 s.1 ∧ s.1 < p_eod tx 3 s.1 ∧ p_num tx (p_eod tx 3 s.1 - s.1).toNat s.1 0 = (t_n tx s).1 := by
  have e := nu_e tx 3 s.1 0
  have e2 : nu tx 3 s.1 (-1) 0 = t_n tx s := by
    unfold t_n r_n r_q r_w r_v
    have hk : r_ok tx s.1 s.2 48 57 := ⟨hs, h⟩
    rw [if_pos hk, if_pos hk, if_pos hk, nu, if_pos (⟨rfl, h⟩ : r_ok tx s.1 (-1) 48 57), hs, show (10 : Int) * 0 + (ltr tx s.1 - 48) = ltr tx s.1 - 48 by omega]
  rw [e2] at e
  refine ⟨e.1, e.2.1, ?_, e.2.2.2⟩
  rw [p_eod, if_pos (e_dg.mpr h)]
  have := (nu_e tx 2 (s.1 + 1) 0).2.2.1
  omega
theorem t_n_n {tx : List Int} {s : Int × Int} (hs : s.2 = -1) (h : ¬ (48 ≤ ltr tx s.1 ∧ ltr tx s.1 ≤ 57)) (hq : 0 ≤ s.1) : (t_n tx s).2 = (s.1, s.1) := by
  unfold t_n r_n r_q r_w r_v
  have hk : ¬ r_ok tx s.1 s.2 48 57 := fun z => h z.2
  rw [if_neg hk, if_neg hk, if_neg hk, if_pos hs, nu_b (by omega)]
theorem p_eod_n {tx : List Int} {q : Int} (h : ¬ (48 ≤ ltr tx q ∧ ltr tx q ≤ 57)) : ∀ m : Nat, p_eod tx m q = q := by
  intro m
  induction m with
  | zero => rfl
  | succ m im => rw [p_eod, if_neg (fun z => h (e_dg.mp z))]; exact im
/-- one sign of a form: a digit, a number, a letter -/
theorem f_d {tx z : List Int} {n : Nat} {i fu : Int} {A B : List Int} {s : Int × Int} (hs : s.2 = -1) (hq : 0 ≤ s.1) (F : Int × Int → Int × Int) (hF : ∀ t : Int × Int, t.2 ≠ -1 → F t = t) (hz : z.getD i.toNat 0 = 35)
    (h : (t_d tx s).2.2 = -1 → fR tx (p_fit tx z n (i + 1) (t_d tx s).2.1 (p_add A (t_d tx s).1) fu) (F (t_d tx s).2) B fu) : fR tx (p_fit tx z (n + 1) i s.1 A fu) (F (t_d tx s).2) B fu := by
  rw [p_fit, hz, if_pos (show (35 : Int) = 35 ∨ (35 : Int) = 42 from Or.inl rfl)]
  have e1 : p_eos tx 35 s.1 = p_eod tx 1 s.1 := by
    unfold p_eos
    rw [if_pos (Or.inl rfl), if_pos rfl]
  rw [e1]
  by_cases c : 48 ≤ ltr tx s.1 ∧ ltr tx s.1 ≤ 57
  · have e := t_d_y hs c
    have e2 : p_eod tx 1 s.1 = s.1 + 1 := by rw [p_eod, if_pos (e_dg.mpr c)]; rfl
    rw [e2, if_neg (by omega), show (s.1 + 1 - s.1).toNat = 1 by omega]
    have e3 : p_num tx 1 s.1 0 = (t_d tx s).1 := by
      rw [e, p_num, p_num, ltr_eq (e_dg.mpr c).1]
      dsimp only
      omega
    have h9 := h (by rw [e])
    rw [e3]
    rw [show s.1 + 1 = (t_d tx s).2.1 by rw [e]]
    exact h9
  · have e := t_d_n hs c
    rw [p_eod_n c, if_pos rfl, e]
    dsimp only
    rw [hF (s.1, s.1) (by dsimp only; omega)]
    exact f_bad hq rfl
theorem f_n {tx z : List Int} {n : Nat} {i fu : Int} {A B : List Int} {s : Int × Int} (hs : s.2 = -1) (hq : 0 ≤ s.1) (F : Int × Int → Int × Int) (hF : ∀ t : Int × Int, t.2 ≠ -1 → F t = t) (hz : z.getD i.toNat 0 = 42)
    (h : (t_n tx s).2.2 = -1 → fR tx (p_fit tx z n (i + 1) (t_n tx s).2.1 (p_add A (t_n tx s).1) fu) (F (t_n tx s).2) B fu) : fR tx (p_fit tx z (n + 1) i s.1 A fu) (F (t_n tx s).2) B fu := by
  rw [p_fit, hz, if_pos (show (42 : Int) = 35 ∨ (42 : Int) = 42 from Or.inr rfl)]
  have e1 : p_eos tx 42 s.1 = p_eod tx 3 s.1 := by
    unfold p_eos
    rw [if_pos (Or.inr rfl), if_neg (by decide)]
  rw [e1]
  by_cases c : 48 ≤ ltr tx s.1 ∧ ltr tx s.1 ≤ 57
  · obtain ⟨e2, e3, e4, e5⟩ := t_n_y hs c
    rw [if_neg (by omega), e5, ← e3]
    exact h e2
  · have e := t_n_n hs c hq
    rw [p_eod_n c, if_pos rfl, e, hF (s.1, s.1) (by dsimp only; omega)]
    exact f_bad hq rfl
theorem f_s {tx z : List Int} {n : Nat} {i fu c : Int} {A B : List Int} {s : Int × Int} (hs : s.2 = -1) (hq : 0 ≤ s.1) (F : Int × Int → Int × Int) (hF : ∀ t : Int × Int, t.2 ≠ -1 → F t = t) (hz : z.getD i.toNat 0 = c) (hc : c ≠ 35 ∧ c ≠ 42 ∧ 0 ≤ c)
    (h : (t_s tx c s).2 = -1 → fR tx (p_fit tx z n (i + 1) (t_s tx c s).1 A fu) (F (t_s tx c s)) B fu) : fR tx (p_fit tx z (n + 1) i s.1 A fu) (F (t_s tx c s)) B fu := by
  rw [p_fit, hz, if_neg (show ¬ (c = 35 ∨ c = 42) by omega)]
  have e1 : p_eos tx c s.1 = if s.1 < (tx.length : Int) ∧ tx.getD s.1.toNat 0 = c then s.1 + 1 else s.1 := by
    unfold p_eos
    rw [if_neg (show ¬ (c = 35 ∨ c = 42) by omega)]
  by_cases y : ltr tx s.1 = c
  · have hl : s.1 < (tx.length : Int) := by
      by_cases v : s.1 < (tx.length : Int)
      · exact v
      · rw [ltr_no v] at y; omega
    have e := t_s_y hs y
    have e2 : p_eos tx c s.1 = s.1 + 1 := by rw [e1, if_pos ⟨hl, by rw [← ltr_eq hl]; exact y⟩]
    rw [e2, if_neg (by omega)]
    have h9 := h (by rw [e])
    rw [show s.1 + 1 = (t_s tx c s).1 by rw [e]]
    exact h9
  · have e := t_s_n hs y
    have e2 : p_eos tx c s.1 = s.1 := by rw [e1, if_neg (fun v => y (by rw [ltr_eq v.1]; exact v.2))]
    rw [e2, if_pos rfl, e, hF (s.1, s.1) (by dsimp only; omega)]
    exact f_bad hq rfl
/-- the tails of the forms -/
theorem f_D {tx z : List Int} {i fu : Int} {s : Int × Int} (hs : s.2 = -1) (hq : 0 ≤ s.1) (hz : z.getD i.toNat 0 = 35) : fR tx (p_fit tx z 1 i s.1 [] fu) (t_d tx s).2 [(t_d tx s).1] fu :=
  f_d hs hq (fun t => t) (fun _ _ => rfl) hz (fun h => f_end h)
theorem f_N {tx z : List Int} {i fu : Int} {s : Int × Int} (hs : s.2 = -1) (hq : 0 ≤ s.1) (hz : z.getD i.toNat 0 = 42) : fR tx (p_fit tx z 1 i s.1 [] fu) (t_n tx s).2 [(t_n tx s).1] fu :=
  f_n hs hq (fun t => t) (fun _ _ => rfl) hz (fun h => f_end h)
theorem f_SN {tx z : List Int} {i fu : Int} {s : Int × Int} (hs : s.2 = -1) (ok : t_ok tx s) (hz : z.getD i.toNat 0 = 32) (hz2 : z.getD (i + 1).toNat 0 = 42) : fR tx (p_fit tx z 2 i s.1 [] fu) (t_n tx (t_s tx 32 s)).2 [(t_n tx (t_s tx 32 s)).1] fu :=
  f_s hs ok.1.1 (fun t => (t_n tx t).2) (fun t ht => t_n_b ht) hz (by decide) (fun h => f_N h (t_s_ok ok (by decide)).1.1 hz2)
theorem f_L {tx z : List Int} {i fu : Int} {s : Int × Int} (hs : s.2 = -1) (ok : t_ok tx s) (hz : z.getD i.toNat 0 = 35) (hz1 : z.getD (i + 1).toNat 0 = 32) (hz2 : z.getD (i + 1 + 1).toNat 0 = 42) : fR tx (p_fit tx z 3 i s.1 [] fu) (t_n tx (t_s tx 32 (t_d tx s).2)).2 [(t_d tx s).1, (t_n tx (t_s tx 32 (t_d tx s).2)).1] fu :=
  have k1 := t_d_ok ok
  have k2 := t_s_ok (c := 32) k1 (by decide)
  f_d hs ok.1.1 (fun t => (t_n tx (t_s tx 32 t)).2) (fun t ht => by rw [t_s_b ht, t_n_b ht]) hz (fun h =>
    f_s h k1.1.1 (fun t => (t_n tx t).2) (fun t ht => t_n_b ht) hz1 (by decide) (fun h2 =>
      f_n h2 k2.1.1 (fun t => t) (fun _ _ => rfl) hz2 (fun h3 => f_end h3)))
theorem f_H {tx : List Int} {fu : Int} {s : Int × Int} (hs : s.2 = -1) (ok : t_ok tx s) : fR tx (p_fit tx (fo_z.getD 4 []) 7 5 s.1 [] fu) (t_h tx s).2 [(t_h tx s).1.1, (t_h tx s).1.2.1, (t_h tx s).1.2.2.1, (t_h tx s).1.2.2.2] fu :=
  have k1 := t_d_ok ok
  have k2 := t_s_ok (c := 32) k1 (by decide)
  have k3 := t_d_ok k2
  have k4 := t_s_ok (c := 32) k3 (by decide)
  have k5 := t_n_ok k4
  have k6 := t_s_ok (c := 47) k5 (by decide)
  f_d hs ok.1.1 (fun t => (t_n tx (t_s tx 47 (t_n tx (t_s tx 32 (t_d tx (t_s tx 32 t)).2)).2)).2) (fun t ht => by rw [t_s_b ht, t_d_b ht, t_s_b ht, t_n_b ht, t_s_b ht, t_n_b ht]) rfl (fun h1 =>
    f_s h1 k1.1.1 (fun t => (t_n tx (t_s tx 47 (t_n tx (t_s tx 32 (t_d tx t).2)).2)).2) (fun t ht => by rw [t_d_b ht, t_s_b ht, t_n_b ht, t_s_b ht, t_n_b ht]) rfl (by decide) (fun h2 =>
      f_d h2 k2.1.1 (fun t => (t_n tx (t_s tx 47 (t_n tx (t_s tx 32 t)).2)).2) (fun t ht => by rw [t_s_b ht, t_n_b ht, t_s_b ht, t_n_b ht]) rfl (fun h3 =>
        f_s h3 k3.1.1 (fun t => (t_n tx (t_s tx 47 (t_n tx t).2)).2) (fun t ht => by rw [t_n_b ht, t_s_b ht, t_n_b ht]) rfl (by decide) (fun h4 =>
          f_n h4 k4.1.1 (fun t => (t_n tx (t_s tx 47 t)).2) (fun t ht => by rw [t_s_b ht, t_n_b ht]) rfl (fun h5 =>
            f_s h5 k5.1.1 (fun t => (t_n tx t).2) (fun t ht => by rw [t_n_b ht]) rfl (by decide) (fun h6 =>
              f_n h6 k6.1.1 (fun t => t) (fun _ _ => rfl) rfl (fun h7 => f_end h7)))))))
