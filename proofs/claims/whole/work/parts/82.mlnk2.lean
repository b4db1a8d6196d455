/-! commands read by the reference, beside the forms -/
def mx (tx : List Int) (q : Int) : Nat → Nat → Int → Int
  | 0, _, fu => fu
  | n + 1, k, fu => mx tx q n (k + 1) (max fu (q + k_m tx q (k : Int)))
def kU (tx : List Int) (q : Int) (j : Nat) : Prop := k_m tx q (j : Int) ≠ wl (j : Int)
theorem fk_lt {k : Nat} (h : k < 12) : fk k = (k : Int) := if_neg (by omega)
theorem rc_skip {tx : List Int} {q : Int} : ∀ (n k r : Nat) (fu : Int), k + n ≤ 12 → (∀ j : Nat, k ≤ j → j < k + n → kU tx q j) → p_rc tx q (n + r) k fu = p_rc tx q r (k + n) (mx tx q n k fu) := by
  intro n
  induction n with
  | zero => intro k r fu _ _; rw [Nat.zero_add, Nat.add_zero]; rfl
  | succ n ih =>
    intro k r fu h1 h2
    have hu := h2 k (by omega) (by omega)
    rw [show n + 1 + r = (n + r) + 1 by omega, p_rc_s, p_f1_w (show k < 13 by omega), fk_lt (show k < 12 by omega), if_neg hu]
    dsimp only
    rw [if_neg (by decide), ih (k + 1) r _ (by omega) (fun j a b => h2 j (by omega) (by omega)), show k + 1 + n = k + (n + 1) by omega]
    rfl
theorem kw_skip {tx : List Int} {q : Int} : ∀ (n k r : Nat) (fu : Int), (∀ j : Nat, k ≤ j → j < k + n → kU tx q j) → k_kw tx q (n + r) (k : Int) fu = k_kw tx q r ((k + n : Nat) : Int) (mx tx q n k fu) := by
  intro n
  induction n with
  | zero => intro k r fu _; rw [Nat.zero_add, Nat.add_zero]; rfl
  | succ n ih =>
    intro k r fu h2
    have hu : ¬ k_m tx q (k : Int) = s_of ((k : Int) + 1) - s_of (k : Int) := h2 k (by omega) (by omega)
    rw [show n + 1 + r = (n + r) + 1 by omega, k_kw, if_neg hu, show (k : Int) + 1 = ((k + 1 : Nat) : Int) by omega, ih (k + 1) r _ (fun j a b => h2 j (by omega) (by omega)), show k + 1 + n = k + (n + 1) by omega]
    rfl
theorem kw_res {tx : List Int} {q : Int} : ∀ (n k : Nat) (fu : Int), k + n = 12 → ((k_kw tx q n (k : Int) fu).1 = -1 ∧ ∀ j : Nat, k ≤ j → j < 12 → kU tx q j) ∨ ∃ j : Nat, k ≤ j ∧ j < 12 ∧ (k_kw tx q n (k : Int) fu).1 = (j : Int) ∧ k_m tx q (j : Int) = wl (j : Int) ∧ ∀ i : Nat, k ≤ i → i < j → kU tx q i := by
  intro n
  induction n with
  | zero => intro k fu hk; exact Or.inl ⟨rfl, fun j a b => by omega⟩
  | succ n ih =>
    intro k fu hk
    rw [k_kw]
    by_cases c : k_m tx q (k : Int) = s_of ((k : Int) + 1) - s_of (k : Int)
    · rw [if_pos c]
      exact Or.inr ⟨k, Nat.le_refl _, by omega, rfl, c, fun i a b => by omega⟩
    · rw [if_neg c, show (k : Int) + 1 = ((k + 1 : Nat) : Int) by omega]
      rcases ih (k + 1) (max fu (q + k_m tx q (k : Int))) (by omega) with ⟨h1, h2⟩ | ⟨j, h1, h2, h3, h4, h5⟩
      · refine Or.inl ⟨h1, fun j a b => ?_⟩
        by_cases y : j = k
        · rw [y]; exact c
        · exact h2 j (by omega) b
      · refine Or.inr ⟨j, by omega, h2, h3, h4, fun i a b => ?_⟩
        by_cases y : i = k
        · rw [y]; exact c
        · exact h5 i (by omega) b
theorem mx_rg {tx : List Int} {q B : Int} : ∀ (n k : Nat) (fu : Int), (∀ j : Nat, k ≤ j → j < k + n → q + k_m tx q (j : Int) ≤ B) → fu ≤ B → fu ≤ mx tx q n k fu ∧ mx tx q n k fu ≤ B := by
  intro n
  induction n with
  | zero => intro k fu _ h; exact ⟨Int.le_refl _, h⟩
  | succ n ih =>
    intro k fu h1 h2
    rw [mx]
    have h3 := h1 k (by omega) (by omega)
    have h4 := ih (k + 1) (max fu (q + k_m tx q (k : Int))) (fun j a b => h1 j (by omega) (by omega)) (by omega)
    omega
theorem mx_up {tx : List Int} {q : Int} : ∀ (n k : Nat) (fu : Int), fu ≤ mx tx q n k fu := by
  intro n
  induction n with
  | zero => intro k fu; exact Int.le_refl _
  | succ n ih => intro k fu; rw [mx]; have := ih (k + 1) (max fu (q + k_m tx q (k : Int))); omega
theorem mx_ge {tx : List Int} {q : Int} : ∀ (n k : Nat) (fu : Int) (j : Nat), k ≤ j → j < k + n → q + k_m tx q (j : Int) ≤ mx tx q n k fu := by
  intro n
  induction n with
  | zero => intro k fu j a b; omega
  | succ n ih =>
    intro k fu j a b
    rw [mx]
    by_cases y : j = k
    · have := mx_up (tx := tx) (q := q) n (k + 1) (max fu (q + k_m tx q (k : Int)))
      rw [y]
      omega
    · exact ih (k + 1) _ j (by omega) (by omega)
theorem rc_tail {tx : List Int} {q : Int} : ∀ (n k : Nat) (F : Int), k + n = 13 → (∀ j : Nat, k ≤ j → j < 13 → k_m tx q (fk j) ≠ wl (fk j) ∧ q + k_m tx q (fk j) ≤ F) → (p_rc tx q n k F).1 = -1 ∧ (p_rc tx q n k F).2.1 = F := by
  intro n
  induction n with
  | zero => intro k F _ _; exact ⟨rfl, rfl⟩
  | succ n ih =>
    intro k F h1 h2
    obtain ⟨h3, h4⟩ := h2 k (by omega) (by omega)
    rw [p_rc_s, p_f1_w (show k < 13 by omega), if_neg h3]
    dsimp only
    rw [if_neg (by decide), show max F (q + k_m tx q (fk k)) = F by omega]
    exact ih (k + 1) F (by omega) (fun j a b => h2 j (by omega) b)
/-- errors only go on -/
theorem e_d_up {tx : List Int} {s : Int × Int} : e_er s ≤ e_er (t_d tx s).2 := by
  by_cases hs : s.2 = -1
  · by_cases c : 48 ≤ ltr tx s.1 ∧ ltr tx s.1 ≤ 57
    · rw [t_d_y hs c]; unfold e_er; rw [if_pos hs]; dsimp only; split <;> omega
    · rw [t_d_n hs c]; unfold e_er; rw [if_pos hs]; dsimp only; split <;> omega
  · rw [t_d_b hs]; exact Int.le_refl _
theorem e_s_up {tx : List Int} {s : Int × Int} {c : Int} : e_er s ≤ e_er (t_s tx c s) := by
  by_cases hs : s.2 = -1
  · by_cases y : ltr tx s.1 = c
    · rw [t_s_y hs y]; unfold e_er; rw [if_pos hs]; dsimp only; split <;> omega
    · rw [t_s_n hs y]; unfold e_er; rw [if_pos hs]; dsimp only; split <;> omega
  · rw [t_s_b hs]; exact Int.le_refl _
theorem e_n_up {tx : List Int} {s : Int × Int} (hq : 0 ≤ s.1) : e_er s ≤ e_er (t_n tx s).2 := by
  by_cases hs : s.2 = -1
  · by_cases c : 48 ≤ ltr tx s.1 ∧ ltr tx s.1 ≤ 57
    · obtain ⟨a1, a2, a3, -⟩ := t_n_y hs c
      unfold e_er
      rw [if_pos hs, if_pos a1, a2]
      omega
    · rw [t_n_n hs c hq]; unfold e_er; rw [if_pos hs]; dsimp only; split <;> omega
  · rw [t_n_b hs]; exact Int.le_refl _
theorem e_h_up {tx : List Int} {s : Int × Int} (ok : t_ok tx s) : e_er s ≤ e_er (t_h tx s).2 := by
  have k1 := t_d_ok ok
  have k2 := t_s_ok (c := 32) k1 (by decide)
  have k3 := t_d_ok k2
  have k4 := t_s_ok (c := 32) k3 (by decide)
  have k5 := t_n_ok k4
  have k6 := t_s_ok (c := 47) k5 (by decide)
  exact Int.le_trans e_d_up (Int.le_trans e_s_up (Int.le_trans e_d_up (Int.le_trans e_s_up (Int.le_trans (e_n_up k4.1.1) (Int.le_trans e_s_up (e_n_up k6.1.1))))))
/-- command i of column 9 is what the forms read -/
def cmdR (w : h_T) (i : Int) (r : Nat × List Int) : Prop := (w 9 (5 * i) = 11 ∧ ((r.1 = 11 ∧ w 9 (5 * i + 1) = 1) ∨ (r.1 = 12 ∧ w 9 (5 * i + 1) = p_ar r.2 0))) ∨ (r.1 ≤ 10 ∧ w 9 (5 * i) = (r.1 : Int) ∧ ∀ j : Int, 0 ≤ j → j < (p_cnt r.1 : Int) → w 9 (5 * i + 1 + j) = p_ar r.2 j)
theorem p_cnt_le : ∀ k : Fin 13, p_cnt k ≤ 4 := by decide
theorem cmdR.eq {w w2 : h_T} {i : Int} {r : Nat × List Int} (h : cmdR w i r) (e : ∀ j : Int, j < 5 * i + 5 → w2 9 j = w 9 j) : cmdR w2 i r := by
  unfold cmdR at h ⊢
  rw [e (5 * i) (by omega), e (5 * i + 1) (by omega)]
  rcases h with h | ⟨h1, h2, h3⟩
  · exact Or.inl h
  · refine Or.inr ⟨h1, h2, fun j a b => ?_⟩
    have := p_cnt_le ⟨r.1, by omega⟩
    dsimp only at this
    rw [e _ (by omega)]
    exact h3 j a b
theorem cmdR.ex {w g : h_T} {i : Int} {r : Nat × List Int} (h : cmdR w i r) : X_ex g (w 9 (5 * i)) (fun j => w 9 (5 * i + 1 + j)) = S_exec g r.1 (p_ar r.2) := by
  unfold X_ex
  rcases h with ⟨h1, ⟨h2, h3⟩ | ⟨h2, h3⟩⟩ | ⟨h1, h2, h3⟩
  · rw [if_pos h1, h2]
    dsimp only
    rw [show 5 * i + 1 + 0 = 5 * i + 1 by omega, h3]
    rfl
  · rw [if_pos h1, h2]
    dsimp only
    rw [show 5 * i + 1 + 0 = 5 * i + 1 by omega, h3]
    rfl
  · rw [h2, if_neg (by omega), show ((r.1 : Int)).toNat = r.1 by omega]
    exact S_exec_congr (by omega) h3
theorem X_c10 {tx : List Int} {w2 : h_T} {n q fu : Int} {j : Nat} {s2 : Int × Int} {A : List Int} (hj : j ≤ 10) (hq : 0 ≤ q ∧ q ≤ (tx.length : Int)) (hf : 0 ≤ fu ∧ fu ≤ q) (hm : k_m tx q (j : Int) = wl (j : Int)) (hu : ∀ i : Nat, 0 ≤ i → i < j → kU tx q i)
    (hfr : ∀ f2 : Int, fR tx (p_fit tx (fo_z.getD j []) (f_tl j) (wl (j : Int)) (q + wl (j : Int)) [] f2) s2 A f2) (he : q + wl (j : Int) ≤ e_er s2) (hc : cmdR w2 n (j, A)) :
    (e_ok tx s2 → q + 5 ≤ s2.1 ∧ ∃ (f2 : Int) (r : Nat × List Int), p_rc tx q 13 0 fu = (s2.1, f2, r) ∧ (0 ≤ f2 ∧ f2 ≤ s2.1) ∧ cmdR w2 n r) ∧ (¬ e_ok tx s2 → (p_rc tx q 13 0 fu).1 = -1 ∧ (p_rc tx q 13 0 fu).2.1 = e_er s2) := by
  have hw := wl_rg (x := (j : Int)) (by omega)
  have hd : ∀ y : Int, 0 ≤ y → y ≤ 11 → y ≠ (j : Int) → k_m tx q y < wl (j : Int) ∧ k_m tx q y < wl y := fun y a b c => k_m_lt (by omega) ⟨a, b⟩ hq c hm
  have hmx := mx_rg (tx := tx) (q := q) (B := q + wl (j : Int) - 1) j 0 fu (fun i a b => by have := (hd (i : Int) (by omega) (by omega) (by omega)).1; omega) (by omega)
  have e1 : p_rc tx q 13 0 fu = p_rc tx q ((12 - j) + 1) j (mx tx q j 0 fu) := by
    have := rc_skip (tx := tx) (q := q) j 0 ((12 - j) + 1) fu (by omega) (fun i a b => hu i a (by omega))
    rw [show j + (12 - j + 1) = 13 by omega, Nat.zero_add] at this
    exact this
  have hF := hfr (mx tx q j 0 fu)
  rw [e1, p_rc_s, p_f1_w (show j < 13 by omega), fk_lt (show j < 12 by omega), if_pos hm]
  generalize mx tx q j 0 fu = f9 at *
  generalize p_fit tx (fo_z.getD j []) (f_tl j) (wl (j : Int)) (q + wl (j : Int)) [] f9 = R at *
  refine ⟨fun ok => ?_, fun ok => ?_⟩
  · have hR := hF.1 ok
    have ee : e_er s2 = s2.1 := if_pos ok.1
    subst hR
    dsimp only
    rw [if_pos (by omega)]
    exact ⟨by omega, f9, (j, A), rfl, by omega, hc⟩
  · obtain ⟨r1, r2⟩ := hF.2 ok
    rw [if_neg (by omega), r2, show max f9 (e_er s2) = e_er s2 by omega]
    refine rc_tail (12 - j) (j + 1) (e_er s2) (by omega) (fun i a b => ?_)
    have hk := fk_rg b
    have hne : fk i ≠ (j : Int) := by unfold fk; split <;> omega
    have := hd (fk i) hk.1 hk.2 hne
    omega
/-- the word night, with a number or without -/
theorem X_c11 {tx : List Int} {w2 : h_T} {n q fu : Int} {s2 : Int × Int} (hq : 0 ≤ q ∧ q ≤ (tx.length : Int)) (hf : 0 ≤ fu ∧ fu ≤ q) (hm : k_m tx q 11 = wl 11) (hu : ∀ i : Nat, 0 ≤ i → i < 11 → kU tx q i) (hk : w2 9 (5 * n) = 11)
    (h : (ltr tx (q + 5) ≠ 32 ∧ w2 9 (5 * n + 1) = 1 ∧ s2 = (q + 5, -1)) ∨ (ltr tx (q + 5) = 32 ∧ w2 9 (5 * n + 1) = (t_n tx (t_s tx 32 (q + 5, -1))).1 ∧ s2 = (t_n tx (t_s tx 32 (q + 5, -1))).2)) :
    (e_ok tx s2 → q + 5 ≤ s2.1 ∧ ∃ (f2 : Int) (r : Nat × List Int), p_rc tx q 13 0 fu = (s2.1, f2, r) ∧ (0 ≤ f2 ∧ f2 ≤ s2.1) ∧ cmdR w2 n r) ∧ (¬ e_ok tx s2 → (p_rc tx q 13 0 fu).1 = -1 ∧ (p_rc tx q 13 0 fu).2.1 = e_er s2) := by
  have hw : wl 11 = 5 := by decide
  have hd : ∀ y : Int, 0 ≤ y → y ≤ 11 → y ≠ 11 → k_m tx q y < wl 11 ∧ k_m tx q y < wl y := fun y a b c => k_m_lt (by omega) ⟨a, b⟩ hq c hm
  have hmr := k_m_rg (tx := tx) (q := q) (x := 11) (by decide) hq
  have hmx := mx_rg (tx := tx) (q := q) (B := q + 4) 11 0 fu (fun i a b => by have := (hd (i : Int) (by omega) (by omega) (by omega)).1; omega) (by omega)
  have e1 : p_rc tx q 13 0 fu = p_rc tx q 2 11 (mx tx q 11 0 fu) := by
    have := rc_skip (tx := tx) (q := q) 11 0 2 fu (by omega) (fun i a b => hu i a (by omega))
    rw [Nat.zero_add] at this
    exact this
  have ok5 : t_ok tx (q + 5, -1) := ⟨⟨by dsimp only; omega, by dsimp only; omega⟩, by dsimp only; omega, by dsimp only; omega⟩
  have f11 : ∀ f9 : Int, p_f1 tx 11 q f9 = p_fit tx (fo_z.getD 11 []) 0 5 ((q + 5, (-1 : Int)) : Int × Int).1 [] f9 := fun f9 => by
    rw [p_f1_w (show 11 < 13 by decide), show fk 11 = 11 from rfl, if_pos hm, hw]
    rfl
  have f12 : ∀ f9 : Int, p_f1 tx 12 q f9 = p_fit tx (fo_z.getD 12 []) 2 5 ((q + 5, (-1 : Int)) : Int × Int).1 [] f9 := fun f9 => by
    rw [p_f1_w (show 12 < 13 by decide), show fk 12 = 11 from rfl, if_pos hm, hw]
    rfl
  have hE := f_end (tx := tx) (z := fo_z.getD 11 []) (i := 5) (s := (q + 5, -1)) (A := []) (fu := mx tx q 11 0 fu) rfl
  rw [e1, p_rc_s, f11]
  generalize mx tx q 11 0 fu = f9 at *
  generalize p_fit tx (fo_z.getD 11 []) 0 5 ((q + 5, (-1 : Int)) : Int × Int).1 [] f9 = R at *
  by_cases c0 : e_ok tx (q + 5, -1)
  · have hR := hE.1 c0
    have h32 : ltr tx (q + 5) ≠ 32 := fun y => by
      have hl : q + 5 < (tx.length : Int) := by
        by_cases v : q + 5 < (tx.length : Int)
        · exact v
        · rw [ltr_no v] at y; omega
      rw [ltr_eq hl] at y
      exact c0.2 ⟨hl, by dsimp only; omega⟩
    rcases h with ⟨-, h2, rfl⟩ | ⟨h1, -⟩
    · refine ⟨fun ok => ?_, fun ok => absurd c0 ok⟩
      subst hR
      dsimp only
      rw [if_pos (by omega)]
      exact ⟨Int.le_refl _, f9, (11, []), rfl, by omega, Or.inl ⟨hk, Or.inl ⟨rfl, h2⟩⟩⟩
    · exact absurd h1 h32
  · obtain ⟨r1, r2⟩ := hE.2 c0
    have ee : e_er (q + 5, -1) = q + 5 := rfl
    rw [ee] at r2
    rw [if_neg (by omega), r2, show max f9 (q + 5) = q + 5 by omega, p_rc_s, f12]
    have hS := f_SN (tx := tx) (z := fo_z.getD 12 []) (i := 5) (fu := q + 5) (s := (q + 5, -1)) rfl ok5 rfl rfl
    generalize p_fit tx (fo_z.getD 12 []) 2 5 ((q + 5, (-1 : Int)) : Int × Int).1 [] (q + 5) = R2 at *
    rcases h with ⟨h1, h2, rfl⟩ | ⟨h1, h2, rfl⟩
    · refine ⟨fun ok => absurd ok c0, fun _ => ?_⟩
      rw [t_s_n rfl h1, t_n_b (by dsimp only; omega)] at hS
      obtain ⟨z1, z2⟩ := hS.2 (fun z => by have := z.1; dsimp only at this; omega)
      have e3 : e_er (q + 5, q + 5) = q + 5 := if_neg (by dsimp only; omega)
      dsimp only at z1 z2
      rw [e3] at z2
      rw [if_neg (by omega), z2, ee]
      exact ⟨rfl, by show max (q + 5) (q + 5) = q + 5; omega⟩
    · have hup : q + 5 ≤ e_er (t_n tx (t_s tx 32 (q + 5, -1))).2 := Int.le_trans (e_s_up (tx := tx) (s := (q + 5, -1)) (c := 32)) (e_n_up (t_s_ok (c := 32) ok5 (by decide)).1.1)
      refine ⟨fun ok => ?_, fun ok => ?_⟩
      · have hR := hS.1 ok
        have e3 : e_er (t_n tx (t_s tx 32 (q + 5, -1))).2 = (t_n tx (t_s tx 32 (q + 5, -1))).2.1 := if_pos ok.1
        subst hR
        dsimp only
        rw [if_pos (by omega)]
        exact ⟨by omega, q + 5, (12, _), rfl, by omega, Or.inl ⟨hk, Or.inr ⟨rfl, h2⟩⟩⟩
      · obtain ⟨z1, z2⟩ := hS.2 ok
        rw [if_neg (by omega), z2]
        exact ⟨rfl, by show max (q + 5) _ = _; omega⟩
set_option maxHeartbeats 4000000 in
theorem X_cmd {tx : List Int} {w w2 : h_T} {n q fu : Int} {s2 : Int × Int} (hX : rX w tx) (hq : 0 ≤ q ∧ q ≤ (tx.length : Int)) (hf : 0 ≤ fu ∧ fu ≤ q) (h : c_p tx w n q w2 s2) :
    (e_ok tx s2 → q + 5 ≤ s2.1 ∧ ∃ (f2 : Int) (r : Nat × List Int), p_rc tx q 13 0 fu = (s2.1, f2, r) ∧ (0 ≤ f2 ∧ f2 ≤ s2.1) ∧ cmdR w2 n r) ∧ (¬ e_ok tx s2 → (p_rc tx q 13 0 fu).1 = -1 ∧ (p_rc tx q 13 0 fu).2.1 = e_er s2) := by
  obtain ⟨k, s1, hk, hs1, h⟩ := h
  rcases kw_res (tx := tx) (q := q) 12 0 q rfl with ⟨h1, h2⟩ | ⟨j, -, h2, h3, h4, h5⟩
  · have hk1 : k = -1 := hk.trans h1
    have hs : s2 = s1 := by
      rcases h with ⟨-, -, e⟩ | ⟨a, -⟩ | ⟨a, -⟩ | ⟨a, -⟩ | ⟨a, -⟩ | ⟨a, -⟩ | ⟨a, -⟩
      · exact e
      all_goals omega
    have e0 := kw_skip (tx := tx) (q := q) 12 0 0 q (fun i a b => h2 i a (by omega))
    have e9 : (k_kw tx q 12 0 q).2 = mx tx q 12 0 q := by
      have := congrArg Prod.snd e0
      exact this
    have hmf : mx tx q 12 0 fu = mx tx q 12 0 q := by
      have hz := (k_m_rg (tx := tx) (q := q) (x := 0) (by decide) hq).1
      show mx tx q 11 1 (max fu (q + k_m tx q ((0 : Nat) : Int))) = mx tx q 11 1 (max q (q + k_m tx q ((0 : Nat) : Int)))
      rw [show ((0 : Nat) : Int) = 0 from rfl, show max fu (q + k_m tx q 0) = max q (q + k_m tx q 0) by omega]
    have hup := mx_up (tx := tx) (q := q) 12 0 q
    have hge := mx_ge (tx := tx) (q := q) 12 0 q 11 (by decide) (by decide)
    have hs2 : s2 = (q, mx tx q 12 0 q) := by rw [hs, hs1, if_pos hk1, e9]
    subst hs2
    generalize hG : mx tx q 12 0 q = G at *
    refine ⟨fun ok => by have := ok.1; dsimp only at this; omega, fun _ => ?_⟩
    have e1 : p_rc tx q 13 0 fu = p_rc tx q 1 12 G := by
      have := rc_skip (tx := tx) (q := q) 12 0 1 fu (by omega) (fun i a b => h2 i a (by omega))
      rw [Nat.zero_add, hmf] at this
      exact this
    have e2 : e_er (q, G) = G := if_neg (by dsimp only; omega)
    rw [e1, e2]
    refine rc_tail 1 12 G rfl (fun i a b => ?_)
    have hi : i = 12 := by omega
    subst hi
    exact ⟨h2 11 (by decide) (by decide), hge⟩
  · have hkj : k = (j : Int) := hk.trans h3
    have hs : s1 = (q + wl (j : Int), -1) := by rw [hs1, if_neg (by omega), hkj]; rfl
    have hmr := k_m_rg (tx := tx) (q := q) (x := (j : Int)) (by omega) hq
    have hw := wl_rg (x := (j : Int)) (by omega)
    have ok1 : t_ok tx s1 := by
      rw [hs]
      exact ⟨⟨by dsimp only; omega, by dsimp only; omega⟩, by dsimp only; omega, by dsimp only; omega⟩
    have s2m : s1.2 = -1 := by rw [hs]
    have e1 : e_er s1 = q + wl (j : Int) := by rw [hs]; rfl
    have s11 : s1.1 = q + wl (j : Int) := by rw [hs]
    rcases h with ⟨a, -⟩ | ⟨a, b, rfl, rfl⟩ | ⟨a, rfl, rfl⟩ | ⟨a, b, rfl, rfl⟩ | ⟨a, rfl, rfl⟩ | ⟨a, rfl, rfl⟩ | ⟨a, rfl, rfl⟩
    · omega
    · have hj : j = 11 := by omega
      subst hj
      have hw5 : wl ((11 : Nat) : Int) = 5 := by decide
      rw [hw5] at hs s11
      rw [s11] at b
      exact X_c11 hq hf h4 h5 (by rw [c_1_k]; exact hkj) (Or.inl ⟨b, c_1_1, hs⟩)
    · have hj : j = 4 := by omega
      subst hj
      refine X_c10 (A := [(t_h tx s1).1.1, (t_h tx s1).1.2.1, (t_h tx s1).1.2.2.1, (t_h tx s1).1.2.2.2]) (by decide) hq hf h4 h5 (fun f2 => ?_) (by rw [← e1]; exact e_h_up ok1) (Or.inr ⟨by show 4 ≤ 10; decide, ?_, fun i i0 i1 => ?_⟩)
      · rw [← s11]; exact f_H s2m ok1
      · rw [hs_i (by omega), hs_i (by omega), hs_i (by omega), hs_i (by omega), c_1_k]; exact hkj
      · have i4 : i < 4 := i1
        have hi : i = 0 ∨ i = 1 ∨ i = 2 ∨ i = 3 := by omega
        rcases hi with rfl | rfl | rfl | rfl
        · rw [show 5 * n + 1 + 0 = 5 * n + 1 by omega, hs_i (by omega), hs_i (by omega), hs_i (by omega), hs_s]; rfl
        · rw [show 5 * n + 1 + 1 = 5 * n + 2 by omega, hs_i (by omega), hs_i (by omega), hs_s]; rfl
        · rw [show 5 * n + 1 + 2 = 5 * n + 3 by omega, hs_i (by omega), hs_s]; rfl
        · rw [show 5 * n + 1 + 3 = 5 * n + 4 by omega, hs_s]; rfl
    · have hj : j = 11 := by omega
      subst hj
      have hw5 : wl ((11 : Nat) : Int) = 5 := by decide
      rw [hw5] at hs s11
      rw [s11] at b
      rw [hs]
      refine X_c11 hq hf h4 h5 ?_ (Or.inr ⟨b, ?_, rfl⟩)
      · rw [hs_i (by omega), c_1_k]; exact hkj
      · rw [hs_s]
    · have hj : j = 8 := by omega
      subst hj
      refine X_c10 (A := [(t_d tx s1).1, (t_n tx (t_s tx 32 (t_d tx s1).2)).1]) (by decide) hq hf h4 h5 (fun f2 => ?_) (by rw [← e1]; exact Int.le_trans e_d_up (Int.le_trans e_s_up (e_n_up (t_s_ok (c := 32) (t_d_ok ok1) (by decide)).1.1))) (Or.inr ⟨by show 8 ≤ 10; decide, ?_, fun i i0 i1 => ?_⟩)
      · rw [← s11]; exact f_L s2m ok1 rfl rfl rfl
      · rw [hs_i (by omega), hs_i (by omega), c_1_k]; exact hkj
      · have i4 : i < 2 := i1
        have hi : i = 0 ∨ i = 1 := by omega
        rcases hi with rfl | rfl
        · rw [show 5 * n + 1 + 0 = 5 * n + 1 by omega, hs_i (by omega), hs_s]; rfl
        · rw [show 5 * n + 1 + 1 = 5 * n + 2 by omega, hs_s]; rfl
    · have key : ∀ j9 : Nat, j9 = 1 ∨ j9 = 5 ∨ j9 = 9 ∨ j9 = 10 → f_tl j9 = 1 ∧ (fo_z.getD j9 []).getD (wl (j9 : Int)).toNat 0 = 42 ∧ p_cnt j9 = 1 := by
        intro j9 hj
        rcases hj with rfl | rfl | rfl | rfl <;> decide +kernel
      obtain ⟨y1, y2, y3⟩ := key j (by omega)
      refine X_c10 (A := [(t_n tx s1).1]) (by omega) hq hf h4 h5 (fun f2 => ?_) (by rw [← e1]; exact e_n_up ok1.1.1) (Or.inr ⟨by show j ≤ 10; omega, ?_, fun i i0 i1 => ?_⟩)
      · rw [← s11, y1]; exact f_N s2m ok1.1.1 y2
      · rw [hs_i (by omega), c_1_k]; exact hkj
      · have i4 : i < ((p_cnt j : Nat) : Int) := i1
        rw [y3] at i4
        have hi : i = 0 := by omega
        subst hi
        rw [show 5 * n + 1 + 0 = 5 * n + 1 by omega, hs_s]; rfl
    · have key : ∀ j9 : Nat, j9 = 0 ∨ j9 = 2 ∨ j9 = 3 ∨ j9 = 6 ∨ j9 = 7 → f_tl j9 = 1 ∧ (fo_z.getD j9 []).getD (wl (j9 : Int)).toNat 0 = 35 ∧ p_cnt j9 = 1 := by
        intro j9 hj
        rcases hj with rfl | rfl | rfl | rfl | rfl <;> decide +kernel
      obtain ⟨y1, y2, y3⟩ := key j (by omega)
      refine X_c10 (A := [(t_d tx s1).1]) (by omega) hq hf h4 h5 (fun f2 => ?_) (by rw [← e1]; exact e_d_up) (Or.inr ⟨by show j ≤ 10; omega, ?_, fun i i0 i1 => ?_⟩)
      · rw [← s11, y1]; exact f_D s2m ok1.1.1 y2
      · rw [hs_i (by omega), c_1_k]; exact hkj
      · have i4 : i < ((p_cnt j : Nat) : Int) := i1
        rw [y3] at i4
        have hi : i = 0 := by omega
        subst hi
        rw [show 5 * n + 1 + 0 = 5 * n + 1 by omega, hs_s]; rfl
/-- a run of commands: the forms read the same -/
def rcR (w2 : h_T) (n : Int) (R : List (Nat × List Int)) : Prop := w2 0 18 = n + (R.length : Int) ∧ ∀ i : Nat, i < R.length → cmdR w2 (n + (i : Int)) (R.getD i (0, []))
theorem rcR.up {w2 : h_T} {n : Int} {r : Nat × List Int} {R : List (Nat × List Int)} (h : rcR w2 (n + 1) R) (hr : cmdR w2 n r) : rcR w2 n (r :: R) := by
  refine ⟨by rw [h.1, List.length_cons]; omega, fun i hi => ?_⟩
  cases i with
  | zero => rw [show n + ((0 : Nat) : Int) = n by omega]; exact hr
  | succ i =>
    have := h.2 i (by rw [List.length_cons] at hi; omega)
    rw [show n + ((i + 1 : Nat) : Int) = n + 1 + (i : Int) by omega]
    exact this
theorem c_run_keep {tx : List Int} : ∀ (m : Nat) (w : h_T) (s : Int × Int) (w2 : h_T) (s2 : Int × Int), rX w tx → t_ok tx s → c_run tx m w s w2 s2 → s2.2 = -1 → ∀ j : Int, j < 5 * (w 0 18) → w2 9 j = w 9 j := by
  intro m
  induction m with
  | zero =>
    intro w s w2 s2 hX hok h hs j hj
    rw [h.1]
  | succ m ih =>
    intro w s w2 s2 hX hok h hs j hj
    obtain ⟨-, h⟩ := h
    have ht : t_ok tx (t_s tx 59 s) := t_s_ok hok (by decide)
    rcases h with ⟨-, w1, s1, hp, hr⟩ | ⟨hb, hr⟩
    · by_cases z : s1.2 = -1
      · have hu := c_p_up ht.1 hp
        have hk := c_p_cmd hX ht.1 hp z
        rw [ih w1 s1 w2 s2 (hu.2.2 hX) (c_p_ok hX ht.1 hp) hr hs j (by omega)]
        exact hk.1 j hj
      · exact absurd hs (c_run_bad hr z)
    · exact absurd hs (c_run_bad hr hb)
set_option maxHeartbeats 4000000 in
theorem X_run {tx : List Int} : ∀ (m N : Nat) (q fu n : Int) (w w1 : h_T) (s1 : Int × Int) (w2 : h_T) (s2 : Int × Int), rX w tx → 0 ≤ q ∧ q ≤ (tx.length : Int) → 72 ≤ q + 6 * (N : Int) → 0 ≤ fu ∧ fu ≤ q → c_p tx w n q w1 s1 → c_run tx m w1 s1 w2 s2 →
    (s2.2 ≠ -1 → (p_rcs tx N q fu).1 = false ∧ (p_rcs tx N q fu).2.1 = s2.2) ∧ (s2.2 = -1 → (p_rcs tx N q fu).1 = true ∧ rcR w2 n (p_rcs tx N q fu).2.2) := by
  intro m
  induction m with
  | zero =>
    intro N q fu n w w1 s1 w2 s2 hX hq hN hf hp hr
    obtain ⟨rfl, rfl, hend⟩ := hr
    have hl6 := hX.2.1
    obtain ⟨N, rfl⟩ : ∃ k, N = k + 1 := ⟨N - 1, by omega⟩
    have hok := c_p_ok hX hq hp
    have hu := c_p_up hq hp
    obtain ⟨c1, c2⟩ := X_cmd hX hq hf hp
    rw [p_rcs_s]
    refine ⟨fun hb => ?_, fun hg => ?_⟩
    · obtain ⟨r1, r2⟩ := c2 (fun z => hb z.1)
      rw [if_pos r1]
      refine ⟨rfl, ?_⟩
      show (p_rc tx q 13 0 fu).2.1 = s2.2
      rw [r2]
      exact if_neg hb
    · have hlen : ¬ s2.1 < (tx.length : Int) := fun z => hend ⟨hg, z⟩
      have hl : s2.1 = (tx.length : Int) := by have := hok.1; omega
      obtain ⟨-, f2, r, er, -, hc⟩ := c1 ⟨hg, fun z => hlen z.1⟩
      rw [er]
      dsimp only
      rw [if_neg (by omega), if_pos hl]
      refine ⟨rfl, ?_, ?_⟩
      · show w2 0 18 = n + 1
        exact hu.2.1
      · intro i hi
        have hi0 : i = 0 := by
          have : i < 1 := hi
          omega
        subst hi0
        rw [show n + ((0 : Nat) : Int) = n by omega]
        exact hc
  | succ m ih =>
    intro N q fu n w w1 s1 w2 s2 hX hq hN hf hp hr
    obtain ⟨⟨hg, hlt⟩, hr⟩ := hr
    have hl6 := hX.2.1
    obtain ⟨N, rfl⟩ : ∃ k, N = k + 1 := ⟨N - 1, by omega⟩
    have hok := c_p_ok hX hq hp
    have hu := c_p_up hq hp
    obtain ⟨c1, c2⟩ := X_cmd hX hq hf hp
    rw [p_rcs_s]
    by_cases y : ltr tx s1.1 = 59
    · have et := t_s_y (c := 59) hg y
      rw [et] at hr
      rcases hr with ⟨-, w3, s3, hp3, hr3⟩ | ⟨hb, -⟩
      · have hy : tx.getD s1.1.toNat 0 = 59 := by rw [← ltr_eq hlt]; exact y
        obtain ⟨q5, f2, r, er, hf2, hc⟩ := c1 ⟨hg, fun z => z.2 hy⟩
        rw [er]
        dsimp only
        rw [if_neg (by omega), if_neg (by omega)]
        dsimp only
        have hX1 := hu.2.2 hX
        have hq1 : 0 ≤ s1.1 + 1 ∧ s1.1 + 1 ≤ (tx.length : Int) := by omega
        obtain ⟨i1, i2⟩ := ih N (s1.1 + 1) f2 (w1 0 18) w1 w3 s3 w2 s2 hX1 hq1 (by omega) (by omega) hp3 hr3
        refine ⟨i1, fun hg2 => ⟨(i2 hg2).1, ?_⟩⟩
        have h9 := (i2 hg2).2
        rw [hu.2.1] at h9
        have z3 : s3.2 = -1 := by
          by_cases z : s3.2 = -1
          · exact z
          · exact absurd hg2 (c_run_bad hr3 z)
        refine h9.up (hc.eq (fun j hj => ?_))
        have hu3 := c_p_up hq1 hp3
        rw [c_run_keep m w3 s3 w2 s2 (hu3.2.2 hX1) (c_p_ok hX1 hq1 hp3) hr3 hg2 j (by rw [hu3.2.1, hu.2.1]; omega)]
        exact (c_p_cmd hX1 hq1 hp3 z3).1 j (by rw [hu.2.1]; omega)
      · exact absurd rfl hb
    · have et := t_s_n (c := 59) hg y
      rw [et] at hr
      have hne : ¬ (s1.1 : Int) = -1 := by have := hok.1; omega
      rcases hr with ⟨hb, -⟩ | ⟨-, hr3⟩
      · exact absurd hb hne
      · have hs2 : s2 = (s1.1, s1.1) := by
          cases m with
          | zero => exact hr3.2.1
          | succ m => exact absurd hr3.1.1 hne
        subst hs2
        obtain ⟨r1, r2⟩ := c2 (fun z => z.2 ⟨hlt, by rw [← ltr_eq hlt]; exact y⟩)
        refine ⟨fun _ => ?_, fun z => absurd z hne⟩
        rw [if_pos r1]
        refine ⟨rfl, ?_⟩
        show (p_rc tx q 13 0 fu).2.1 = s1.1
        rw [r2]
        exact if_pos hg
