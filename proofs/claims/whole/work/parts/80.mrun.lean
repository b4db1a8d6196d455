theorem X_ex_I {K : Int} {g : h_T} (h : h_I K g) (k : Int) (f : Int → Int) : h_Ip K (X_ex g k f) := by
  unfold X_ex
  split
  · exact S_pass_I h _
  · exact S_exec_I h _ _
theorem r_n_v {w : h_T} {tx : List Int} (hX : rX w tx) (q wr : Int) : 0 ≤ (r_n tx q wr).1 ∧ (r_n tx q wr).1 ≤ 999 := by
  have h0 := r_v_rg hX (q := q) (wr := wr) (lo := 48) (hi := 57) (by decide)
  unfold r_n
  rw [nu]
  split
  · rename_i z
    obtain ⟨-, z1, z2⟩ := z
    rw [nu]
    split
    · rename_i y
      obtain ⟨-, y1, y2⟩ := y
      rw [nu]
      dsimp only
      omega
    · dsimp only
      omega
  · dsimp only
    omega
theorem t_d_v {w : h_T} {tx : List Int} (hX : rX w tx) (s : Int × Int) : 0 ≤ (t_d tx s).1 ∧ (t_d tx s).1 ≤ 9 := r_v_rg hX (by decide)
theorem t_n_v {w : h_T} {tx : List Int} (hX : rX w tx) (s : Int × Int) : 0 ≤ (t_n tx s).1 ∧ (t_n tx s).1 ≤ 999 := r_n_v hX _ _
/-- a command read: its kind and the numbers of its kind -/
def cmdO (w : h_T) (i : Int) : Prop := (0 ≤ w 9 (5 * i) ∧ w 9 (5 * i) ≤ 11) ∧ (0 ≤ w 9 (5 * i + 1) ∧ w 9 (5 * i + 1) ≤ 999) ∧ (w 9 (5 * i) = 4 → (0 ≤ w 9 (5 * i + 2) ∧ w 9 (5 * i + 2) ≤ 999) ∧ (0 ≤ w 9 (5 * i + 3) ∧ w 9 (5 * i + 3) ≤ 999) ∧ (0 ≤ w 9 (5 * i + 4) ∧ w 9 (5 * i + 4) ≤ 999)) ∧ (w 9 (5 * i) = 8 → 0 ≤ w 9 (5 * i + 2) ∧ w 9 (5 * i + 2) ≤ 999)
theorem cmdO.eq {w w2 : h_T} {i : Int} (h : cmdO w i) (e : ∀ j : Int, j < 5 * i + 5 → w2 9 j = w 9 j) : cmdO w2 i := by
  unfold cmdO at h ⊢
  rw [e (5 * i) (by omega), e (5 * i + 1) (by omega), e (5 * i + 2) (by omega), e (5 * i + 3) (by omega), e (5 * i + 4) (by omega)]
  exact h
theorem c_1_k {w : h_T} {n k : Int} : c_1 w n k 9 (5 * n) = k := by
  unfold c_1
  rw [hs_c (by decide), hs_i (by omega), hs_s]
theorem c_1_1 {w : h_T} {n k : Int} : c_1 w n k 9 (5 * n + 1) = 1 := by
  unfold c_1
  rw [hs_c (by decide), hs_s]
theorem c_1_o {w : h_T} {n k j : Int} (h : j < 5 * n) : c_1 w n k 9 j = w 9 j := by
  unfold c_1
  rw [hs_c (by decide), hs_i (by omega), hs_i (by omega)]
theorem c_p_cmd {tx : List Int} {w w2 : h_T} {n q : Int} {s2 : Int × Int} (hX : rX w tx) (hq : 0 ≤ q ∧ q ≤ (tx.length : Int)) (h : c_p tx w n q w2 s2) (hs : s2.2 = -1) : (∀ j : Int, j < 5 * n → w2 9 j = w 9 j) ∧ cmdO w2 n := by
  obtain ⟨k, s1, hk, hs1, h⟩ := h
  have hkr := k_kw_rg (tx := tx) (q := q) 12 0 q (by decide) (by decide) hq hq
  rw [← hk] at hkr
  have h2 : k = -1 → s1.2 ≠ -1 := fun z => by
    rw [hs1, if_pos z]
    show (k_kw tx q 12 0 q).2 ≠ -1
    omega
  have hd := fun s => t_d_v hX s
  have hn := fun s => t_n_v hX s
  rcases h with ⟨a, rfl, rfl⟩ | ⟨a, b, rfl, rfl⟩ | ⟨a, rfl, rfl⟩ | ⟨a, b, rfl, rfl⟩ | ⟨a, rfl, rfl⟩ | ⟨a, rfl, rfl⟩ | ⟨a, rfl, rfl⟩
  · exact absurd hs (h2 a)
  · refine ⟨fun j hj => c_1_o hj, ?_⟩
    unfold cmdO
    rw [c_1_k, c_1_1]
    exact ⟨by omega, by omega, fun z => by omega, fun z => by omega⟩
  · have h1 := hd s1
    have h3 := hd (t_s tx 32 (t_d tx s1).2)
    have h4 := hn (t_s tx 32 (t_d tx (t_s tx 32 (t_d tx s1).2)).2)
    have h5 := hn (t_s tx 47 (t_n tx (t_s tx 32 (t_d tx (t_s tx 32 (t_d tx s1).2)).2)).2)
    refine ⟨fun j hj => by rw [hs_i (by omega), hs_i (by omega), hs_i (by omega), hs_i (by omega), c_1_o hj], ?_⟩
    unfold cmdO
    rw [hs_i (by omega), hs_i (by omega), hs_i (by omega), hs_i (by omega), c_1_k, hs_i (by omega), hs_i (by omega), hs_i (by omega), hs_s, hs_i (by omega), hs_i (by omega), hs_s, hs_i (by omega), hs_s, hs_s]
    refine ⟨by omega, ?_, fun _ => ⟨?_, ?_, ?_⟩, fun z => by omega⟩
    · show 0 ≤ (t_d tx s1).1 ∧ (t_d tx s1).1 ≤ 999; omega
    · exact ⟨h3.1, Int.le_trans h3.2 (by decide)⟩
    · exact h4
    · exact h5
  · have h1 := hn (t_s tx 32 s1)
    refine ⟨fun j hj => by rw [hs_i (by omega), c_1_o hj], ?_⟩
    unfold cmdO
    rw [hs_i (by omega), c_1_k, hs_s]
    exact ⟨by omega, h1, fun z => by omega, fun z => by omega⟩
  · have h1 := hd s1
    have h3 := hn (t_s tx 32 (t_d tx s1).2)
    refine ⟨fun j hj => by rw [hs_i (by omega), hs_i (by omega), c_1_o hj], ?_⟩
    unfold cmdO
    rw [hs_i (by omega), hs_i (by omega), c_1_k, hs_i (by omega), hs_s, hs_s]
    exact ⟨by omega, by omega, fun z => by omega, fun _ => h3⟩
  · have h1 := hn s1
    refine ⟨fun j hj => by rw [hs_i (by omega), c_1_o hj], ?_⟩
    unfold cmdO
    rw [hs_i (by omega), c_1_k, hs_s]
    exact ⟨by omega, h1, fun z => by omega, fun z => by omega⟩
  · have h1 := hd s1
    refine ⟨fun j hj => by rw [hs_i (by omega), c_1_o hj], ?_⟩
    unfold cmdO
    rw [hs_i (by omega), c_1_k, hs_s]
    exact ⟨by omega, by omega, fun z => by omega, fun z => by omega⟩
theorem c_p_ok {tx : List Int} {w w2 : h_T} {n q : Int} {s2 : Int × Int} (hX : rX w tx) (hq : 0 ≤ q ∧ q ≤ (tx.length : Int)) (h : c_p tx w n q w2 s2) : t_ok tx s2 := by
  obtain ⟨k, s1, hk, hs1, h⟩ := h
  have hkr := k_kw_rg (tx := tx) (q := q) 12 0 q (by decide) (by decide) hq hq
  rw [← hk] at hkr
  have ok1 : t_ok tx s1 := X_ok1 hs1 rfl hkr hq
  rcases h with ⟨a, rfl, rfl⟩ | ⟨a, b, rfl, rfl⟩ | ⟨a, rfl, rfl⟩ | ⟨a, b, rfl, rfl⟩ | ⟨a, rfl, rfl⟩ | ⟨a, rfl, rfl⟩ | ⟨a, rfl, rfl⟩
  · exact ok1
  · exact ok1
  · exact t_h_ok ok1
  · exact t_n_ok (t_s_ok ok1 (by decide))
  · exact t_n_ok (t_s_ok (t_d_ok ok1) (by decide))
  · exact t_n_ok ok1
  · exact t_d_ok ok1
theorem c_run_bad {tx : List Int} {m : Nat} {w w2 : h_T} {s s2 : Int × Int} (h : c_run tx m w s w2 s2) (hs : s.2 ≠ -1) : s2.2 ≠ -1 := by
  cases m with
  | zero =>
    obtain ⟨-, rfl, -⟩ := h
    exact hs
  | succ m => exact absurd h.1.1 hs
theorem c_run_cmd {tx : List Int} : ∀ (m : Nat) (w : h_T) (s : Int × Int) (w2 : h_T) (s2 : Int × Int), rX w tx → t_ok tx s → c_run tx m w s w2 s2 → s2.2 = -1 → 0 ≤ w 0 18 → (∀ i : Int, 0 ≤ i → i < w 0 18 → cmdO w i) → ∀ i : Int, 0 ≤ i → i < w2 0 18 → cmdO w2 i := by
  intro m
  induction m with
  | zero =>
    intro w s w2 s2 hX hok h hs h0 hc
    obtain ⟨rfl, -, -⟩ := h
    exact hc
  | succ m ih =>
    intro w s w2 s2 hX hok h hs h0 hc
    obtain ⟨-, h⟩ := h
    have ht : t_ok tx (t_s tx 59 s) := t_s_ok hok (by decide)
    rcases h with ⟨-, w1, s1, hp, hr⟩ | ⟨hb, hr⟩
    · by_cases z : s1.2 = -1
      · have hu := c_p_up ht.1 hp
        have hk := c_p_cmd hX ht.1 hp z
        refine ih w1 s1 w2 s2 (hu.2.2 hX) (c_p_ok hX ht.1 hp) hr hs (by omega) (fun i i0 i1 => ?_)
        by_cases y : i = w 0 18
        · rw [y]
          exact hk.2
        · exact (hc i i0 (by omega)).eq (fun j hj => hk.1 j (by omega))
      · exact absurd hs (c_run_bad hr z)
    · exact absurd hs (c_run_bad hr hb)
