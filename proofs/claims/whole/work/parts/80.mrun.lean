theorem X_ex_I {K : Int} {g : h_T} (h : h_I K g) (k : Int) (f : Int → Int) : h_Ip K (X_ex g k f) := by
  unfold X_ex
  split
  · exact S_pass_I h _
  · exact S_exec_I h _ _
theorem r_n_v {w : h_T} {tx : List Int} (hX : rX w tx) (q wr : Int) : 0 ≤ (r_n tx q wr).1 ∧ (r_n tx q wr).1 ≤ 999 := by
  have h0 := r_v_rg hX (q := q) (wr := wr) (lo := 48) (hi := 57) (by decide)
  unfold r_n
  rw [nu]
  split
  · rename_i z
    obtain ⟨-, z1, z2⟩ := z
    rw [nu]
    split
    · rename_i y
      obtain ⟨-, y1, y2⟩ := y
      rw [nu]
      dsimp only
      omega
    · dsimp only
      omega
  · dsimp only
    omega
theorem t_d_v {w : h_T} {tx : List Int} (hX : rX w tx) (s : Int × Int) : 0 ≤ (t_d tx s).1 ∧ (t_d tx s).1 ≤ 9 := r_v_rg hX (by decide)
theorem t_n_v {w : h_T} {tx : List Int} (hX : rX w tx) (s : Int × Int) : 0 ≤ (t_n tx s).1 ∧ (t_n tx s).1 ≤ 999 := r_n_v hX _ _
