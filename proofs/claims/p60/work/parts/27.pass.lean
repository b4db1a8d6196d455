/-- the same bounds, finer: contracts are paid once, debts grow on each seventh night -/
theorem h_BK.work2 {x : Int} : ∀ (n : Nat) {K : Int} {g : h_T} (e : Int), h_BK K g → 0 ≤ x ∧ x < g 0 9 → h_BK (K + 50 * (g 0 11 - S_work x n g e 0 11)) (S_work x n g e) ∧ S_work x n g e 0 11 ≤ g 0 11 ∧ S_work x n g e 0 0 = g 0 0 := by
  intro n
  induction n with
  | zero => intro K g e h hx; exact ⟨h.mono (by show K ≤ K + 50 * (g 0 11 - g 0 11); omega), Int.le_refl _, rfl⟩
  | succ n ih =>
    intro K g e h hx
    rw [S_work]
    split
    · exact ⟨h.mono (by omega), Int.le_refl _, rfl⟩
    · rename_i q
      rcases S_first_rg (g := g) x h.n11.1 with z | ⟨z1, z2, z3⟩
      · exact absurd (Or.inl z) q
      · have hd := h.do_ (x := x) (p := S_first g x) hx ⟨z1, z2⟩
        have e9 : S_do g x (S_first g x) 0 9 = g 0 9 := by rw [S_do_n (by omega)]; rfl
        have e0 : S_do g x (S_first g x) 0 0 = g 0 0 := by rw [S_do_n (by omega)]; rfl
        have e11 : S_do g x (S_first g x) 0 11 = g 0 11 - 1 := by rw [S_do_n (by omega)]; rfl
        have r := ih (e - g 13 (S_first g x)) hd (by rw [e9]; exact hx)
        exact ⟨r.1.mono (by omega), by omega, r.2.2.trans e0⟩
theorem h_BK.brk2 : ∀ (k : Nat) {K : Int} {g : h_T}, h_BK K g → (k : Int) ≤ g 0 11 → h_BK (K + 50 * (g 0 11 - S_brk k g 0 11)) (S_brk k g) ∧ S_brk k g 0 11 ≤ g 0 11 := by
  intro k
  induction k with
  | zero => intro K g h hk; exact ⟨h.mono (by show K ≤ K + 50 * (g 0 11 - g 0 11); omega), Int.le_refl _⟩
  | succ k ih =>
    intro K g h hk
    rw [S_brk]
    have e5 := h.s 5 (by omega)
    split
    · have h1 := ((h.mono (show K ≤ K + 1 by omega)).del (p := (k : Int)) (by omega)).st0 (i := 5) (v := g 0 5 + 1) (by omega) (by omega)
      have q11 : hs (S_del g (k : Int)) 0 5 (g 0 5 + 1) 0 11 = g 0 11 - 1 := by simp [hs_at, S_del]
      have r := ih h1 (by rw [q11]; omega)
      rw [q11] at r
      exact ⟨r.1.mono (by omega), by omega⟩
    · exact ih h (by omega)
theorem S_grow1_n {g : h_T} {x k : Int} (hk : k ≠ 7) : S_grow1 g x 0 k = g 0 k := by
  unfold S_grow1
  split
  · simp [hs_at, hk]
  · rfl
theorem S_grow_n {g : h_T} {k : Int} (hk : k ≠ 7) : ∀ n : Nat, S_grow g n 0 k = g 0 k := by
  intro n
  induction n with
  | zero => rfl
  | succ n ih => rw [S_grow, S_grow1_n hk, ih]
theorem h_BK.grow12 {K : Int} {g : h_T} (h : h_BK K g) {x : Int} (hx : 0 ≤ x ∧ x < g 0 9) : h_BK (K + 100) (S_grow1 g x) := by
  have gx := h.go hx
  have e7 := h.s 7 (by omega)
  unfold S_grow1
  split
  · have b := S_grown_bd (d := g 6 x) (by omega)
    have b2 : S_grown (g 6 x) ≤ g 6 x + 100 := by unfold S_grown; omega
    exact ((h.mono (show K ≤ K + 100 by omega)).st0 (by omega) (by omega)).st6 (by omega)
  · exact h.mono (by omega)
theorem h_BK.grow2 {K : Int} {g : h_T} (h : h_BK K g) : ∀ k : Nat, (k : Int) ≤ g 0 9 → h_BK (K + 100 * k) (S_grow g k) := by
  intro k
  induction k with
  | zero => intro _; exact h.mono (by omega)
  | succ k ih =>
    intro hk
    exact ((ih (by omega)).grow12 (x := (k : Int)) (by rw [S_grow_n (by omega)]; omega)).mono (by omega)
theorem h_BK.turn2 {K : Int} {g : h_T} (h : h_BK K g) {x : Int} (hx : 0 ≤ x ∧ x < g 0 9) : h_BK (K + 1 + 50 * (g 0 11 - S_turn g x 0 11)) (S_turn g x) ∧ S_turn g x 0 11 ≤ g 0 11 ∧ S_turn g x 0 0 = g 0 0 := by
  have gx := h.go hx
  have h0 := h.s 0 (by omega)
  unfold S_turn
  split
  · have h1 := (h.mono (show K ≤ K + 1 by omega)).st7 (i := x) (v := 0) (by omega)
    exact h1.work2 (x := x) 8 (S_energy (hs g 7 x 0) x) hx
  · exact ⟨((h.mono (show K ≤ K + 1 by omega)).st7 (by omega)).mono (by show K + 1 ≤ K + 1 + 50 * (g 0 11 - g 0 11); omega), Int.le_refl _, rfl⟩
theorem h_BK.turns2 {K : Int} {g : h_T} (h : h_BK K g) : ∀ k : Nat, (k : Int) ≤ g 0 9 → h_BK (K + k + 50 * (g 0 11 - S_turns g k 0 11)) (S_turns g k) ∧ S_turns g k 0 11 ≤ g 0 11 ∧ S_turns g k 0 0 = g 0 0 := by
  intro k
  induction k with
  | zero => intro _; exact ⟨h.mono (by show K ≤ K + (0 : Nat) + 50 * (g 0 11 - g 0 11); omega), Int.le_refl _, rfl⟩
  | succ k ih =>
    intro hk
    have r := ih (by omega)
    have n9 := (h.turns k (by omega)).2.1
    have q := r.1.turn2 (x := (k : Int)) (by rw [n9]; omega)
    rw [S_turns]
    exact ⟨q.1.mono (by omega), by omega, q.2.2.trans r.2.2⟩
theorem S_n1_n {g : h_T} {k : Int} (hk : k ≠ 0) : S_n1 g 0 k = g 0 k := by
  unfold S_n1; rw [S_dust_o 6 (by decide), hs_at, if_neg (by simp [hk])]
theorem S_n1_0 {g : h_T} : S_n1 g 0 0 = g 0 0 + 1 := by
  unfold S_n1; rw [S_dust_o 6 (by decide), hs_at, if_pos ⟨rfl, rfl⟩]
theorem h_BK.n32 {K : Int} {g : h_T} (h : h_BK K g) : h_BK (K + 6 + 50 * (g 0 11 - S_n3 g 0 11)) (S_n3 g) ∧ S_n3 g 0 11 ≤ g 0 11 ∧ S_n3 g 0 0 = g 0 0 + 1 := by
  have h1 := h.n1
  have n9 := h1.1.n9
  have r := h1.1.turns2 (S_n1 g 0 9).toNat (by omega)
  have e11 := S_n1_n (g := g) (k := 11) (by omega)
  have e0 := S_n1_0 (g := g)
  change h_BK _ (S_n2 g) ∧ S_n2 g 0 11 ≤ _ ∧ S_n2 g 0 0 = _ at r
  have n11 := r.1.n11
  have q := r.1.brk2 (S_n2 g 0 11).toNat (by omega)
  have z := h.n3.2.2.2
  change h_BK _ (S_n3 g) ∧ S_n3 g 0 11 ≤ _ at q
  exact ⟨q.1.mono (by change _ + 50 * (S_n2 g 0 11 - S_n3 g 0 11) ≤ _; change K + 1 + ((S_n1 g 0 9).toNat : Int) + 50 * (S_n1 g 0 11 - S_n2 g 0 11) + _ ≤ _; omega), by omega, by omega⟩
theorem h_BK.night2 {K : Int} {g : h_T} (h : h_BK K g) : h_BK (K + 6 + 50 * (g 0 11 - S_night g 0 11) + 500 * ((g 0 0 + 1) / 7 - g 0 0 / 7)) (S_night g) ∧ S_night g 0 11 ≤ g 0 11 ∧ S_night g 0 0 = g 0 0 + 1 := by
  have h1 := h.n32
  have n9 := h1.1.n9
  unfold S_night
  split
  · have r := h1.1.grow2 (S_n3 g 0 9).toNat (by omega)
    rw [S_grow_n (by omega), S_grow_n (by omega)]
    exact ⟨r.mono (by omega), h1.2.1, h1.2.2⟩
  · exact ⟨h1.1.mono (by omega), h1.2.1, h1.2.2⟩
theorem h_BK.nights2 {K : Int} {g : h_T} (h : h_BK K g) : ∀ k : Nat, h_BK (K + 6 * k + 50 * (g 0 11 - S_nights g k 0 11) + 500 * ((g 0 0 + k) / 7 - g 0 0 / 7)) (S_nights g k) ∧ S_nights g k 0 11 ≤ g 0 11 ∧ S_nights g k 0 0 = g 0 0 + k := by
  intro k
  induction k with
  | zero => exact ⟨h.mono (by show K ≤ K + 6 * (0 : Nat) + 50 * (g 0 11 - g 0 11) + 500 * ((g 0 0 + (0 : Nat)) / 7 - g 0 0 / 7); omega), Int.le_refl _, by show g 0 0 = g 0 0 + ((0 : Nat) : Int); omega⟩
  | succ k ih =>
    have q := ih.1.night2
    rw [S_nights]
    exact ⟨q.1.mono (by omega), by omega, by omega⟩
theorem h_BK.nights3 {K : Int} {g : h_T} (h : h_BK K g) (k : Nat) (hk : k ≤ 60) : h_BK (K + 5300) (S_nights g k) := by
  have q := h.nights2 k
  have a := h.n11
  have b := q.1.n11
  exact q.1.mono (by omega)

set_option maxHeartbeats 4000000 in
set_option maxRecDepth 100000 in
theorem t_X7_letNightsPass {D : va_G} {aC : Nat → ClassId} {s0 : State} {l : Launch} (hF : m_F D aC s0) (hl : l.stackTraces = false) {b : Nat} {g : h_T} {M : m_M} {K : Int} (hR : hhR b g M) (hB : h_BK K g) (hK : K ≤ 80000000) (hb : s0.heap.size ≤ b) {x : Int} (hx : -2147483648 ≤ x ∧ x < 2147483648) : m_Met D aC s0 l yX7_letNightsPass cX7_letNightsPass 4 (some .int) 4 (0) (0) [.ref b, VI x] M (h_op b M (S_pass g x)) m_nx := by
  refine m_entry (lv := [(0, .ref b), (1, VI x)]) (by decide +kernel) (Nat.le_of_ble_eq_true rfl) rfl hF hl ?_
  intro p e s m args below meth c hC hr hno hnm
  change m_C D aC s0 RX7 _ _ _ _ _ _ _ _ _ at hC
  refine m_iload_n hC 1 dX7_letNightsPass_0 rfl rfl ?_
  refine m_iconst hC dX7_letNightsPass_1 ?_
  refine m_icmp_lt (tgt := 11) hC dX7_letNightsPass_2 (by decide) (by first | omega | (simp [hs_at] <;> omega)) (fun c1 => ?_) (fun c1 => ?_)
  · refine m_bipush hC dX7_letNightsPass_11 (by decide) ?_
    exact m_iret hC dX7_letNightsPass_13 hr (by decide) (by decide) (h_op.mk (by unfold S_pass; rw [if_pos (by omega)]) hR m_fr.rf)
  · refine m_iload_n hC 1 dX7_letNightsPass_5 rfl rfl ?_
    refine m_bipush hC dX7_letNightsPass_6 (by decide) ?_
    refine m_icmp_le (tgt := 14) hC dX7_letNightsPass_8 (by decide) (by first | omega | (simp [hs_at] <;> omega)) (fun c2 => ?_) (fun c2 => ?_)
    · refine m_aload_n hC 0 dX7_letNightsPass_14 rfl rfl ?_
      refine m_getf hC dX7_letNightsPass_15 kf_X7_49 hR.ob rfl ?_
      refine m_istore_n hC dX7_letNightsPass_18 rfl (by decide) rfl ?_
      refine m_iconst hC dX7_letNightsPass_19 ?_
      refine m_istore_n hC dX7_letNightsPass_20 rfl (by decide) rfl ?_
      have L : ∀ (n : Nat) (i : Int) (M1 : m_M), x - i < (n : Int) → 0 ≤ i → i ≤ x → hhR b (S_nights g i.toNat) M1 → m_fr b 17 M M1 → m_W D aC s0 4 p l e (m_R 4 (0) (0)) s m args below meth c (0) (0) (m_Q D aC s0 below (h_op b M (S_pass g x)) m_nx args s (0) (0)) 21 [(3, VI i), (2, VI (g 0 4)), (1, VI x), (0, .ref b)] [] M1 := by
        intro n
        induction n with
        | zero =>
          intro i M1 hn h0 h1 hR1 hf1
          omega
        | succ n ih =>
          intro i M1 hn h0 h1 hR1 hf1
          refine m_iload_n hC 0 dX7_letNightsPass_21 rfl rfl ?_
          refine m_iload_n hC 2 dX7_letNightsPass_22 rfl rfl ?_
          refine m_icmp_ge (tgt := 36) hC dX7_letNightsPass_23 (by decide) (by first | omega | (simp [hs_at] <;> omega)) (fun c3 => ?_) (fun c3 => ?_)
          · refine m_aload_n hC 3 dX7_letNightsPass_36 rfl rfl ?_
            refine m_getf hC dX7_letNightsPass_37 kf_X7_49 hR1.ob rfl ?_
            refine m_iload_n hC 1 dX7_letNightsPass_40 rfl rfl ?_
            refine m_isub hC dX7_letNightsPass_41 ?_
            exact m_iret hC dX7_letNightsPass_42 hr (by decide) (by decide) (h_op.mk (by unfold S_pass; rw [if_neg (by omega), show x.toNat = i.toNat by omega]) hR1 hf1)
          · refine m_aload_n hC 3 dX7_letNightsPass_26 rfl rfl ?_
            refine m_callV hC (t_X7_passOneNight hF hl hR1 (hB.nights3 i.toNat (by omega)) (by omega) hb) dX7_letNightsPass_27 kc_X7_passOneNight kV_X7_201 hR1.ob rfl rfl rfl rfl (Nat.le_of_ble_eq_true rfl) (by decide) (by decide) m_nox (fun v9 M4 h9 => ?_)
            obtain ⟨rfl, R5, f6⟩ := h9
            refine m_iinc hC 0 dX7_letNightsPass_30 rfl (by decide) rfl ?_
            refine m_goto (tgt := 21) hC dX7_letNightsPass_33 (by decide) ?_
            refine m_lvs [0, 1, 2, 3] rfl (ih (i + 1) M4 (by omega) (by omega) (by omega) (by rw [show (i + 1).toNat = i.toNat + 1 by omega, S_nights]; exact R5) (hf1.tr f6))
      refine m_lvs [0, 1, 3, 2] rfl (L ((x - 0).toNat + 1) 0 M (by omega) (by omega) (by omega) hR m_fr.rf)
    · refine m_bipush hC dX7_letNightsPass_11 (by decide) ?_
      exact m_iret hC dX7_letNightsPass_13 hr (by decide) (by decide) (h_op.mk (by unfold S_pass; rw [if_pos (by omega)]) hR m_fr.rf)

