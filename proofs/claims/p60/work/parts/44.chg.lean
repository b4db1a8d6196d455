theorem S_work_done {x : Int} : ∀ (n : Nat) (g : h_T) (e : Int), g 0 4 ≤ S_work x n g e 0 4 := by
  intro n
  induction n with
  | zero => intro g e; exact Int.le_refl _
  | succ n ih =>
    intro g e
    rw [S_work]
    split
    · exact Int.le_refl _
    · have h := ih (S_do g x (S_first g x)) (e - g 13 (S_first g x))
      have h2 : S_do g x (S_first g x) 0 4 = S_del (S_pay (S_sweep g (S_first g x)) x (g 12 (S_first g x))) (S_first g x) 0 4 + 0 + (g 0 4 - S_del (S_pay (S_sweep g (S_first g x)) x (g 12 (S_first g x))) (S_first g x) 0 4) + 1 := by
        unfold S_do
        rw [hs_s]
        omega
      omega
theorem S_brk_done : ∀ (k : Nat) (g : h_T), S_brk k g 0 4 = g 0 4 := by
  intro k
  induction k with
  | zero => intro g; rfl
  | succ k ih =>
    intro g
    rw [S_brk, ih]
    split
    · rw [hs_i (by decide), S_del_n (by decide)]
    · rfl
theorem S_turn_done (g : h_T) (x : Int) : g 0 4 ≤ S_turn g x 0 4 := by
  unfold S_turn
  split
  · refine Int.le_trans ?_ (S_work_done _ _ _)
    rw [hs_c (by decide)]
    exact Int.le_refl _
  · rw [hs_c (by decide)]
    exact Int.le_refl _
theorem S_turns_done (g : h_T) : ∀ k : Nat, g 0 4 ≤ S_turns g k 0 4 := by
  intro k
  induction k with
  | zero => exact Int.le_refl _
  | succ k ih => exact Int.le_trans ih (S_turn_done _ _)
theorem S_night_done (g : h_T) : g 0 4 ≤ S_night g 0 4 := by
  have h1 : S_n1 g 0 4 = g 0 4 := S_n1_n (by decide)
  have h2 := S_turns_done (S_n1 g) (S_n1 g 0 9).toNat
  have h3 : S_n3 g 0 4 = S_n2 g 0 4 := S_brk_done _ _
  have h4 : S_night g 0 4 = S_n3 g 0 4 := by
    unfold S_night
    split
    · exact S_grow_n (by decide) _
    · rfl
  rw [h4, h3, ← h1]
  exact h2
theorem S_nights_done (g : h_T) : ∀ k : Nat, g 0 4 ≤ S_nights g k 0 4 := by
  intro k
  induction k with
  | zero => exact Int.le_refl _
  | succ k ih => exact Int.le_trans ih (S_night_done _)
/-- an operation's answer: a number, or one of the codes, the state as it was -/
def S_ok (cs : List Int) (g : h_T) (S : Int × h_T) : Prop := (0 ≤ S.1 ∧ S.1 ≤ 200000000) ∨ (S.1 ∈ cs ∧ S.2 = g)
theorem S_resting_bd {g : h_T} (h : h_B g) : 0 ≤ S_resting g ∧ S_resting g ≤ 5 := by
  have h9 := h.n9
  have := h_sum_bd (f := fun j => g 8 j) (B := 1) (n := g 0 9) (by omega) (fun j hj => by have := (h.go hj).2.2.2.2.2.2.2.2; omega)
  unfold S_resting
  omega
theorem S_addGoblin_ok {g : h_T} (h : h_B g) (s : Int) : S_ok [-2, -3] g (S_addGoblin g s) := by
  have h9 := h.n9
  unfold S_addGoblin
  split
  · exact Or.inr ⟨by simp, rfl⟩
  · split
    · exact Or.inr ⟨by simp, rfl⟩
    · refine Or.inl ⟨?_, ?_⟩ <;> (dsimp only; omega)
theorem S_addBroom_ok {g : h_T} (h : h_B g) (s : Int) : S_ok [-2, -3] g (S_addBroom g s) := by
  have h9 := h.n8
  unfold S_addBroom
  split
  · exact Or.inr ⟨by simp, rfl⟩
  · split
    · exact Or.inr ⟨by simp, rfl⟩
    · refine Or.inl ⟨?_, ?_⟩ <;> (dsimp only; omega)
theorem S_banish_ok {g : h_T} (h : h_B g) (x : Int) : S_ok [-1, -3] g (S_banish g x) := by
  unfold S_banish
  split
  · exact Or.inr ⟨by simp, rfl⟩
  · split
    · exact Or.inr ⟨by simp, rfl⟩
    · have := S_inUse_bd (h.st3 (i := x) (v := 1) (by omega) (Or.inr rfl))
      refine Or.inl ⟨?_, ?_⟩ <;> (dsimp only; omega)
theorem S_recall_ok {g : h_T} (h : h_B g) (x : Int) : S_ok [-1, -3] g (S_recall g x) := by
  unfold S_recall
  split
  · exact Or.inr ⟨by simp, rfl⟩
  · split
    · exact Or.inr ⟨by simp, rfl⟩
    · have := S_inUse_bd (h.st3 (i := x) (v := 0) (by omega) (Or.inl rfl))
      refine Or.inl ⟨?_, ?_⟩ <;> (dsimp only; omega)
theorem S_rest_ok {g : h_T} (h : h_B g) (x : Int) : S_ok [-1, -3] g (S_rest g x) := by
  unfold S_rest
  split
  · exact Or.inr ⟨by simp, rfl⟩
  · split
    · exact Or.inr ⟨by simp, rfl⟩
    · have := S_resting_bd (h.st8 (i := x) (v := 1) (by omega) (Or.inr rfl))
      refine Or.inl ⟨?_, ?_⟩ <;> (dsimp only; omega)
theorem S_wake_ok {g : h_T} (h : h_B g) (x : Int) : S_ok [-1, -3] g (S_wake g x) := by
  unfold S_wake
  split
  · exact Or.inr ⟨by simp, rfl⟩
  · split
    · exact Or.inr ⟨by simp, rfl⟩
    · have := h.go (i := x) (by omega)
      refine Or.inl ⟨?_, ?_⟩ <;> (dsimp only; omega)
theorem S_hire_ok {g : h_T} (h : h_B g) (x r w e : Int) : S_ok [-1, -2, -3, -4] g (S_hire g x r w e) := by
  unfold S_hire
  split
  · exact Or.inr ⟨by simp, rfl⟩
  · split
    · exact Or.inr ⟨by simp, rfl⟩
    · split
      · exact Or.inr ⟨by simp, rfl⟩
      · split
        · exact Or.inr ⟨by simp, rfl⟩
        · have := h.s 10 (by omega)
          refine Or.inl ⟨?_, ?_⟩ <;> (dsimp only; omega)
theorem S_cancel_ok {g : h_T} (h : h_B g) (x : Int) : S_ok [-5] g (S_cancel g x) := by
  have h11 := h.n11
  have hp := S_pos_rg (g := g) x (by omega)
  unfold S_cancel
  split
  · exact Or.inr ⟨by simp, rfl⟩
  · have h1 := h.co (i := S_pos g x) (by omega)
    have h2 := h.s 1 (by omega)
    refine Or.inl ⟨?_, ?_⟩ <;> (dsimp only; unfold S_cut; omega)
theorem S_lend_ok {g : h_T} (h : h_B g) (x c : Int) : S_ok [-1, -2, -4] g (S_lend g x c) := by
  unfold S_lend
  split
  · exact Or.inr ⟨by simp, rfl⟩
  · split
    · exact Or.inr ⟨by simp, rfl⟩
    · split
      · exact Or.inr ⟨by simp, rfl⟩
      · have := h.go (i := x) (by omega)
        refine Or.inl ⟨?_, ?_⟩ <;> (dsimp only; omega)
theorem S_fund_ok {g : h_T} (h : h_B g) (c : Int) : S_ok [-2] g (S_fund g c) := by
  have h1 := h.s 1 (by omega)
  unfold S_fund
  split
  · exact Or.inr ⟨by simp, rfl⟩
  · refine Or.inl ⟨?_, ?_⟩ <;> (dsimp only; omega)
theorem S_spend_ok {g : h_T} (h : h_B g) (c : Int) : S_ok [-2, -4] g (S_spend g c) := by
  have h1 := h.s 1 (by omega)
  unfold S_spend
  split
  · exact Or.inr ⟨by simp, rfl⟩
  · split
    · exact Or.inr ⟨by simp, rfl⟩
    · refine Or.inl ⟨?_, ?_⟩ <;> (dsimp only; omega)
theorem S_pass_ok {K : Int} {g : h_T} (h : h_BK K g) (hK : K ≤ 80000000) (n : Int) : S_ok [-2] g (S_pass g n) := by
  unfold S_pass
  split
  · exact Or.inr ⟨by simp, rfl⟩
  · have h1 := S_nights_done g n.toNat
    have h2 := (h.nights3 n.toNat (by omega)).s 4 (by omega)
    have h3 := h.s 4 (by omega)
    refine Or.inl ⟨?_, ?_⟩ <;> (dsimp only; omega)
def e_code (z : Int) : String := if z = -1 then eI else if z = -2 then eA else if z = -3 then eS else if z = -4 then eU else eN
def c_L (n : Int) (g : h_T) (L : Nat → h_T) : Nat → h_T := fun i => if n < 8 then (if (i : Int) = n then g else L i) else (if i = 7 then g else L (i + 1))
def c_q (q : Int → Int) : Int → Int := m_ug q 0 (min (q 0 + 1) 8)
theorem ghP.chg {z0 : Nat} {fo : Nat → Nat} {x w : Nat} {g sg g2 : h_T} {L L9 : Nat → h_T} {q : Int → Int} {tx ot : List Int} {M M1 M2 M3 : m_M} (h : ghP z0 fo x w g sg L q tx ot M) (hc : 0 ≤ q 0 ∧ q 0 ≤ 8) (hL : ∀ i : Nat, (i : Int) < q 0 → L9 i = L i) (f1 : m_fr (x + 54) 153 M M1) (hR2 : hhR (x + 1) g2 M2) (f2 : m_fr (x + 1) 17 M1 M2) (hH3 : hiP x (min (q 0 + 1) 8) (hi_L (q 0) (fun j => if j = (q 0).toNat then g else L9 j)) M3) (f3 : m_fr (x + 52) 2 M2 M3) : ghP z0 fo x w g2 sg (c_L (q 0) g L) (c_q q) tx ot M3 := by
  obtain ⟨a1, a2, a3, ⟨f9, a4⟩, ⟨s9, a5, b5⟩, a6, a7, a8⟩ := h
  refine ⟨⟨a1.1, by rw [f3.1, f2.1, f1.1]; exact a1.2.1, a1.2.2⟩, ?_, hR2.fr f3 (by omega), ⟨f9, ((a4.fr f1 (by omega)).fr f2 (by omega)).fr f3 (by omega)⟩, ⟨s9, ((a5.fr f1 (by omega)).fr f2 (by omega)).fr f3 (by omega), b5⟩, ?_, ((a7.fr f1 (by omega)).fr f2 (by omega)).fr f3 (by omega), ?_⟩
  · exact (f3.2 _ (by omega)).trans ((f2.2 _ (by omega)).trans ((f1.2 _ (by omega)).trans a2))
  · refine ⟨_, hH3, fun i hi => ?_⟩
    have hi : (i : Int) < min (q 0 + 1) 8 := hi
    unfold hi_L c_L
    by_cases h8 : q 0 < 8
    · rw [if_pos h8, if_pos h8]
      try dsimp only
      by_cases hq : i = (q 0).toNat
      · rw [if_pos hq, if_pos (by omega)]
      · rw [if_neg hq, if_neg (by omega), hL i (by omega)]
    · rw [if_neg h8, if_neg h8]
      try dsimp only
      rw [if_pos (by omega)]
      by_cases hq : i = 7
      · rw [if_pos (by omega), if_pos hq]
      · rw [if_neg (by omega), if_neg hq, hL (i + 1) (by omega)]
  · exact ((a8.fr f1 (by omega) (by omega)).fr f2 (by omega) (by rw [f1.1]; omega)).fr f3 (by omega) (by rw [f2.1, f1.1]; omega)
theorem ghP.ref {z0 : Nat} {fo : Nat → Nat} {x w : Nat} {g sg g2 : h_T} {L L9 : Nat → h_T} {q : Int → Int} {tx ot : List Int} {M M1 M2 M3 : m_M} (h : ghP z0 fo x w g sg L q tx ot M) (hc : 0 ≤ q 0 ∧ q 0 ≤ 8) (hL : ∀ i : Nat, (i : Int) < q 0 → L9 i = L i) (hH2 : hiP x (q 0) (fun j => if j = (q 0).toNat then g else L9 j) M2) (f1 : m_fr (x + 54) 153 M M1) (hR2 : hhR (x + 1) g2 M2) (f2 : m_fr (x + 1) 17 M1 M2) (h1 : M2.1 ≤ M3.1) (h2 : M3.2 = M2.2) : ghP z0 fo x w g2 sg L q tx ot M3 := by
  obtain ⟨a1, a2, a3, ⟨f9, a4⟩, ⟨s9, a5, b5⟩, a6, a7, a8⟩ := h
  refine ghP.grow (M := M2) ⟨⟨a1.1, by rw [f2.1, f1.1]; exact a1.2.1, a1.2.2⟩, ?_, hR2, ⟨f9, ((a4.fr f1 (by omega)).fr f2 (by omega))⟩, ⟨s9, ((a5.fr f1 (by omega)).fr f2 (by omega)), b5⟩, ?_, ((a7.fr f1 (by omega)).fr f2 (by omega)), ?_⟩ h1 h2
  · exact ((f2.2 _ (by omega)).trans ((f1.2 _ (by omega)).trans a2))
  · refine ⟨_, hH2, fun i hi => ?_⟩
    try dsimp only
    rw [if_neg (by omega), hL i hi]
  · exact ((a8.fr f1 (by omega) (by omega)).fr f2 (by omega) (by rw [f1.1]; omega))

set_option maxHeartbeats 4000000 in
set_option maxRecDepth 100000 in
theorem t_X9_finishChange {D : va_G} {aC : Nat → ClassId} {s0 : State} {l : Launch} (hF : m_F D aC s0) (hl : l.stackTraces = false) {x : Nat} {q : Int → Int} {c9 : Int} {L9 : Nat → h_T} {M : m_M} (hX : m_TH s0) (hO : gO x q M) (hH : hiP x c9 L9 M) (hc : 0 ≤ c9 ∧ c9 ≤ 8) (hx : s0.heap.size ≤ x) {z : Int} (hz : -5 ≤ z ∧ z < 2147483648) : m_Met D aC s0 l yX9_finishChange cX9_finishChange 2 (some .int) 6 (1) (6) [.ref x, VI z] M (fun v M' => v = some (VI z) ∧ 0 ≤ z ∧ hiP x (min (c9 + 1) 8) (hi_L c9 L9) M' ∧ m_fr (x + 52) 2 M M') (fun E M' => (z < 0 ∧ E = e_code z) ∧ M.1 ≤ M'.1 ∧ M'.2 = M.2) := by
  refine m_entry (lv := [(0, .ref x), (1, VI z)]) (by decide +kernel) (Nat.le_of_ble_eq_true rfl) rfl hF hl ?_
  intro p e s m args below meth c hC hr hno hnm
  change m_C D aC s0 RX9 _ _ _ _ _ _ _ _ _ at hC
  obtain ⟨p9, hQ⟩ := id hH
  refine m_iload_n hC 1 dX9_finishChange_0 rfl rfl ?_
  by_cases hz5 : 0 ≤ z
  · refine m_tout (tgt := 86) hC dX9_finishChange_1 (by omega) (by omega) (by decide) ?_
    refine m_aload_n hC 0 dX9_finishChange_86 rfl rfl ?_
    refine m_getf hC dX9_finishChange_87 kf_X9_25 hO rfl ?_
    refine m_callV hC (t_X6_keep hF hl hH hx hc) dX9_finishChange_90 kc_X6_keep kV_X9_131 hQ.1.1 rfl rfl rfl rfl (Nat.le_of_ble_eq_true rfl) (by decide) (by decide) m_nox (fun v9 M1 h9 => ?_)
    obtain ⟨rfl, hH9, hf9⟩ := h9
    refine m_iload_n hC 1 dX9_finishChange_93 rfl rfl ?_
    exact m_iret hC dX9_finishChange_94 hr (by decide) (by decide) (⟨rfl, by omega, hH9, hf9⟩)
  have hz6 : z = -5 ∨ z = -4 ∨ z = -3 ∨ z = -2 ∨ z = -1 := by omega
  rcases hz6 with rfl | rfl | rfl | rfl | rfl
  · refine m_tin (tgt := 76) hC dX9_finishChange_1 (by decide) (by decide) rfl (by decide) ?_
    exact m_thn hC hX (is := 128) (text := "no such open contract") (by decide) kX_126 kXi_126 ⟨by decide +kernel, by decide +kernel⟩ dX9_finishChange_76 dX9_finishChange_79 dX9_finishChange_80 dX9_finishChange_82 dX9_finishChange_85 hno (by decide) (Nat.le_of_ble_eq_true rfl) (Nat.le_of_ble_eq_true rfl) (Nat.le_of_ble_eq_true rfl) (Nat.le_of_ble_eq_true rfl) (Nat.le_of_ble_eq_true rfl) (fun M9 e1 e2 => ⟨⟨by decide, by decide⟩, e1, e2⟩)
  · refine m_tin (tgt := 66) hC dX9_finishChange_1 (by decide) (by decide) rfl (by decide) ?_
    exact m_thr hC hX (ic := 125) (cls := "java/lang/UnsupportedOperationException") (is := 123) (text := "the household cannot do this now") (by decide) (by decide) (by decide +kernel) kX_121 kXi_121 ⟨by decide +kernel, by decide +kernel⟩ dX9_finishChange_66 dX9_finishChange_69 dX9_finishChange_70 dX9_finishChange_72 dX9_finishChange_75 hno (by decide) (Nat.le_of_ble_eq_true rfl) (Nat.le_of_ble_eq_true rfl) (Nat.le_of_ble_eq_true rfl) (Nat.le_of_ble_eq_true rfl) (Nat.le_of_ble_eq_true rfl) (fun M9 e1 e2 => ⟨⟨by decide, by decide⟩, e1, e2⟩)
  · refine m_tin (tgt := 56) hC dX9_finishChange_1 (by decide) (by decide) rfl (by decide) ?_
    exact m_thr hC hX (ic := 120) (cls := "java/lang/IllegalStateException") (is := 118) (text := "not in this state") (by decide) (by decide) (by decide +kernel) kX_116 kXi_116 ⟨by decide +kernel, by decide +kernel⟩ dX9_finishChange_56 dX9_finishChange_59 dX9_finishChange_60 dX9_finishChange_62 dX9_finishChange_65 hno (by decide) (Nat.le_of_ble_eq_true rfl) (Nat.le_of_ble_eq_true rfl) (Nat.le_of_ble_eq_true rfl) (Nat.le_of_ble_eq_true rfl) (Nat.le_of_ble_eq_true rfl) (fun M9 e1 e2 => ⟨⟨by decide, by decide⟩, e1, e2⟩)
  · refine m_tin (tgt := 46) hC dX9_finishChange_1 (by decide) (by decide) rfl (by decide) ?_
    exact m_thr hC hX (ic := 115) (cls := "java/lang/IllegalArgumentException") (is := 113) (text := "a number is out of its bounds") (by decide) (by decide) (by decide +kernel) kX_111 kXi_111 ⟨by decide +kernel, by decide +kernel⟩ dX9_finishChange_46 dX9_finishChange_49 dX9_finishChange_50 dX9_finishChange_52 dX9_finishChange_55 hno (by decide) (Nat.le_of_ble_eq_true rfl) (Nat.le_of_ble_eq_true rfl) (Nat.le_of_ble_eq_true rfl) (Nat.le_of_ble_eq_true rfl) (Nat.le_of_ble_eq_true rfl) (fun M9 e1 e2 => ⟨⟨by decide, by decide⟩, e1, e2⟩)
  · refine m_tin (tgt := 36) hC dX9_finishChange_1 (by decide) (by decide) rfl (by decide) ?_
    exact m_thr hC hX (ic := 108) (cls := "java/lang/IndexOutOfBoundsException") (is := 106) (text := "no such index") (by decide) (by decide) (by decide +kernel) kX_104 kXi_104 ⟨by decide +kernel, by decide +kernel⟩ dX9_finishChange_36 dX9_finishChange_39 dX9_finishChange_40 dX9_finishChange_42 dX9_finishChange_45 hno (by decide) (Nat.le_of_ble_eq_true rfl) (Nat.le_of_ble_eq_true rfl) (Nat.le_of_ble_eq_true rfl) (Nat.le_of_ble_eq_true rfl) (Nat.le_of_ble_eq_true rfl) (fun M9 e1 e2 => ⟨⟨by decide, by decide⟩, e1, e2⟩)

set_option maxHeartbeats 4000000 in
set_option maxRecDepth 100000 in
theorem t_X9_addGoblin {D : va_G} {aC : Nat → ClassId} {s0 : State} {l : Launch} (hF : m_F D aC s0) (hl : l.stackTraces = false) {x w : Nat} {g sg : h_T} {L : Nat → h_T} {q : Int → Int} {tx ot : List Int} {M : m_M} {K : Int} {fo : Nat → Nat} (hX : m_TH s0) (hG : ghP s0.heap.size fo x w g sg L q tx ot M) (hB : h_BK K g) (hK : K ≤ 80000000) (hc : 0 ≤ q 0 ∧ q 0 ≤ 8) {y : Int} (hy : -2147483648 ≤ y ∧ y < 2147483648) : m_Met D aC s0 l yX9_addGoblin cX9_addGoblin 2 (some .int) 12 (470) (940) [.ref x, VI y] M (fun v M' => v = some (VI (S_addGoblin g y).1) ∧ 0 ≤ (S_addGoblin g y).1 ∧ ghP s0.heap.size fo x w (S_addGoblin g y).2 sg (c_L (q 0) g L) (c_q q) tx ot M' ∧ gFr x w M M') (fun E M' => ((S_addGoblin g y).1 < 0 ∧ E = e_code (S_addGoblin g y).1) ∧ ghP s0.heap.size fo x w (S_addGoblin g y).2 sg L q tx ot M' ∧ gFr x w M M') := by
  refine m_entry (lv := [(0, .ref x), (1, VI y)]) (by decide +kernel) (Nat.le_of_ble_eq_true rfl) rfl hF hl ?_
  intro p e s m args below meth c hC hr hno hnm
  change m_C D aC s0 RX9 _ _ _ _ _ _ _ _ _ at hC
  have hG9 := hG
  obtain ⟨a1, hO, hR, a4, a5, ⟨L9, hH, hL⟩, a7, a8⟩ := hG9
  have hx := a1.2.2
  have h8 := hB.n8.2
  have h9 := hB.n9.2
  have h11 := hB.n11.2
  have hB0 := hB.toB (by omega)
  obtain ⟨p9, hQ⟩ := id hH
  refine m_aload_n hC 0 dX9_addGoblin_0 rfl rfl ?_
  refine m_getf hC dX9_addGoblin_1 kf_X9_25 hO rfl ?_
  refine m_aload_n hC 0 dX9_addGoblin_4 rfl rfl ?_
  refine m_getf hC dX9_addGoblin_5 kf_X9_12 hO rfl ?_
  refine m_callV hC (t_X6_prepare hF hl hH hx hc hR (by omega) h8 h9 h11) dX9_addGoblin_8 kc_X6_prepare kV_X9_58 hQ.1.1 rfl rfl rfl rfl (Nat.le_of_ble_eq_true rfl) (by decide) ⟨Nat.le_of_ble_eq_true rfl, Nat.le_of_ble_eq_true rfl⟩ m_nox (fun v9 M1 h9 => ?_)
  obtain ⟨rfl, hH1, f1⟩ := h9
  have hO1 : gO x q M1 := (f1.2 _ (by omega)).trans hO
  have hR1 := hR.fr f1 (by omega)
  refine m_aload_n hC 0 dX9_addGoblin_11 rfl rfl ?_
  refine m_aload_n hC 0 dX9_addGoblin_12 rfl rfl ?_
  refine m_getf hC dX9_addGoblin_13 kf_X9_12 hO1 rfl ?_
  refine m_iload_n hC 1 dX9_addGoblin_16 rfl rfl ?_
  refine m_callV hC (t_X7_takeGoblin hF hl hR1 hB0 (by omega) hy) dX9_addGoblin_17 kc_X7_takeGoblin kV_X9_62 hR1.ob rfl rfl rfl rfl (Nat.le_of_ble_eq_true rfl) (by decide) ⟨Nat.le_of_ble_eq_true rfl, Nat.le_of_ble_eq_true rfl⟩ m_nox (fun v9 M2 h9 => ?_)
  obtain ⟨rfl, hR2, f2⟩ := h9
  have hO2 : gO x q M2 := (f2.2 _ (by omega)).trans hO1
  have hH2 := hH1.fr f2 (by omega)
  have hok := S_addGoblin_ok hB0 y
  generalize hS9 : S_addGoblin g y = S9 at *
  have hrg : -5 ≤ S9.1 ∧ S9.1 < 2147483648 := by rcases hok with h | h <;> first | omega | (have h := h.1; simp only [List.mem_cons, List.not_mem_nil, or_false] at h; omega)
  refine m_callV hC (t_X9_finishChange hF hl hX hO2 hH2 hc hx hrg) dX9_addGoblin_20 kc_X9_finishChange kV_X9_66 hO2 rfl rfl rfl rfl (Nat.le_of_ble_eq_true rfl) (by decide) ⟨Nat.le_of_ble_eq_true rfl, Nat.le_of_ble_eq_true rfl⟩ (m_out hC hno (Nat.le_of_ble_eq_true rfl) (Nat.le_of_ble_eq_true rfl) (fun E9 M9 h9 => ⟨h9.1, hG.ref hc hL hH2 f1 hR2 f2 h9.2.1 h9.2.2, ((gFr.of f1 (by omega)).tr (gFr.of f2 (by omega))).tr (gFr.gr h9.2.1 h9.2.2)⟩)) (fun v9 M3 h9 => ?_)
  obtain ⟨rfl, hz0, hH3, f3⟩ := h9
  exact m_iret hC dX9_addGoblin_23 hr (Nat.le_of_ble_eq_true rfl) (Nat.le_of_ble_eq_true rfl) (⟨rfl, hz0, hG.chg hc hL f1 hR2 f2 hH3 f3, ((gFr.of f1 (by omega)).tr (gFr.of f2 (by omega))).tr (gFr.of f3 (by omega))⟩)

set_option maxHeartbeats 4000000 in
set_option maxRecDepth 100000 in
theorem t_X9_addBroom {D : va_G} {aC : Nat → ClassId} {s0 : State} {l : Launch} (hF : m_F D aC s0) (hl : l.stackTraces = false) {x w : Nat} {g sg : h_T} {L : Nat → h_T} {q : Int → Int} {tx ot : List Int} {M : m_M} {K : Int} {fo : Nat → Nat} (hX : m_TH s0) (hG : ghP s0.heap.size fo x w g sg L q tx ot M) (hB : h_BK K g) (hK : K ≤ 80000000) (hc : 0 ≤ q 0 ∧ q 0 ≤ 8) {y : Int} (hy : -2147483648 ≤ y ∧ y < 2147483648) : m_Met D aC s0 l yX9_addBroom cX9_addBroom 2 (some .int) 12 (470) (940) [.ref x, VI y] M (fun v M' => v = some (VI (S_addBroom g y).1) ∧ 0 ≤ (S_addBroom g y).1 ∧ ghP s0.heap.size fo x w (S_addBroom g y).2 sg (c_L (q 0) g L) (c_q q) tx ot M' ∧ gFr x w M M') (fun E M' => ((S_addBroom g y).1 < 0 ∧ E = e_code (S_addBroom g y).1) ∧ ghP s0.heap.size fo x w (S_addBroom g y).2 sg L q tx ot M' ∧ gFr x w M M') := by
  refine m_entry (lv := [(0, .ref x), (1, VI y)]) (by decide +kernel) (Nat.le_of_ble_eq_true rfl) rfl hF hl ?_
  intro p e s m args below meth c hC hr hno hnm
  change m_C D aC s0 RX9 _ _ _ _ _ _ _ _ _ at hC
  have hG9 := hG
  obtain ⟨a1, hO, hR, a4, a5, ⟨L9, hH, hL⟩, a7, a8⟩ := hG9
  have hx := a1.2.2
  have h8 := hB.n8.2
  have h9 := hB.n9.2
  have h11 := hB.n11.2
  have hB0 := hB.toB (by omega)
  obtain ⟨p9, hQ⟩ := id hH
  refine m_aload_n hC 0 dX9_addBroom_0 rfl rfl ?_
  refine m_getf hC dX9_addBroom_1 kf_X9_25 hO rfl ?_
  refine m_aload_n hC 0 dX9_addBroom_4 rfl rfl ?_
  refine m_getf hC dX9_addBroom_5 kf_X9_12 hO rfl ?_
  refine m_callV hC (t_X6_prepare hF hl hH hx hc hR (by omega) h8 h9 h11) dX9_addBroom_8 kc_X6_prepare kV_X9_58 hQ.1.1 rfl rfl rfl rfl (Nat.le_of_ble_eq_true rfl) (by decide) ⟨Nat.le_of_ble_eq_true rfl, Nat.le_of_ble_eq_true rfl⟩ m_nox (fun v9 M1 h9 => ?_)
  obtain ⟨rfl, hH1, f1⟩ := h9
  have hO1 : gO x q M1 := (f1.2 _ (by omega)).trans hO
  have hR1 := hR.fr f1 (by omega)
  refine m_aload_n hC 0 dX9_addBroom_11 rfl rfl ?_
  refine m_aload_n hC 0 dX9_addBroom_12 rfl rfl ?_
  refine m_getf hC dX9_addBroom_13 kf_X9_12 hO1 rfl ?_
  refine m_iload_n hC 1 dX9_addBroom_16 rfl rfl ?_
  refine m_callV hC (t_X7_takeBroom hF hl hR1 hB0 (by omega) hy) dX9_addBroom_17 kc_X7_takeBroom kV_X9_69 hR1.ob rfl rfl rfl rfl (Nat.le_of_ble_eq_true rfl) (by decide) ⟨Nat.le_of_ble_eq_true rfl, Nat.le_of_ble_eq_true rfl⟩ m_nox (fun v9 M2 h9 => ?_)
  obtain ⟨rfl, hR2, f2⟩ := h9
  have hO2 : gO x q M2 := (f2.2 _ (by omega)).trans hO1
  have hH2 := hH1.fr f2 (by omega)
  have hok := S_addBroom_ok hB0 y
  generalize hS9 : S_addBroom g y = S9 at *
  have hrg : -5 ≤ S9.1 ∧ S9.1 < 2147483648 := by rcases hok with h | h <;> first | omega | (have h := h.1; simp only [List.mem_cons, List.not_mem_nil, or_false] at h; omega)
  refine m_callV hC (t_X9_finishChange hF hl hX hO2 hH2 hc hx hrg) dX9_addBroom_20 kc_X9_finishChange kV_X9_66 hO2 rfl rfl rfl rfl (Nat.le_of_ble_eq_true rfl) (by decide) ⟨Nat.le_of_ble_eq_true rfl, Nat.le_of_ble_eq_true rfl⟩ (m_out hC hno (Nat.le_of_ble_eq_true rfl) (Nat.le_of_ble_eq_true rfl) (fun E9 M9 h9 => ⟨h9.1, hG.ref hc hL hH2 f1 hR2 f2 h9.2.1 h9.2.2, ((gFr.of f1 (by omega)).tr (gFr.of f2 (by omega))).tr (gFr.gr h9.2.1 h9.2.2)⟩)) (fun v9 M3 h9 => ?_)
  obtain ⟨rfl, hz0, hH3, f3⟩ := h9
  exact m_iret hC dX9_addBroom_23 hr (Nat.le_of_ble_eq_true rfl) (Nat.le_of_ble_eq_true rfl) (⟨rfl, hz0, hG.chg hc hL f1 hR2 f2 hH3 f3, ((gFr.of f1 (by omega)).tr (gFr.of f2 (by omega))).tr (gFr.of f3 (by omega))⟩)

set_option maxHeartbeats 4000000 in
set_option maxRecDepth 100000 in
theorem t_X9_banishBroom {D : va_G} {aC : Nat → ClassId} {s0 : State} {l : Launch} (hF : m_F D aC s0) (hl : l.stackTraces = false) {x w : Nat} {g sg : h_T} {L : Nat → h_T} {q : Int → Int} {tx ot : List Int} {M : m_M} {K : Int} {fo : Nat → Nat} (hX : m_TH s0) (hG : ghP s0.heap.size fo x w g sg L q tx ot M) (hB : h_BK K g) (hK : K ≤ 80000000) (hc : 0 ≤ q 0 ∧ q 0 ≤ 8) {y : Int} (hy : -2147483648 ≤ y ∧ y < 2147483648) : m_Met D aC s0 l yX9_banishBroom cX9_banishBroom 2 (some .int) 12 (470) (940) [.ref x, VI y] M (fun v M' => v = some (VI (S_banish g y).1) ∧ 0 ≤ (S_banish g y).1 ∧ ghP s0.heap.size fo x w (S_banish g y).2 sg (c_L (q 0) g L) (c_q q) tx ot M' ∧ gFr x w M M') (fun E M' => ((S_banish g y).1 < 0 ∧ E = e_code (S_banish g y).1) ∧ ghP s0.heap.size fo x w (S_banish g y).2 sg L q tx ot M' ∧ gFr x w M M') := by
  refine m_entry (lv := [(0, .ref x), (1, VI y)]) (by decide +kernel) (Nat.le_of_ble_eq_true rfl) rfl hF hl ?_
  intro p e s m args below meth c hC hr hno hnm
  change m_C D aC s0 RX9 _ _ _ _ _ _ _ _ _ at hC
  have hG9 := hG
  obtain ⟨a1, hO, hR, a4, a5, ⟨L9, hH, hL⟩, a7, a8⟩ := hG9
  have hx := a1.2.2
  have h8 := hB.n8.2
  have h9 := hB.n9.2
  have h11 := hB.n11.2
  have hB0 := hB.toB (by omega)
  obtain ⟨p9, hQ⟩ := id hH
  refine m_aload_n hC 0 dX9_banishBroom_0 rfl rfl ?_
  refine m_getf hC dX9_banishBroom_1 kf_X9_25 hO rfl ?_
  refine m_aload_n hC 0 dX9_banishBroom_4 rfl rfl ?_
  refine m_getf hC dX9_banishBroom_5 kf_X9_12 hO rfl ?_
  refine m_callV hC (t_X6_prepare hF hl hH hx hc hR (by omega) h8 h9 h11) dX9_banishBroom_8 kc_X6_prepare kV_X9_58 hQ.1.1 rfl rfl rfl rfl (Nat.le_of_ble_eq_true rfl) (by decide) ⟨Nat.le_of_ble_eq_true rfl, Nat.le_of_ble_eq_true rfl⟩ m_nox (fun v9 M1 h9 => ?_)
  obtain ⟨rfl, hH1, f1⟩ := h9
  have hO1 : gO x q M1 := (f1.2 _ (by omega)).trans hO
  have hR1 := hR.fr f1 (by omega)
  refine m_aload_n hC 0 dX9_banishBroom_11 rfl rfl ?_
  refine m_aload_n hC 0 dX9_banishBroom_12 rfl rfl ?_
  refine m_getf hC dX9_banishBroom_13 kf_X9_12 hO1 rfl ?_
  refine m_iload_n hC 1 dX9_banishBroom_16 rfl rfl ?_
  refine m_callV hC (t_X7_putBroomAway hF hl hR1 hB0 (by omega) hy) dX9_banishBroom_17 kc_X7_putBroomAway kV_X9_72 hR1.ob rfl rfl rfl rfl (Nat.le_of_ble_eq_true rfl) (by decide) ⟨Nat.le_of_ble_eq_true rfl, Nat.le_of_ble_eq_true rfl⟩ m_nox (fun v9 M2 h9 => ?_)
  obtain ⟨rfl, hR2, f2⟩ := h9
  have hO2 : gO x q M2 := (f2.2 _ (by omega)).trans hO1
  have hH2 := hH1.fr f2 (by omega)
  have hok := S_banish_ok hB0 y
  generalize hS9 : S_banish g y = S9 at *
  have hrg : -5 ≤ S9.1 ∧ S9.1 < 2147483648 := by rcases hok with h | h <;> first | omega | (have h := h.1; simp only [List.mem_cons, List.not_mem_nil, or_false] at h; omega)
  refine m_callV hC (t_X9_finishChange hF hl hX hO2 hH2 hc hx hrg) dX9_banishBroom_20 kc_X9_finishChange kV_X9_66 hO2 rfl rfl rfl rfl (Nat.le_of_ble_eq_true rfl) (by decide) ⟨Nat.le_of_ble_eq_true rfl, Nat.le_of_ble_eq_true rfl⟩ (m_out hC hno (Nat.le_of_ble_eq_true rfl) (Nat.le_of_ble_eq_true rfl) (fun E9 M9 h9 => ⟨h9.1, hG.ref hc hL hH2 f1 hR2 f2 h9.2.1 h9.2.2, ((gFr.of f1 (by omega)).tr (gFr.of f2 (by omega))).tr (gFr.gr h9.2.1 h9.2.2)⟩)) (fun v9 M3 h9 => ?_)
  obtain ⟨rfl, hz0, hH3, f3⟩ := h9
  exact m_iret hC dX9_banishBroom_23 hr (Nat.le_of_ble_eq_true rfl) (Nat.le_of_ble_eq_true rfl) (⟨rfl, hz0, hG.chg hc hL f1 hR2 f2 hH3 f3, ((gFr.of f1 (by omega)).tr (gFr.of f2 (by omega))).tr (gFr.of f3 (by omega))⟩)

set_option maxHeartbeats 4000000 in
set_option maxRecDepth 100000 in
theorem t_X9_recallBroom {D : va_G} {aC : Nat → ClassId} {s0 : State} {l : Launch} (hF : m_F D aC s0) (hl : l.stackTraces = false) {x w : Nat} {g sg : h_T} {L : Nat → h_T} {q : Int → Int} {tx ot : List Int} {M : m_M} {K : Int} {fo : Nat → Nat} (hX : m_TH s0) (hG : ghP s0.heap.size fo x w g sg L q tx ot M) (hB : h_BK K g) (hK : K ≤ 80000000) (hc : 0 ≤ q 0 ∧ q 0 ≤ 8) {y : Int} (hy : -2147483648 ≤ y ∧ y < 2147483648) : m_Met D aC s0 l yX9_recallBroom cX9_recallBroom 2 (some .int) 12 (470) (940) [.ref x, VI y] M (fun v M' => v = some (VI (S_recall g y).1) ∧ 0 ≤ (S_recall g y).1 ∧ ghP s0.heap.size fo x w (S_recall g y).2 sg (c_L (q 0) g L) (c_q q) tx ot M' ∧ gFr x w M M') (fun E M' => ((S_recall g y).1 < 0 ∧ E = e_code (S_recall g y).1) ∧ ghP s0.heap.size fo x w (S_recall g y).2 sg L q tx ot M' ∧ gFr x w M M') := by
  refine m_entry (lv := [(0, .ref x), (1, VI y)]) (by decide +kernel) (Nat.le_of_ble_eq_true rfl) rfl hF hl ?_
  intro p e s m args below meth c hC hr hno hnm
  change m_C D aC s0 RX9 _ _ _ _ _ _ _ _ _ at hC
  have hG9 := hG
  obtain ⟨a1, hO, hR, a4, a5, ⟨L9, hH, hL⟩, a7, a8⟩ := hG9
  have hx := a1.2.2
  have h8 := hB.n8.2
  have h9 := hB.n9.2
  have h11 := hB.n11.2
  have hB0 := hB.toB (by omega)
  obtain ⟨p9, hQ⟩ := id hH
  refine m_aload_n hC 0 dX9_recallBroom_0 rfl rfl ?_
  refine m_getf hC dX9_recallBroom_1 kf_X9_25 hO rfl ?_
  refine m_aload_n hC 0 dX9_recallBroom_4 rfl rfl ?_
  refine m_getf hC dX9_recallBroom_5 kf_X9_12 hO rfl ?_
  refine m_callV hC (t_X6_prepare hF hl hH hx hc hR (by omega) h8 h9 h11) dX9_recallBroom_8 kc_X6_prepare kV_X9_58 hQ.1.1 rfl rfl rfl rfl (Nat.le_of_ble_eq_true rfl) (by decide) ⟨Nat.le_of_ble_eq_true rfl, Nat.le_of_ble_eq_true rfl⟩ m_nox (fun v9 M1 h9 => ?_)
  obtain ⟨rfl, hH1, f1⟩ := h9
  have hO1 : gO x q M1 := (f1.2 _ (by omega)).trans hO
  have hR1 := hR.fr f1 (by omega)
  refine m_aload_n hC 0 dX9_recallBroom_11 rfl rfl ?_
  refine m_aload_n hC 0 dX9_recallBroom_12 rfl rfl ?_
  refine m_getf hC dX9_recallBroom_13 kf_X9_12 hO1 rfl ?_
  refine m_iload_n hC 1 dX9_recallBroom_16 rfl rfl ?_
  refine m_callV hC (t_X7_fetchBroom hF hl hR1 hB0 (by omega) hy) dX9_recallBroom_17 kc_X7_fetchBroom kV_X9_75 hR1.ob rfl rfl rfl rfl (Nat.le_of_ble_eq_true rfl) (by decide) ⟨Nat.le_of_ble_eq_true rfl, Nat.le_of_ble_eq_true rfl⟩ m_nox (fun v9 M2 h9 => ?_)
  obtain ⟨rfl, hR2, f2⟩ := h9
  have hO2 : gO x q M2 := (f2.2 _ (by omega)).trans hO1
  have hH2 := hH1.fr f2 (by omega)
  have hok := S_recall_ok hB0 y
  generalize hS9 : S_recall g y = S9 at *
  have hrg : -5 ≤ S9.1 ∧ S9.1 < 2147483648 := by rcases hok with h | h <;> first | omega | (have h := h.1; simp only [List.mem_cons, List.not_mem_nil, or_false] at h; omega)
  refine m_callV hC (t_X9_finishChange hF hl hX hO2 hH2 hc hx hrg) dX9_recallBroom_20 kc_X9_finishChange kV_X9_66 hO2 rfl rfl rfl rfl (Nat.le_of_ble_eq_true rfl) (by decide) ⟨Nat.le_of_ble_eq_true rfl, Nat.le_of_ble_eq_true rfl⟩ (m_out hC hno (Nat.le_of_ble_eq_true rfl) (Nat.le_of_ble_eq_true rfl) (fun E9 M9 h9 => ⟨h9.1, hG.ref hc hL hH2 f1 hR2 f2 h9.2.1 h9.2.2, ((gFr.of f1 (by omega)).tr (gFr.of f2 (by omega))).tr (gFr.gr h9.2.1 h9.2.2)⟩)) (fun v9 M3 h9 => ?_)
  obtain ⟨rfl, hz0, hH3, f3⟩ := h9
  exact m_iret hC dX9_recallBroom_23 hr (Nat.le_of_ble_eq_true rfl) (Nat.le_of_ble_eq_true rfl) (⟨rfl, hz0, hG.chg hc hL f1 hR2 f2 hH3 f3, ((gFr.of f1 (by omega)).tr (gFr.of f2 (by omega))).tr (gFr.of f3 (by omega))⟩)

set_option maxHeartbeats 4000000 in
set_option maxRecDepth 100000 in
theorem t_X9_rest {D : va_G} {aC : Nat → ClassId} {s0 : State} {l : Launch} (hF : m_F D aC s0) (hl : l.stackTraces = false) {x w : Nat} {g sg : h_T} {L : Nat → h_T} {q : Int → Int} {tx ot : List Int} {M : m_M} {K : Int} {fo : Nat → Nat} (hX : m_TH s0) (hG : ghP s0.heap.size fo x w g sg L q tx ot M) (hB : h_BK K g) (hK : K ≤ 80000000) (hc : 0 ≤ q 0 ∧ q 0 ≤ 8) {y : Int} (hy : -2147483648 ≤ y ∧ y < 2147483648) : m_Met D aC s0 l yX9_rest cX9_rest 2 (some .int) 12 (470) (940) [.ref x, VI y] M (fun v M' => v = some (VI (S_rest g y).1) ∧ 0 ≤ (S_rest g y).1 ∧ ghP s0.heap.size fo x w (S_rest g y).2 sg (c_L (q 0) g L) (c_q q) tx ot M' ∧ gFr x w M M') (fun E M' => ((S_rest g y).1 < 0 ∧ E = e_code (S_rest g y).1) ∧ ghP s0.heap.size fo x w (S_rest g y).2 sg L q tx ot M' ∧ gFr x w M M') := by
  refine m_entry (lv := [(0, .ref x), (1, VI y)]) (by decide +kernel) (Nat.le_of_ble_eq_true rfl) rfl hF hl ?_
  intro p e s m args below meth c hC hr hno hnm
  change m_C D aC s0 RX9 _ _ _ _ _ _ _ _ _ at hC
  have hG9 := hG
  obtain ⟨a1, hO, hR, a4, a5, ⟨L9, hH, hL⟩, a7, a8⟩ := hG9
  have hx := a1.2.2
  have h8 := hB.n8.2
  have h9 := hB.n9.2
  have h11 := hB.n11.2
  have hB0 := hB.toB (by omega)
  obtain ⟨p9, hQ⟩ := id hH
  refine m_aload_n hC 0 dX9_rest_0 rfl rfl ?_
  refine m_getf hC dX9_rest_1 kf_X9_25 hO rfl ?_
  refine m_aload_n hC 0 dX9_rest_4 rfl rfl ?_
  refine m_getf hC dX9_rest_5 kf_X9_12 hO rfl ?_
  refine m_callV hC (t_X6_prepare hF hl hH hx hc hR (by omega) h8 h9 h11) dX9_rest_8 kc_X6_prepare kV_X9_58 hQ.1.1 rfl rfl rfl rfl (Nat.le_of_ble_eq_true rfl) (by decide) ⟨Nat.le_of_ble_eq_true rfl, Nat.le_of_ble_eq_true rfl⟩ m_nox (fun v9 M1 h9 => ?_)
  obtain ⟨rfl, hH1, f1⟩ := h9
  have hO1 : gO x q M1 := (f1.2 _ (by omega)).trans hO
  have hR1 := hR.fr f1 (by omega)
  refine m_aload_n hC 0 dX9_rest_11 rfl rfl ?_
  refine m_aload_n hC 0 dX9_rest_12 rfl rfl ?_
  refine m_getf hC dX9_rest_13 kf_X9_12 hO1 rfl ?_
  refine m_iload_n hC 1 dX9_rest_16 rfl rfl ?_
  refine m_callV hC (t_X7_sendToBed hF hl hR1 hB0 (by omega) hy) dX9_rest_17 kc_X7_sendToBed kV_X9_85 hR1.ob rfl rfl rfl rfl (Nat.le_of_ble_eq_true rfl) (by decide) ⟨Nat.le_of_ble_eq_true rfl, Nat.le_of_ble_eq_true rfl⟩ m_nox (fun v9 M2 h9 => ?_)
  obtain ⟨rfl, hR2, f2⟩ := h9
  have hO2 : gO x q M2 := (f2.2 _ (by omega)).trans hO1
  have hH2 := hH1.fr f2 (by omega)
  have hok := S_rest_ok hB0 y
  generalize hS9 : S_rest g y = S9 at *
  have hrg : -5 ≤ S9.1 ∧ S9.1 < 2147483648 := by rcases hok with h | h <;> first | omega | (have h := h.1; simp only [List.mem_cons, List.not_mem_nil, or_false] at h; omega)
  refine m_callV hC (t_X9_finishChange hF hl hX hO2 hH2 hc hx hrg) dX9_rest_20 kc_X9_finishChange kV_X9_66 hO2 rfl rfl rfl rfl (Nat.le_of_ble_eq_true rfl) (by decide) ⟨Nat.le_of_ble_eq_true rfl, Nat.le_of_ble_eq_true rfl⟩ (m_out hC hno (Nat.le_of_ble_eq_true rfl) (Nat.le_of_ble_eq_true rfl) (fun E9 M9 h9 => ⟨h9.1, hG.ref hc hL hH2 f1 hR2 f2 h9.2.1 h9.2.2, ((gFr.of f1 (by omega)).tr (gFr.of f2 (by omega))).tr (gFr.gr h9.2.1 h9.2.2)⟩)) (fun v9 M3 h9 => ?_)
  obtain ⟨rfl, hz0, hH3, f3⟩ := h9
  exact m_iret hC dX9_rest_23 hr (Nat.le_of_ble_eq_true rfl) (Nat.le_of_ble_eq_true rfl) (⟨rfl, hz0, hG.chg hc hL f1 hR2 f2 hH3 f3, ((gFr.of f1 (by omega)).tr (gFr.of f2 (by omega))).tr (gFr.of f3 (by omega))⟩)

set_option maxHeartbeats 4000000 in
set_option maxRecDepth 100000 in
theorem t_X9_wake {D : va_G} {aC : Nat → ClassId} {s0 : State} {l : Launch} (hF : m_F D aC s0) (hl : l.stackTraces = false) {x w : Nat} {g sg : h_T} {L : Nat → h_T} {q : Int → Int} {tx ot : List Int} {M : m_M} {K : Int} {fo : Nat → Nat} (hX : m_TH s0) (hG : ghP s0.heap.size fo x w g sg L q tx ot M) (hB : h_BK K g) (hK : K ≤ 80000000) (hc : 0 ≤ q 0 ∧ q 0 ≤ 8) {y : Int} (hy : -2147483648 ≤ y ∧ y < 2147483648) : m_Met D aC s0 l yX9_wake cX9_wake 2 (some .int) 12 (470) (940) [.ref x, VI y] M (fun v M' => v = some (VI (S_wake g y).1) ∧ 0 ≤ (S_wake g y).1 ∧ ghP s0.heap.size fo x w (S_wake g y).2 sg (c_L (q 0) g L) (c_q q) tx ot M' ∧ gFr x w M M') (fun E M' => ((S_wake g y).1 < 0 ∧ E = e_code (S_wake g y).1) ∧ ghP s0.heap.size fo x w (S_wake g y).2 sg L q tx ot M' ∧ gFr x w M M') := by
  refine m_entry (lv := [(0, .ref x), (1, VI y)]) (by decide +kernel) (Nat.le_of_ble_eq_true rfl) rfl hF hl ?_
  intro p e s m args below meth c hC hr hno hnm
  change m_C D aC s0 RX9 _ _ _ _ _ _ _ _ _ at hC
  have hG9 := hG
  obtain ⟨a1, hO, hR, a4, a5, ⟨L9, hH, hL⟩, a7, a8⟩ := hG9
  have hx := a1.2.2
  have h8 := hB.n8.2
  have h9 := hB.n9.2
  have h11 := hB.n11.2
  have hB0 := hB.toB (by omega)
  obtain ⟨p9, hQ⟩ := id hH
  refine m_aload_n hC 0 dX9_wake_0 rfl rfl ?_
  refine m_getf hC dX9_wake_1 kf_X9_25 hO rfl ?_
  refine m_aload_n hC 0 dX9_wake_4 rfl rfl ?_
  refine m_getf hC dX9_wake_5 kf_X9_12 hO rfl ?_
  refine m_callV hC (t_X6_prepare hF hl hH hx hc hR (by omega) h8 h9 h11) dX9_wake_8 kc_X6_prepare kV_X9_58 hQ.1.1 rfl rfl rfl rfl (Nat.le_of_ble_eq_true rfl) (by decide) ⟨Nat.le_of_ble_eq_true rfl, Nat.le_of_ble_eq_true rfl⟩ m_nox (fun v9 M1 h9 => ?_)
  obtain ⟨rfl, hH1, f1⟩ := h9
  have hO1 : gO x q M1 := (f1.2 _ (by omega)).trans hO
  have hR1 := hR.fr f1 (by omega)
  refine m_aload_n hC 0 dX9_wake_11 rfl rfl ?_
  refine m_aload_n hC 0 dX9_wake_12 rfl rfl ?_
  refine m_getf hC dX9_wake_13 kf_X9_12 hO1 rfl ?_
  refine m_iload_n hC 1 dX9_wake_16 rfl rfl ?_
  refine m_callV hC (t_X7_getOutOfBed hF hl hR1 hB0 (by omega) hy) dX9_wake_17 kc_X7_getOutOfBed kV_X9_88 hR1.ob rfl rfl rfl rfl (Nat.le_of_ble_eq_true rfl) (by decide) ⟨Nat.le_of_ble_eq_true rfl, Nat.le_of_ble_eq_true rfl⟩ m_nox (fun v9 M2 h9 => ?_)
  obtain ⟨rfl, hR2, f2⟩ := h9
  have hO2 : gO x q M2 := (f2.2 _ (by omega)).trans hO1
  have hH2 := hH1.fr f2 (by omega)
  have hok := S_wake_ok hB0 y
  generalize hS9 : S_wake g y = S9 at *
  have hrg : -5 ≤ S9.1 ∧ S9.1 < 2147483648 := by rcases hok with h | h <;> first | omega | (have h := h.1; simp only [List.mem_cons, List.not_mem_nil, or_false] at h; omega)
  refine m_callV hC (t_X9_finishChange hF hl hX hO2 hH2 hc hx hrg) dX9_wake_20 kc_X9_finishChange kV_X9_66 hO2 rfl rfl rfl rfl (Nat.le_of_ble_eq_true rfl) (by decide) ⟨Nat.le_of_ble_eq_true rfl, Nat.le_of_ble_eq_true rfl⟩ (m_out hC hno (Nat.le_of_ble_eq_true rfl) (Nat.le_of_ble_eq_true rfl) (fun E9 M9 h9 => ⟨h9.1, hG.ref hc hL hH2 f1 hR2 f2 h9.2.1 h9.2.2, ((gFr.of f1 (by omega)).tr (gFr.of f2 (by omega))).tr (gFr.gr h9.2.1 h9.2.2)⟩)) (fun v9 M3 h9 => ?_)
  obtain ⟨rfl, hz0, hH3, f3⟩ := h9
  exact m_iret hC dX9_wake_23 hr (Nat.le_of_ble_eq_true rfl) (Nat.le_of_ble_eq_true rfl) (⟨rfl, hz0, hG.chg hc hL f1 hR2 f2 hH3 f3, ((gFr.of f1 (by omega)).tr (gFr.of f2 (by omega))).tr (gFr.of f3 (by omega))⟩)

set_option maxHeartbeats 4000000 in
set_option maxRecDepth 100000 in
theorem t_X9_fund {D : va_G} {aC : Nat → ClassId} {s0 : State} {l : Launch} (hF : m_F D aC s0) (hl : l.stackTraces = false) {x w : Nat} {g sg : h_T} {L : Nat → h_T} {q : Int → Int} {tx ot : List Int} {M : m_M} {K : Int} {fo : Nat → Nat} (hX : m_TH s0) (hG : ghP s0.heap.size fo x w g sg L q tx ot M) (hB : h_BK K g) (hK : K ≤ 80000000) (hc : 0 ≤ q 0 ∧ q 0 ≤ 8) {y : Int} (hy : -2147483648 ≤ y ∧ y < 2147483648) : m_Met D aC s0 l yX9_fund cX9_fund 2 (some .int) 12 (470) (940) [.ref x, VI y] M (fun v M' => v = some (VI (S_fund g y).1) ∧ 0 ≤ (S_fund g y).1 ∧ ghP s0.heap.size fo x w (S_fund g y).2 sg (c_L (q 0) g L) (c_q q) tx ot M' ∧ gFr x w M M') (fun E M' => ((S_fund g y).1 < 0 ∧ E = e_code (S_fund g y).1) ∧ ghP s0.heap.size fo x w (S_fund g y).2 sg L q tx ot M' ∧ gFr x w M M') := by
  refine m_entry (lv := [(0, .ref x), (1, VI y)]) (by decide +kernel) (Nat.le_of_ble_eq_true rfl) rfl hF hl ?_
  intro p e s m args below meth c hC hr hno hnm
  change m_C D aC s0 RX9 _ _ _ _ _ _ _ _ _ at hC
  have hG9 := hG
  obtain ⟨a1, hO, hR, a4, a5, ⟨L9, hH, hL⟩, a7, a8⟩ := hG9
  have hx := a1.2.2
  have h8 := hB.n8.2
  have h9 := hB.n9.2
  have h11 := hB.n11.2
  have hB0 := hB.toB (by omega)
  obtain ⟨p9, hQ⟩ := id hH
  refine m_aload_n hC 0 dX9_fund_0 rfl rfl ?_
  refine m_getf hC dX9_fund_1 kf_X9_25 hO rfl ?_
  refine m_aload_n hC 0 dX9_fund_4 rfl rfl ?_
  refine m_getf hC dX9_fund_5 kf_X9_12 hO rfl ?_
  refine m_callV hC (t_X6_prepare hF hl hH hx hc hR (by omega) h8 h9 h11) dX9_fund_8 kc_X6_prepare kV_X9_58 hQ.1.1 rfl rfl rfl rfl (Nat.le_of_ble_eq_true rfl) (by decide) ⟨Nat.le_of_ble_eq_true rfl, Nat.le_of_ble_eq_true rfl⟩ m_nox (fun v9 M1 h9 => ?_)
  obtain ⟨rfl, hH1, f1⟩ := h9
  have hO1 : gO x q M1 := (f1.2 _ (by omega)).trans hO
  have hR1 := hR.fr f1 (by omega)
  refine m_aload_n hC 0 dX9_fund_11 rfl rfl ?_
  refine m_aload_n hC 0 dX9_fund_12 rfl rfl ?_
  refine m_getf hC dX9_fund_13 kf_X9_12 hO1 rfl ?_
  refine m_iload_n hC 1 dX9_fund_16 rfl rfl ?_
  refine m_callV hC (t_X7_takeCrumbsIn hF hl hR1 hB0 (by omega) hy) dX9_fund_17 kc_X7_takeCrumbsIn kV_X9_95 hR1.ob rfl rfl rfl rfl (Nat.le_of_ble_eq_true rfl) (by decide) ⟨Nat.le_of_ble_eq_true rfl, Nat.le_of_ble_eq_true rfl⟩ m_nox (fun v9 M2 h9 => ?_)
  obtain ⟨rfl, hR2, f2⟩ := h9
  have hO2 : gO x q M2 := (f2.2 _ (by omega)).trans hO1
  have hH2 := hH1.fr f2 (by omega)
  have hok := S_fund_ok hB0 y
  generalize hS9 : S_fund g y = S9 at *
  have hrg : -5 ≤ S9.1 ∧ S9.1 < 2147483648 := by rcases hok with h | h <;> first | omega | (have h := h.1; simp only [List.mem_cons, List.not_mem_nil, or_false] at h; omega)
  refine m_callV hC (t_X9_finishChange hF hl hX hO2 hH2 hc hx hrg) dX9_fund_20 kc_X9_finishChange kV_X9_66 hO2 rfl rfl rfl rfl (Nat.le_of_ble_eq_true rfl) (by decide) ⟨Nat.le_of_ble_eq_true rfl, Nat.le_of_ble_eq_true rfl⟩ (m_out hC hno (Nat.le_of_ble_eq_true rfl) (Nat.le_of_ble_eq_true rfl) (fun E9 M9 h9 => ⟨h9.1, hG.ref hc hL hH2 f1 hR2 f2 h9.2.1 h9.2.2, ((gFr.of f1 (by omega)).tr (gFr.of f2 (by omega))).tr (gFr.gr h9.2.1 h9.2.2)⟩)) (fun v9 M3 h9 => ?_)
  obtain ⟨rfl, hz0, hH3, f3⟩ := h9
  exact m_iret hC dX9_fund_23 hr (Nat.le_of_ble_eq_true rfl) (Nat.le_of_ble_eq_true rfl) (⟨rfl, hz0, hG.chg hc hL f1 hR2 f2 hH3 f3, ((gFr.of f1 (by omega)).tr (gFr.of f2 (by omega))).tr (gFr.of f3 (by omega))⟩)

set_option maxHeartbeats 4000000 in
set_option maxRecDepth 100000 in
theorem t_X9_spend {D : va_G} {aC : Nat → ClassId} {s0 : State} {l : Launch} (hF : m_F D aC s0) (hl : l.stackTraces = false) {x w : Nat} {g sg : h_T} {L : Nat → h_T} {q : Int → Int} {tx ot : List Int} {M : m_M} {K : Int} {fo : Nat → Nat} (hX : m_TH s0) (hG : ghP s0.heap.size fo x w g sg L q tx ot M) (hB : h_BK K g) (hK : K ≤ 80000000) (hc : 0 ≤ q 0 ∧ q 0 ≤ 8) {y : Int} (hy : -2147483648 ≤ y ∧ y < 2147483648) : m_Met D aC s0 l yX9_spend cX9_spend 2 (some .int) 12 (470) (940) [.ref x, VI y] M (fun v M' => v = some (VI (S_spend g y).1) ∧ 0 ≤ (S_spend g y).1 ∧ ghP s0.heap.size fo x w (S_spend g y).2 sg (c_L (q 0) g L) (c_q q) tx ot M' ∧ gFr x w M M') (fun E M' => ((S_spend g y).1 < 0 ∧ E = e_code (S_spend g y).1) ∧ ghP s0.heap.size fo x w (S_spend g y).2 sg L q tx ot M' ∧ gFr x w M M') := by
  refine m_entry (lv := [(0, .ref x), (1, VI y)]) (by decide +kernel) (Nat.le_of_ble_eq_true rfl) rfl hF hl ?_
  intro p e s m args below meth c hC hr hno hnm
  change m_C D aC s0 RX9 _ _ _ _ _ _ _ _ _ at hC
  have hG9 := hG
  obtain ⟨a1, hO, hR, a4, a5, ⟨L9, hH, hL⟩, a7, a8⟩ := hG9
  have hx := a1.2.2
  have h8 := hB.n8.2
  have h9 := hB.n9.2
  have h11 := hB.n11.2
  have hB0 := hB.toB (by omega)
  obtain ⟨p9, hQ⟩ := id hH
  refine m_aload_n hC 0 dX9_spend_0 rfl rfl ?_
  refine m_getf hC dX9_spend_1 kf_X9_25 hO rfl ?_
  refine m_aload_n hC 0 dX9_spend_4 rfl rfl ?_
  refine m_getf hC dX9_spend_5 kf_X9_12 hO rfl ?_
  refine m_callV hC (t_X6_prepare hF hl hH hx hc hR (by omega) h8 h9 h11) dX9_spend_8 kc_X6_prepare kV_X9_58 hQ.1.1 rfl rfl rfl rfl (Nat.le_of_ble_eq_true rfl) (by decide) ⟨Nat.le_of_ble_eq_true rfl, Nat.le_of_ble_eq_true rfl⟩ m_nox (fun v9 M1 h9 => ?_)
  obtain ⟨rfl, hH1, f1⟩ := h9
  have hO1 : gO x q M1 := (f1.2 _ (by omega)).trans hO
  have hR1 := hR.fr f1 (by omega)
  refine m_aload_n hC 0 dX9_spend_11 rfl rfl ?_
  refine m_aload_n hC 0 dX9_spend_12 rfl rfl ?_
  refine m_getf hC dX9_spend_13 kf_X9_12 hO1 rfl ?_
  refine m_iload_n hC 1 dX9_spend_16 rfl rfl ?_
  refine m_callV hC (t_X7_giveCrumbsOut hF hl hR1 hB0 (by omega) hy) dX9_spend_17 kc_X7_giveCrumbsOut kV_X9_98 hR1.ob rfl rfl rfl rfl (Nat.le_of_ble_eq_true rfl) (by decide) ⟨Nat.le_of_ble_eq_true rfl, Nat.le_of_ble_eq_true rfl⟩ m_nox (fun v9 M2 h9 => ?_)
  obtain ⟨rfl, hR2, f2⟩ := h9
  have hO2 : gO x q M2 := (f2.2 _ (by omega)).trans hO1
  have hH2 := hH1.fr f2 (by omega)
  have hok := S_spend_ok hB0 y
  generalize hS9 : S_spend g y = S9 at *
  have hrg : -5 ≤ S9.1 ∧ S9.1 < 2147483648 := by rcases hok with h | h <;> first | omega | (have h := h.1; simp only [List.mem_cons, List.not_mem_nil, or_false] at h; omega)
  refine m_callV hC (t_X9_finishChange hF hl hX hO2 hH2 hc hx hrg) dX9_spend_20 kc_X9_finishChange kV_X9_66 hO2 rfl rfl rfl rfl (Nat.le_of_ble_eq_true rfl) (by decide) ⟨Nat.le_of_ble_eq_true rfl, Nat.le_of_ble_eq_true rfl⟩ (m_out hC hno (Nat.le_of_ble_eq_true rfl) (Nat.le_of_ble_eq_true rfl) (fun E9 M9 h9 => ⟨h9.1, hG.ref hc hL hH2 f1 hR2 f2 h9.2.1 h9.2.2, ((gFr.of f1 (by omega)).tr (gFr.of f2 (by omega))).tr (gFr.gr h9.2.1 h9.2.2)⟩)) (fun v9 M3 h9 => ?_)
  obtain ⟨rfl, hz0, hH3, f3⟩ := h9
  exact m_iret hC dX9_spend_23 hr (Nat.le_of_ble_eq_true rfl) (Nat.le_of_ble_eq_true rfl) (⟨rfl, hz0, hG.chg hc hL f1 hR2 f2 hH3 f3, ((gFr.of f1 (by omega)).tr (gFr.of f2 (by omega))).tr (gFr.of f3 (by omega))⟩)

set_option maxHeartbeats 4000000 in
set_option maxRecDepth 100000 in
theorem t_X9_hire {D : va_G} {aC : Nat → ClassId} {s0 : State} {l : Launch} (hF : m_F D aC s0) (hl : l.stackTraces = false) {x w : Nat} {g sg : h_T} {L : Nat → h_T} {q : Int → Int} {tx ot : List Int} {M : m_M} {K : Int} {fo : Nat → Nat} (hX : m_TH s0) (hG : ghP s0.heap.size fo x w g sg L q tx ot M) (hB : h_BK K g) (hK : K ≤ 80000000) (hc : 0 ≤ q 0 ∧ q 0 ≤ 8) {y : Int} (hy : -2147483648 ≤ y ∧ y < 2147483648) {ro : Int} (hro : -2147483648 ≤ ro ∧ ro < 2147483648) {wg : Int} (hwg : -2147483648 ≤ wg ∧ wg < 2147483648) {ef : Int} (hef : -2147483648 ≤ ef ∧ ef < 2147483648) : m_Met D aC s0 l yX9_hire cX9_hire 5 (some .int) 12 (470) (940) [.ref x, VI y, VI ro, VI wg, VI ef] M (fun v M' => v = some (VI (S_hire g y ro wg ef).1) ∧ 0 ≤ (S_hire g y ro wg ef).1 ∧ ghP s0.heap.size fo x w (S_hire g y ro wg ef).2 sg (c_L (q 0) g L) (c_q q) tx ot M' ∧ gFr x w M M') (fun E M' => ((S_hire g y ro wg ef).1 < 0 ∧ E = e_code (S_hire g y ro wg ef).1) ∧ ghP s0.heap.size fo x w (S_hire g y ro wg ef).2 sg L q tx ot M' ∧ gFr x w M M') := by
  refine m_entry (lv := [(0, .ref x), (1, VI y), (2, VI ro), (3, VI wg), (4, VI ef)]) (by decide +kernel) (Nat.le_of_ble_eq_true rfl) rfl hF hl ?_
  intro p e s m args below meth c hC hr hno hnm
  change m_C D aC s0 RX9 _ _ _ _ _ _ _ _ _ at hC
  have hG9 := hG
  obtain ⟨a1, hO, hR, a4, a5, ⟨L9, hH, hL⟩, a7, a8⟩ := hG9
  have hx := a1.2.2
  have h8 := hB.n8.2
  have h9 := hB.n9.2
  have h11 := hB.n11.2
  have hB0 := hB.toB (by omega)
  obtain ⟨p9, hQ⟩ := id hH
  refine m_aload_n hC 0 dX9_hire_0 rfl rfl ?_
  refine m_getf hC dX9_hire_1 kf_X9_25 hO rfl ?_
  refine m_aload_n hC 0 dX9_hire_4 rfl rfl ?_
  refine m_getf hC dX9_hire_5 kf_X9_12 hO rfl ?_
  refine m_callV hC (t_X6_prepare hF hl hH hx hc hR (by omega) h8 h9 h11) dX9_hire_8 kc_X6_prepare kV_X9_58 hQ.1.1 rfl rfl rfl rfl (Nat.le_of_ble_eq_true rfl) (by decide) ⟨Nat.le_of_ble_eq_true rfl, Nat.le_of_ble_eq_true rfl⟩ m_nox (fun v9 M1 h9 => ?_)
  obtain ⟨rfl, hH1, f1⟩ := h9
  have hO1 : gO x q M1 := (f1.2 _ (by omega)).trans hO
  have hR1 := hR.fr f1 (by omega)
  refine m_aload_n hC 0 dX9_hire_11 rfl rfl ?_
  refine m_aload_n hC 0 dX9_hire_12 rfl rfl ?_
  refine m_getf hC dX9_hire_13 kf_X9_12 hO1 rfl ?_
  refine m_iload_n hC 1 dX9_hire_16 rfl rfl ?_
  refine m_iload_n hC 2 dX9_hire_17 rfl rfl ?_
  refine m_iload_n hC 3 dX9_hire_18 rfl rfl ?_
  refine m_iload hC 4 dX9_hire_19 rfl ?_
  refine m_callV hC (t_X7_signContract hF hl hR1 hB0 (by omega) hy hro hwg hef) dX9_hire_21 kc_X7_signContract kV_X9_78 hR1.ob rfl rfl rfl rfl (Nat.le_of_ble_eq_true rfl) (by decide) ⟨Nat.le_of_ble_eq_true rfl, Nat.le_of_ble_eq_true rfl⟩ m_nox (fun v9 M2 h9 => ?_)
  obtain ⟨rfl, hR2, f2⟩ := h9
  have hO2 : gO x q M2 := (f2.2 _ (by omega)).trans hO1
  have hH2 := hH1.fr f2 (by omega)
  have hok := S_hire_ok hB0 y ro wg ef
  generalize hS9 : S_hire g y ro wg ef = S9 at *
  have hrg : -5 ≤ S9.1 ∧ S9.1 < 2147483648 := by rcases hok with h | h <;> first | omega | (have h := h.1; simp only [List.mem_cons, List.not_mem_nil, or_false] at h; omega)
  refine m_callV hC (t_X9_finishChange hF hl hX hO2 hH2 hc hx hrg) dX9_hire_24 kc_X9_finishChange kV_X9_66 hO2 rfl rfl rfl rfl (Nat.le_of_ble_eq_true rfl) (by decide) ⟨Nat.le_of_ble_eq_true rfl, Nat.le_of_ble_eq_true rfl⟩ (m_out hC hno (Nat.le_of_ble_eq_true rfl) (Nat.le_of_ble_eq_true rfl) (fun E9 M9 h9 => ⟨h9.1, hG.ref hc hL hH2 f1 hR2 f2 h9.2.1 h9.2.2, ((gFr.of f1 (by omega)).tr (gFr.of f2 (by omega))).tr (gFr.gr h9.2.1 h9.2.2)⟩)) (fun v9 M3 h9 => ?_)
  obtain ⟨rfl, hz0, hH3, f3⟩ := h9
  exact m_iret hC dX9_hire_27 hr (Nat.le_of_ble_eq_true rfl) (Nat.le_of_ble_eq_true rfl) (⟨rfl, hz0, hG.chg hc hL f1 hR2 f2 hH3 f3, ((gFr.of f1 (by omega)).tr (gFr.of f2 (by omega))).tr (gFr.of f3 (by omega))⟩)

set_option maxHeartbeats 4000000 in
set_option maxRecDepth 100000 in
theorem t_X9_lend {D : va_G} {aC : Nat → ClassId} {s0 : State} {l : Launch} (hF : m_F D aC s0) (hl : l.stackTraces = false) {x w : Nat} {g sg : h_T} {L : Nat → h_T} {q : Int → Int} {tx ot : List Int} {M : m_M} {K : Int} {fo : Nat → Nat} (hX : m_TH s0) (hG : ghP s0.heap.size fo x w g sg L q tx ot M) (hB : h_BK K g) (hK : K ≤ 80000000) (hc : 0 ≤ q 0 ∧ q 0 ≤ 8) {y : Int} (hy : -2147483648 ≤ y ∧ y < 2147483648) {cr : Int} (hcr : -2147483648 ≤ cr ∧ cr < 2147483648) : m_Met D aC s0 l yX9_lend cX9_lend 3 (some .int) 12 (470) (940) [.ref x, VI y, VI cr] M (fun v M' => v = some (VI (S_lend g y cr).1) ∧ 0 ≤ (S_lend g y cr).1 ∧ ghP s0.heap.size fo x w (S_lend g y cr).2 sg (c_L (q 0) g L) (c_q q) tx ot M' ∧ gFr x w M M') (fun E M' => ((S_lend g y cr).1 < 0 ∧ E = e_code (S_lend g y cr).1) ∧ ghP s0.heap.size fo x w (S_lend g y cr).2 sg L q tx ot M' ∧ gFr x w M M') := by
  refine m_entry (lv := [(0, .ref x), (1, VI y), (2, VI cr)]) (by decide +kernel) (Nat.le_of_ble_eq_true rfl) rfl hF hl ?_
  intro p e s m args below meth c hC hr hno hnm
  change m_C D aC s0 RX9 _ _ _ _ _ _ _ _ _ at hC
  have hG9 := hG
  obtain ⟨a1, hO, hR, a4, a5, ⟨L9, hH, hL⟩, a7, a8⟩ := hG9
  have hx := a1.2.2
  have h8 := hB.n8.2
  have h9 := hB.n9.2
  have h11 := hB.n11.2
  have hB0 := hB.toB (by omega)
  obtain ⟨p9, hQ⟩ := id hH
  refine m_aload_n hC 0 dX9_lend_0 rfl rfl ?_
  refine m_getf hC dX9_lend_1 kf_X9_25 hO rfl ?_
  refine m_aload_n hC 0 dX9_lend_4 rfl rfl ?_
  refine m_getf hC dX9_lend_5 kf_X9_12 hO rfl ?_
  refine m_callV hC (t_X6_prepare hF hl hH hx hc hR (by omega) h8 h9 h11) dX9_lend_8 kc_X6_prepare kV_X9_58 hQ.1.1 rfl rfl rfl rfl (Nat.le_of_ble_eq_true rfl) (by decide) ⟨Nat.le_of_ble_eq_true rfl, Nat.le_of_ble_eq_true rfl⟩ m_nox (fun v9 M1 h9 => ?_)
  obtain ⟨rfl, hH1, f1⟩ := h9
  have hO1 : gO x q M1 := (f1.2 _ (by omega)).trans hO
  have hR1 := hR.fr f1 (by omega)
  refine m_aload_n hC 0 dX9_lend_11 rfl rfl ?_
  refine m_aload_n hC 0 dX9_lend_12 rfl rfl ?_
  refine m_getf hC dX9_lend_13 kf_X9_12 hO1 rfl ?_
  refine m_iload_n hC 1 dX9_lend_16 rfl rfl ?_
  refine m_iload_n hC 2 dX9_lend_17 rfl rfl ?_
  refine m_callV hC (t_X7_advanceCrumbs hF hl hR1 hB0 (by omega) hy hcr) dX9_lend_18 kc_X7_advanceCrumbs kV_X9_91 hR1.ob rfl rfl rfl rfl (Nat.le_of_ble_eq_true rfl) (by decide) ⟨Nat.le_of_ble_eq_true rfl, Nat.le_of_ble_eq_true rfl⟩ m_nox (fun v9 M2 h9 => ?_)
  obtain ⟨rfl, hR2, f2⟩ := h9
  have hO2 : gO x q M2 := (f2.2 _ (by omega)).trans hO1
  have hH2 := hH1.fr f2 (by omega)
  have hok := S_lend_ok hB0 y cr
  generalize hS9 : S_lend g y cr = S9 at *
  have hrg : -5 ≤ S9.1 ∧ S9.1 < 2147483648 := by rcases hok with h | h <;> first | omega | (have h := h.1; simp only [List.mem_cons, List.not_mem_nil, or_false] at h; omega)
  refine m_callV hC (t_X9_finishChange hF hl hX hO2 hH2 hc hx hrg) dX9_lend_21 kc_X9_finishChange kV_X9_66 hO2 rfl rfl rfl rfl (Nat.le_of_ble_eq_true rfl) (by decide) ⟨Nat.le_of_ble_eq_true rfl, Nat.le_of_ble_eq_true rfl⟩ (m_out hC hno (Nat.le_of_ble_eq_true rfl) (Nat.le_of_ble_eq_true rfl) (fun E9 M9 h9 => ⟨h9.1, hG.ref hc hL hH2 f1 hR2 f2 h9.2.1 h9.2.2, ((gFr.of f1 (by omega)).tr (gFr.of f2 (by omega))).tr (gFr.gr h9.2.1 h9.2.2)⟩)) (fun v9 M3 h9 => ?_)
  obtain ⟨rfl, hz0, hH3, f3⟩ := h9
  exact m_iret hC dX9_lend_24 hr (Nat.le_of_ble_eq_true rfl) (Nat.le_of_ble_eq_true rfl) (⟨rfl, hz0, hG.chg hc hL f1 hR2 f2 hH3 f3, ((gFr.of f1 (by omega)).tr (gFr.of f2 (by omega))).tr (gFr.of f3 (by omega))⟩)

set_option maxHeartbeats 4000000 in
set_option maxRecDepth 100000 in
theorem t_X9_cancelContract {D : va_G} {aC : Nat → ClassId} {s0 : State} {l : Launch} (hF : m_F D aC s0) (hl : l.stackTraces = false) {x w : Nat} {g sg : h_T} {L : Nat → h_T} {q : Int → Int} {tx ot : List Int} {M : m_M} {K : Int} {fo : Nat → Nat} (hX : m_TH s0) (hG : ghP s0.heap.size fo x w g sg L q tx ot M) (hB : h_BK K g) (hK : K ≤ 80000000) (hc : 0 ≤ q 0 ∧ q 0 ≤ 8) {y : Int} (hy : -2147483648 ≤ y ∧ y < 2147483648) : m_Met D aC s0 l yX9_cancelContract cX9_cancelContract 2 (some .int) 12 (470) (940) [.ref x, VI y] M (fun v M' => v = some (VI (S_cancel g y).1) ∧ 0 ≤ (S_cancel g y).1 ∧ ghP s0.heap.size fo x w (S_cancel g y).2 sg (c_L (q 0) g L) (c_q q) tx ot M' ∧ gFr x w M M') (fun E M' => ((S_cancel g y).1 < 0 ∧ E = e_code (S_cancel g y).1) ∧ ghP s0.heap.size fo x w (S_cancel g y).2 sg L q tx ot M' ∧ gFr x w M M') := by
  refine m_entry (lv := [(0, .ref x), (1, VI y)]) (by decide +kernel) (Nat.le_of_ble_eq_true rfl) rfl hF hl ?_
  intro p e s m args below meth c hC hr hno hnm
  change m_C D aC s0 RX9 _ _ _ _ _ _ _ _ _ at hC
  have hG9 := hG
  obtain ⟨a1, hO, hR, a4, a5, ⟨L9, hH, hL⟩, a7, a8⟩ := hG9
  have hx := a1.2.2
  have h8 := hB.n8.2
  have h9 := hB.n9.2
  have h11 := hB.n11.2
  have hB0 := hB.toB (by omega)
  obtain ⟨p9, hQ⟩ := id hH
  refine m_aload_n hC 0 dX9_cancelContract_0 rfl rfl ?_
  refine m_getf hC dX9_cancelContract_1 kf_X9_25 hO rfl ?_
  refine m_aload_n hC 0 dX9_cancelContract_4 rfl rfl ?_
  refine m_getf hC dX9_cancelContract_5 kf_X9_12 hO rfl ?_
  refine m_callV hC (t_X6_prepare hF hl hH hx hc hR (by omega) h8 h9 h11) dX9_cancelContract_8 kc_X6_prepare kV_X9_58 hQ.1.1 rfl rfl rfl rfl (Nat.le_of_ble_eq_true rfl) (by decide) ⟨Nat.le_of_ble_eq_true rfl, Nat.le_of_ble_eq_true rfl⟩ m_nox (fun v9 M1 h9 => ?_)
  obtain ⟨rfl, hH1, f1⟩ := h9
  have hO1 : gO x q M1 := (f1.2 _ (by omega)).trans hO
  have hR1 := hR.fr f1 (by omega)
  refine m_aload_n hC 0 dX9_cancelContract_11 rfl rfl ?_
  refine m_aload_n hC 0 dX9_cancelContract_12 rfl rfl ?_
  refine m_getf hC dX9_cancelContract_13 kf_X9_12 hO1 rfl ?_
  refine m_iload_n hC 1 dX9_cancelContract_16 rfl rfl ?_
  refine m_callV hC (t_X7_dropContract hF hl hR1 hB (by omega) (by omega) hy) dX9_cancelContract_17 kc_X7_dropContract kV_X9_82 hR1.ob rfl rfl rfl rfl (Nat.le_of_ble_eq_true rfl) (by decide) ⟨Nat.le_of_ble_eq_true rfl, Nat.le_of_ble_eq_true rfl⟩ m_nox (fun v9 M2 h9 => ?_)
  obtain ⟨rfl, hR2, f2⟩ := h9
  have hO2 : gO x q M2 := (f2.2 _ (by omega)).trans hO1
  have hH2 := hH1.fr f2 (by omega)
  have hok := S_cancel_ok hB0 y
  generalize hS9 : S_cancel g y = S9 at *
  have hrg : -5 ≤ S9.1 ∧ S9.1 < 2147483648 := by rcases hok with h | h <;> first | omega | (have h := h.1; simp only [List.mem_cons, List.not_mem_nil, or_false] at h; omega)
  refine m_callV hC (t_X9_finishChange hF hl hX hO2 hH2 hc hx hrg) dX9_cancelContract_20 kc_X9_finishChange kV_X9_66 hO2 rfl rfl rfl rfl (Nat.le_of_ble_eq_true rfl) (by decide) ⟨Nat.le_of_ble_eq_true rfl, Nat.le_of_ble_eq_true rfl⟩ (m_out hC hno (Nat.le_of_ble_eq_true rfl) (Nat.le_of_ble_eq_true rfl) (fun E9 M9 h9 => ⟨h9.1, hG.ref hc hL hH2 f1 hR2 f2 h9.2.1 h9.2.2, ((gFr.of f1 (by omega)).tr (gFr.of f2 (by omega))).tr (gFr.gr h9.2.1 h9.2.2)⟩)) (fun v9 M3 h9 => ?_)
  obtain ⟨rfl, hz0, hH3, f3⟩ := h9
  exact m_iret hC dX9_cancelContract_23 hr (Nat.le_of_ble_eq_true rfl) (Nat.le_of_ble_eq_true rfl) (⟨rfl, hz0, hG.chg hc hL f1 hR2 f2 hH3 f3, ((gFr.of f1 (by omega)).tr (gFr.of f2 (by omega))).tr (gFr.of f3 (by omega))⟩)

set_option maxHeartbeats 4000000 in
set_option maxRecDepth 100000 in
theorem t_X9_passNights {D : va_G} {aC : Nat → ClassId} {s0 : State} {l : Launch} (hF : m_F D aC s0) (hl : l.stackTraces = false) {x w : Nat} {g sg : h_T} {L : Nat → h_T} {q : Int → Int} {tx ot : List Int} {M : m_M} {K : Int} {fo : Nat → Nat} (hX : m_TH s0) (hG : ghP s0.heap.size fo x w g sg L q tx ot M) (hB : h_BK K g) (hK : K ≤ 80000000) (hc : 0 ≤ q 0 ∧ q 0 ≤ 8) {y : Int} (hy : -2147483648 ≤ y ∧ y < 2147483648) : m_Met D aC s0 l yX9_passNights cX9_passNights 2 (some .int) 12 (470) (940) [.ref x, VI y] M (fun v M' => v = some (VI (S_pass g y).1) ∧ 0 ≤ (S_pass g y).1 ∧ ghP s0.heap.size fo x w (S_pass g y).2 sg (c_L (q 0) g L) (c_q q) tx ot M' ∧ gFr x w M M') (fun E M' => ((S_pass g y).1 < 0 ∧ E = e_code (S_pass g y).1) ∧ ghP s0.heap.size fo x w (S_pass g y).2 sg L q tx ot M' ∧ gFr x w M M') := by
  refine m_entry (lv := [(0, .ref x), (1, VI y)]) (by decide +kernel) (Nat.le_of_ble_eq_true rfl) rfl hF hl ?_
  intro p e s m args below meth c hC hr hno hnm
  change m_C D aC s0 RX9 _ _ _ _ _ _ _ _ _ at hC
  have hG9 := hG
  obtain ⟨a1, hO, hR, a4, a5, ⟨L9, hH, hL⟩, a7, a8⟩ := hG9
  have hx := a1.2.2
  have h8 := hB.n8.2
  have h9 := hB.n9.2
  have h11 := hB.n11.2
  have hB0 := hB.toB (by omega)
  obtain ⟨p9, hQ⟩ := id hH
  refine m_aload_n hC 0 dX9_passNights_0 rfl rfl ?_
  refine m_getf hC dX9_passNights_1 kf_X9_25 hO rfl ?_
  refine m_aload_n hC 0 dX9_passNights_4 rfl rfl ?_
  refine m_getf hC dX9_passNights_5 kf_X9_12 hO rfl ?_
  refine m_callV hC (t_X6_prepare hF hl hH hx hc hR (by omega) h8 h9 h11) dX9_passNights_8 kc_X6_prepare kV_X9_58 hQ.1.1 rfl rfl rfl rfl (Nat.le_of_ble_eq_true rfl) (by decide) ⟨Nat.le_of_ble_eq_true rfl, Nat.le_of_ble_eq_true rfl⟩ m_nox (fun v9 M1 h9 => ?_)
  obtain ⟨rfl, hH1, f1⟩ := h9
  have hO1 : gO x q M1 := (f1.2 _ (by omega)).trans hO
  have hR1 := hR.fr f1 (by omega)
  refine m_aload_n hC 0 dX9_passNights_11 rfl rfl ?_
  refine m_aload_n hC 0 dX9_passNights_12 rfl rfl ?_
  refine m_getf hC dX9_passNights_13 kf_X9_12 hO1 rfl ?_
  refine m_iload_n hC 1 dX9_passNights_16 rfl rfl ?_
  refine m_callV hC (t_X7_letNightsPass hF hl hR1 hB hK (by omega) hy) dX9_passNights_17 kc_X7_letNightsPass kV_X9_101 hR1.ob rfl rfl rfl rfl (Nat.le_of_ble_eq_true rfl) (by decide) ⟨Nat.le_of_ble_eq_true rfl, Nat.le_of_ble_eq_true rfl⟩ m_nox (fun v9 M2 h9 => ?_)
  obtain ⟨rfl, hR2, f2⟩ := h9
  have hO2 : gO x q M2 := (f2.2 _ (by omega)).trans hO1
  have hH2 := hH1.fr f2 (by omega)
  have hok := S_pass_ok hB hK y
  generalize hS9 : S_pass g y = S9 at *
  have hrg : -5 ≤ S9.1 ∧ S9.1 < 2147483648 := by rcases hok with h | h <;> first | omega | (have h := h.1; simp only [List.mem_cons, List.not_mem_nil, or_false] at h; omega)
  refine m_callV hC (t_X9_finishChange hF hl hX hO2 hH2 hc hx hrg) dX9_passNights_20 kc_X9_finishChange kV_X9_66 hO2 rfl rfl rfl rfl (Nat.le_of_ble_eq_true rfl) (by decide) ⟨Nat.le_of_ble_eq_true rfl, Nat.le_of_ble_eq_true rfl⟩ (m_out hC hno (Nat.le_of_ble_eq_true rfl) (Nat.le_of_ble_eq_true rfl) (fun E9 M9 h9 => ⟨h9.1, hG.ref hc hL hH2 f1 hR2 f2 h9.2.1 h9.2.2, ((gFr.of f1 (by omega)).tr (gFr.of f2 (by omega))).tr (gFr.gr h9.2.1 h9.2.2)⟩)) (fun v9 M3 h9 => ?_)
  obtain ⟨rfl, hz0, hH3, f3⟩ := h9
  exact m_iret hC dX9_passNights_23 hr (Nat.le_of_ble_eq_true rfl) (Nat.le_of_ble_eq_true rfl) (⟨rfl, hz0, hG.chg hc hL f1 hR2 f2 hH3 f3, ((gFr.of f1 (by omega)).tr (gFr.of f2 (by omega))).tr (gFr.of f3 (by omega))⟩)

