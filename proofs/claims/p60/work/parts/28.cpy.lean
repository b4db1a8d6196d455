/-- columns lo..hi taken over from t2, in the first i rows -/
def h_cp (t t2 : h_T) (lo hi : Nat) (i : Int) : h_T := fun c j => if (lo ≤ c ∧ c ≤ hi) ∧ 0 ≤ j ∧ j < i then t2 c j else t c j
theorem h_cp_0 (t t2 : h_T) (lo hi : Nat) : h_cp t t2 lo hi 0 = t := by
  funext c j
  exact if_neg (fun q => by omega)
theorem h_cp_in {t t2 : h_T} {lo hi c : Nat} {i j : Int} (h : lo ≤ c ∧ c ≤ hi) (hj : 0 ≤ j ∧ j < i) : h_cp t t2 lo hi i c j = t2 c j := if_pos ⟨h, hj⟩
theorem h_cp_out {t t2 : h_T} {lo hi c : Nat} {i j : Int} (h : c < lo ∨ hi < c) : h_cp t t2 lo hi i c j = t c j := if_neg (fun q => by omega)
theorem h_cp_1 {t t2 : h_T} {c : Nat} {i : Int} (h : 0 ≤ i) : hs (h_cp t t2 c c i) c i (t2 c i) = h_cp t t2 c c (i + 1) := by
  funext c' j
  simp only [hs_at, h_cp]
  by_cases q : c' = c ∧ j = i
  · obtain ⟨rfl, rfl⟩ := q
    rw [if_pos ⟨rfl, rfl⟩, if_pos (by omega)]
  · rw [if_neg q]
    by_cases z : (c ≤ c' ∧ c' ≤ c) ∧ 0 ≤ j ∧ j < i
    · rw [if_pos z, if_pos (by omega)]
    · rw [if_neg z, if_neg (by omega)]
theorem h_cp_2 {t t2 : h_T} {i : Int} (h : 0 ≤ i) : hs (hs (h_cp t t2 2 3 i) 2 i (t2 2 i)) 3 i (t2 3 i) = h_cp t t2 2 3 (i + 1) := by
  funext c' j
  simp only [hs_at, h_cp]
  by_cases hj : j = i
  · subst hj
    by_cases z : 2 ≤ c' ∧ c' ≤ 3
    · rw [if_pos (by omega : (2 ≤ c' ∧ c' ≤ 3) ∧ 0 ≤ j ∧ j < j + 1)]
      have : c' = 2 ∨ c' = 3 := by omega
      rcases this with rfl | rfl <;> simp
    · rw [if_neg (by omega), if_neg (by omega), if_neg (by omega), if_neg (by omega)]
  · simp only [hj, and_false, if_false]
    by_cases z : (2 ≤ c' ∧ c' ≤ 3) ∧ 0 ≤ j ∧ j < i
    · rw [if_pos z, if_pos (by omega)]
    · rw [if_neg z, if_neg (by omega)]
theorem h_cp_5 {t t2 : h_T} {a : Nat} {i : Int} (h : 0 ≤ i) : hs (hs (hs (hs (hs (h_cp t t2 a (a + 4) i) a i (t2 a i)) (a + 1) i (t2 (a + 1) i)) (a + 2) i (t2 (a + 2) i)) (a + 3) i (t2 (a + 3) i)) (a + 4) i (t2 (a + 4) i) = h_cp t t2 a (a + 4) (i + 1) := by
  funext c' j
  simp only [hs_at, h_cp]
  by_cases hj : j = i
  · subst hj
    by_cases z : a ≤ c' ∧ c' ≤ a + 4
    · rw [if_pos (by omega : (a ≤ c' ∧ c' ≤ a + 4) ∧ 0 ≤ j ∧ j < j + 1)]
      have : c' = a ∨ c' = a + 1 ∨ c' = a + 2 ∨ c' = a + 3 ∨ c' = a + 4 := by omega
      rcases this with rfl | rfl | rfl | rfl | rfl <;> simp
    · rw [if_neg (by omega), if_neg (by omega), if_neg (by omega), if_neg (by omega), if_neg (by omega), if_neg (by omega), if_neg (by omega)]
  · simp only [hj, and_false, if_false]
    by_cases z : (a ≤ c' ∧ c' ≤ a + 4) ∧ 0 ≤ j ∧ j < i
    · rw [if_pos z, if_pos (by omega)]
    · rw [if_neg z, if_neg (by omega)]
theorem h_bit.cp {t t2 : h_T} (h : h_bit t) (h2 : h_bit t2) {lo hi : Nat} {i : Int} : h_bit (h_cp t t2 lo hi i) := by
  intro j
  unfold h_cp
  refine ⟨?_, ?_⟩
  · split
    · exact (h2 j).1
    · exact (h j).1
  · split
    · exact (h2 j).2
    · exact (h j).2
def h_c1 (t t2 : h_T) : h_T := hs (h_cp t t2 2 3 4) 0 8 (t2 0 8)
def h_c5 (t t2 : h_T) : h_T := hs (h_cp t t2 4 8 5) 0 9 (t2 0 9)
def h_c3 (t t2 : h_T) : h_T := hs (hs (h_cp t t2 9 13 8) 0 11 (t2 0 11)) 0 10 (t2 0 10)
def h_c7 (t t2 : h_T) : h_T := hs (hs (hs (hs (hs (hs (hs (hs (h_c3 (h_c5 (h_c1 (h_cp t t2 1 1 6) t2) t2) t2) 0 0 (t2 0 0)) 0 1 (t2 0 1)) 0 2 (t2 0 2)) 0 3 (t2 0 3)) 0 4 (t2 0 4)) 0 5 (t2 0 5)) 0 6 (t2 0 6)) 0 7 (t2 0 7)
theorem h_c7_bit {t t2 : h_T} (h : h_bit t) (h2 : h_bit t2) : h_bit (h_c7 t t2) := by
  have n : ∀ {g : h_T} {k v : Int}, h_bit g → h_bit (hs g 0 k v) := fun q => q.st (Or.inl (by decide))
  exact n (n (n (n (n (n (n (n (n (n ((n ((n ((h.cp h2).cp h2)).cp h2)).cp h2))))))))))
theorem h_c7_eq {t t2 : h_T} (h8 : t2 0 8 ≤ 4) (h9 : t2 0 9 ≤ 5) (h11 : t2 0 11 ≤ 8) : h_eq (h_c7 t t2) t2 := by
  have key : ∀ (c : Nat) (i : Int), 1 ≤ c → h_c7 t t2 c i = h_cp (h_cp (h_cp (h_cp t t2 1 1 6) t2 2 3 4) t2 4 8 5) t2 9 13 8 c i := fun c i hc => by
    have z : ∀ {g : h_T} {k v : Int}, hs g 0 k v c i = g c i := fun {g k v} => by rw [hs_at, if_neg (fun q => by omega)]
    unfold h_c7 h_c3
    simp only [z]
    unfold h_cp
    split
    · rfl
    · unfold h_c5
      simp only [z]
      unfold h_cp
      split
      · rfl
      · unfold h_c1
        simp only [z]
        rfl
  refine h_eq.of (fun k hk => ?_) (fun i hi => ?_) (fun c i hc hi => ?_) (fun c i hc hi => ?_) (fun c i hc hi => ?_)
  · have e : ∀ (g : h_T) (lo hi : Nat) (i : Int), 1 ≤ lo → h_cp g t2 lo hi i 0 k = g 0 k := fun g lo hi i hl => h_cp_out (by omega)
    unfold h_c7 h_c3 h_c5 h_c1
    simp only [hs_at, true_and, e _ _ _ _ (by decide : 1 ≤ 9), e _ _ _ _ (by decide : 1 ≤ 4), e _ _ _ _ (by decide : 1 ≤ 2), e _ _ _ _ (by decide : 1 ≤ 1)]
    have : k = 0 ∨ k = 1 ∨ k = 2 ∨ k = 3 ∨ k = 4 ∨ k = 5 ∨ k = 6 ∨ k = 7 ∨ k = 8 ∨ k = 9 ∨ k = 10 ∨ k = 11 := by omega
    rcases this with rfl | rfl | rfl | rfl | rfl | rfl | rfl | rfl | rfl | rfl | rfl | rfl <;> simp
  · rw [key 1 i (by decide), h_cp_out (by omega), h_cp_out (by omega), h_cp_out (by omega), h_cp_in (by omega) (by omega)]
  · rw [key c i (by omega), h_cp_out (by omega), h_cp_out (by omega), h_cp_in (by omega) (by omega)]
  · rw [key c i (by omega), h_cp_out (by omega), h_cp_in (by omega) (by omega)]
  · rw [key c i (by omega), h_cp_in (by omega) (by omega)]
theorem h_sr_cp {t t2 : h_T} {i : Int} (h : 0 ≤ i) : h_sr (h_cp t t2 9 13 i) t2 i i = h_cp t t2 9 13 (i + 1) := h_cp_5 (a := 9) h

set_option maxHeartbeats 4000000 in
set_option maxRecDepth 100000 in
theorem t_X1_copyFrom {D : va_G} {aC : Nat → ClassId} {s0 : State} {l : Launch} (hF : m_F D aC s0) (hl : l.stackTraces = false) {b : Nat} {t : h_T} {M : m_M} (hP : hhP b t M) (hb : s0.heap.size ≤ b) {b2 : Nat} {t2 : h_T} (hQ : hhP b2 t2 M) (hd : b + 17 ≤ b2 ∨ b2 + 17 ≤ b) (hbt2 : h_bit t2) : m_Met D aC s0 l yX1_copyFrom cX1_copyFrom 3 none 0 (0) (0) [.ref (b + 2), .ref (b2 + 2)] M (h_upt b M (h_c1 t t2)) m_nx := by
  refine m_entry (lv := [(0, .ref (b + 2)), (1, .ref (b2 + 2))]) (by decide +kernel) (Nat.le_of_ble_eq_true rfl) rfl hF hl ?_
  intro p e s m args below meth c hC hr hno hnm
  change m_C D aC s0 RX1 _ _ _ _ _ _ _ _ _ at hC
  refine m_iconst hC dX1_copyFrom_0 ?_
  refine m_istore_n hC dX1_copyFrom_1 rfl (by decide) rfl ?_
  have L : ∀ (n : Nat) (i : Int) (M1 : m_M), 4 - i < (n : Int) → 0 ≤ i → i ≤ 4 → hhP b (h_cp t t2 2 3 i) M1 → m_fr b 17 M M1 → m_W D aC s0 3 p l e (m_R 0 (0) (0)) s m args below meth c (0) (0) (m_Q D aC s0 below (h_upt b M (h_c1 t t2)) m_nx args s (0) (0)) 2 [(2, VI i), (1, .ref (b2 + 2)), (0, .ref (b + 2))] [] M1 := by
    intro n
    induction n with
    | zero =>
      intro i M1 hn h0 h1 hP1 hf1
      omega
    | succ n ih =>
      intro i M1 hn h0 h1 hP1 hf1
      have hQ1 : hhP b2 t2 M1 := hQ.keep (fun q h1 h2 => hf1.2 q (by omega))
      refine m_iload_n hC 0 dX1_copyFrom_2 rfl rfl ?_
      refine m_iconst hC dX1_copyFrom_3 ?_
      refine m_icmp_ge (tgt := 37) hC dX1_copyFrom_4 (by decide) (by first | omega | (simp [hs_at] <;> omega)) (fun c1 => ?_) (fun c1 => ?_)
      · obtain rfl : i = 4 := by omega
        refine m_aload_n hC 2 dX1_copyFrom_37 rfl rfl ?_
        refine m_aload_n hC 1 dX1_copyFrom_38 rfl rfl ?_
        refine m_getf hC dX1_copyFrom_39 kf_X1_19 hQ1.2.2.1.1 rfl ?_
        refine m_hss8 hC hP1 hb dX1_copyFrom_42 kf_X1_19 (fun M2 R3 f4 => ?_)
        have R5 := hQ1.keep (fun q h1 h2 => f4.2 q (by omega))
        exact m_vret hC dX1_copyFrom_45 hr (by decide) (by decide) (⟨rfl, R3, (hf1.tr f4)⟩)
      · refine m_aload_n hC 2 dX1_copyFrom_7 rfl rfl ?_
        refine m_getf hC dX1_copyFrom_8 kf_X1_9 hP1.2.2.1.1 rfl ?_
        refine m_iload_n hC 0 dX1_copyFrom_11 rfl rfl ?_
        refine m_aload_n hC 1 dX1_copyFrom_12 rfl rfl ?_
        refine m_getf hC dX1_copyFrom_13 kf_X1_9 hQ1.2.2.1.1 rfl ?_
        refine m_iload_n hC 0 dX1_copyFrom_16 rfl rfl ?_
        refine m_iald hC dX1_copyFrom_17 hQ1.2.2.1.2.1 (by decide) (by first | omega | (simp [hs_at] <;> omega)) ?_
        refine m_hst2 hC hP1 hb dX1_copyFrom_18 (by first | omega | (simp [hs_at] <;> omega)) (fun M6 R7 f8 => ?_)
        have R9 := hQ1.keep (fun q h1 h2 => f8.2 q (by omega))
        refine m_aload_n hC 2 dX1_copyFrom_19 rfl rfl ?_
        refine m_getf hC dX1_copyFrom_20 kf_X1_15 R7.2.2.1.1 rfl ?_
        refine m_iload_n hC 0 dX1_copyFrom_23 rfl rfl ?_
        refine m_aload_n hC 1 dX1_copyFrom_24 rfl rfl ?_
        refine m_getf hC dX1_copyFrom_25 kf_X1_15 R9.2.2.1.1 rfl ?_
        refine m_iload_n hC 0 dX1_copyFrom_28 rfl rfl ?_
        refine m_zald hC dX1_copyFrom_29 R9.2.2.1.2.2 (by decide) (by first | omega | (simp [hs_at] <;> omega)) ?_
        refine m_hst3 hC R7 hb dX1_copyFrom_30 (by first | omega | (simp [hs_at] <;> omega)) ((hbt2 i).1) (fun M10 R11 f12 => ?_)
        have R13 := R9.keep (fun q h1 h2 => f12.2 q (by omega))
        refine m_iinc hC 0 dX1_copyFrom_31 rfl (by decide) rfl ?_
        refine m_goto (tgt := 2) hC dX1_copyFrom_34 (by decide) ?_
        refine m_lvs [0, 1, 2] rfl (ih (i + 1) M10 (by omega) (by omega) (by omega) (by rw [← h_cp_2 h0]; exact R11) (hf1.tr (f8.tr f12)))
  refine m_lvs [0, 2, 1] rfl (L 5 0 M (by omega) (by omega) (by omega) (by rw [h_cp_0]; exact hP) m_fr.rf)

set_option maxHeartbeats 4000000 in
set_option maxRecDepth 100000 in
theorem t_X5_copyFrom {D : va_G} {aC : Nat → ClassId} {s0 : State} {l : Launch} (hF : m_F D aC s0) (hl : l.stackTraces = false) {b : Nat} {t : h_T} {M : m_M} (hP : hhP b t M) (hb : s0.heap.size ≤ b) {b2 : Nat} {t2 : h_T} (hQ : hhP b2 t2 M) (hd : b + 17 ≤ b2 ∨ b2 + 17 ≤ b) (hbt2 : h_bit t2) : m_Met D aC s0 l yX5_copyFrom cX5_copyFrom 3 none 0 (0) (0) [.ref (b + 5), .ref (b2 + 5)] M (h_upt b M (h_c5 t t2)) m_nx := by
  refine m_entry (lv := [(0, .ref (b + 5)), (1, .ref (b2 + 5))]) (by decide +kernel) (Nat.le_of_ble_eq_true rfl) rfl hF hl ?_
  intro p e s m args below meth c hC hr hno hnm
  change m_C D aC s0 RX5 _ _ _ _ _ _ _ _ _ at hC
  refine m_iconst hC dX5_copyFrom_0 ?_
  refine m_istore_n hC dX5_copyFrom_1 rfl (by decide) rfl ?_
  have L : ∀ (n : Nat) (i : Int) (M1 : m_M), 5 - i < (n : Int) → 0 ≤ i → i ≤ 5 → hhP b (h_cp t t2 4 8 i) M1 → m_fr b 17 M M1 → m_W D aC s0 3 p l e (m_R 0 (0) (0)) s m args below meth c (0) (0) (m_Q D aC s0 below (h_upt b M (h_c5 t t2)) m_nx args s (0) (0)) 2 [(2, VI i), (1, .ref (b2 + 5)), (0, .ref (b + 5))] [] M1 := by
    intro n
    induction n with
    | zero =>
      intro i M1 hn h0 h1 hP1 hf1
      omega
    | succ n ih =>
      intro i M1 hn h0 h1 hP1 hf1
      have hQ1 : hhP b2 t2 M1 := hQ.keep (fun q h1 h2 => hf1.2 q (by omega))
      refine m_iload_n hC 0 dX5_copyFrom_2 rfl rfl ?_
      refine m_iconst hC dX5_copyFrom_3 ?_
      refine m_icmp_ge (tgt := 73) hC dX5_copyFrom_4 (by decide) (by first | omega | (simp [hs_at] <;> omega)) (fun c1 => ?_) (fun c1 => ?_)
      · obtain rfl : i = 5 := by omega
        refine m_aload_n hC 2 dX5_copyFrom_73 rfl rfl ?_
        refine m_aload_n hC 1 dX5_copyFrom_74 rfl rfl ?_
        refine m_getf hC dX5_copyFrom_75 kf_X5_28 hQ1.2.2.2.1.1 rfl ?_
        refine m_hss9 hC hP1 hb dX5_copyFrom_78 kf_X5_28 (fun M2 R3 f4 => ?_)
        have R5 := hQ1.keep (fun q h1 h2 => f4.2 q (by omega))
        exact m_vret hC dX5_copyFrom_81 hr (by decide) (by decide) (⟨rfl, R3, (hf1.tr f4)⟩)
      · refine m_aload_n hC 2 dX5_copyFrom_7 rfl rfl ?_
        refine m_getf hC dX5_copyFrom_8 kf_X5_9 hP1.2.2.2.1.1 rfl ?_
        refine m_iload_n hC 0 dX5_copyFrom_11 rfl rfl ?_
        refine m_aload_n hC 1 dX5_copyFrom_12 rfl rfl ?_
        refine m_getf hC dX5_copyFrom_13 kf_X5_9 hQ1.2.2.2.1.1 rfl ?_
        refine m_iload_n hC 0 dX5_copyFrom_16 rfl rfl ?_
        refine m_iald hC dX5_copyFrom_17 hQ1.2.2.2.1.2.1 (by decide) (by first | omega | (simp [hs_at] <;> omega)) ?_
        refine m_hst4 hC hP1 hb dX5_copyFrom_18 (by first | omega | (simp [hs_at] <;> omega)) (fun M6 R7 f8 => ?_)
        have R9 := hQ1.keep (fun q h1 h2 => f8.2 q (by omega))
        refine m_aload_n hC 2 dX5_copyFrom_19 rfl rfl ?_
        refine m_getf hC dX5_copyFrom_20 kf_X5_15 R7.2.2.2.1.1 rfl ?_
        refine m_iload_n hC 0 dX5_copyFrom_23 rfl rfl ?_
        refine m_aload_n hC 1 dX5_copyFrom_24 rfl rfl ?_
        refine m_getf hC dX5_copyFrom_25 kf_X5_15 R9.2.2.2.1.1 rfl ?_
        refine m_iload_n hC 0 dX5_copyFrom_28 rfl rfl ?_
        refine m_iald hC dX5_copyFrom_29 R9.2.2.2.1.2.2.1 (by decide) (by first | omega | (simp [hs_at] <;> omega)) ?_
        refine m_hst5 hC R7 hb dX5_copyFrom_30 (by first | omega | (simp [hs_at] <;> omega)) (fun M10 R11 f12 => ?_)
        have R13 := R9.keep (fun q h1 h2 => f12.2 q (by omega))
        refine m_aload_n hC 2 dX5_copyFrom_31 rfl rfl ?_
        refine m_getf hC dX5_copyFrom_32 kf_X5_18 R11.2.2.2.1.1 rfl ?_
        refine m_iload_n hC 0 dX5_copyFrom_35 rfl rfl ?_
        refine m_aload_n hC 1 dX5_copyFrom_36 rfl rfl ?_
        refine m_getf hC dX5_copyFrom_37 kf_X5_18 R13.2.2.2.1.1 rfl ?_
        refine m_iload_n hC 0 dX5_copyFrom_40 rfl rfl ?_
        refine m_iald hC dX5_copyFrom_41 R13.2.2.2.1.2.2.2.1 (by decide) (by first | omega | (simp [hs_at] <;> omega)) ?_
        refine m_hst6 hC R11 hb dX5_copyFrom_42 (by first | omega | (simp [hs_at] <;> omega)) (fun M14 R15 f16 => ?_)
        have R17 := R13.keep (fun q h1 h2 => f16.2 q (by omega))
        refine m_aload_n hC 2 dX5_copyFrom_43 rfl rfl ?_
        refine m_getf hC dX5_copyFrom_44 kf_X5_21 R15.2.2.2.1.1 rfl ?_
        refine m_iload_n hC 0 dX5_copyFrom_47 rfl rfl ?_
        refine m_aload_n hC 1 dX5_copyFrom_48 rfl rfl ?_
        refine m_getf hC dX5_copyFrom_49 kf_X5_21 R17.2.2.2.1.1 rfl ?_
        refine m_iload_n hC 0 dX5_copyFrom_52 rfl rfl ?_
        refine m_iald hC dX5_copyFrom_53 R17.2.2.2.1.2.2.2.2.1 (by decide) (by first | omega | (simp [hs_at] <;> omega)) ?_
        refine m_hst7 hC R15 hb dX5_copyFrom_54 (by first | omega | (simp [hs_at] <;> omega)) (fun M18 R19 f20 => ?_)
        have R21 := R17.keep (fun q h1 h2 => f20.2 q (by omega))
        refine m_aload_n hC 2 dX5_copyFrom_55 rfl rfl ?_
        refine m_getf hC dX5_copyFrom_56 kf_X5_24 R19.2.2.2.1.1 rfl ?_
        refine m_iload_n hC 0 dX5_copyFrom_59 rfl rfl ?_
        refine m_aload_n hC 1 dX5_copyFrom_60 rfl rfl ?_
        refine m_getf hC dX5_copyFrom_61 kf_X5_24 R21.2.2.2.1.1 rfl ?_
        refine m_iload_n hC 0 dX5_copyFrom_64 rfl rfl ?_
        refine m_zald hC dX5_copyFrom_65 R21.2.2.2.1.2.2.2.2.2 (by decide) (by first | omega | (simp [hs_at] <;> omega)) ?_
        refine m_hst8 hC R19 hb dX5_copyFrom_66 (by first | omega | (simp [hs_at] <;> omega)) ((hbt2 i).2) (fun M22 R23 f24 => ?_)
        have R25 := R21.keep (fun q h1 h2 => f24.2 q (by omega))
        refine m_iinc hC 0 dX5_copyFrom_67 rfl (by decide) rfl ?_
        refine m_goto (tgt := 2) hC dX5_copyFrom_70 (by decide) ?_
        refine m_lvs [0, 1, 2] rfl (ih (i + 1) M22 (by omega) (by omega) (by omega) (by rw [← h_cp_5 (a := 4) h0]; exact R23) (hf1.tr (f8.tr (f12.tr (f16.tr (f20.tr f24))))))
  refine m_lvs [0, 2, 1] rfl (L 6 0 M (by omega) (by omega) (by omega) (by rw [h_cp_0]; exact hP) m_fr.rf)

set_option maxHeartbeats 4000000 in
set_option maxRecDepth 100000 in
theorem t_X3_copyFrom {D : va_G} {aC : Nat → ClassId} {s0 : State} {l : Launch} (hF : m_F D aC s0) (hl : l.stackTraces = false) {b : Nat} {t : h_T} {M : m_M} (hP : hhP b t M) (hb : s0.heap.size ≤ b) {b2 : Nat} {t2 : h_T} (hQ : hhP b2 t2 M) (hd : b + 17 ≤ b2 ∨ b2 + 17 ≤ b) (hbt2 : h_bit t2) : m_Met D aC s0 l yX3_copyFrom cX3_copyFrom 3 none 1 (0) (0) [.ref (b + 11), .ref (b2 + 11)] M (h_upt b M (h_c3 t t2)) m_nx := by
  refine m_entry (lv := [(0, .ref (b + 11)), (1, .ref (b2 + 11))]) (by decide +kernel) (Nat.le_of_ble_eq_true rfl) rfl hF hl ?_
  intro p e s m args below meth c hC hr hno hnm
  change m_C D aC s0 RX3 _ _ _ _ _ _ _ _ _ at hC
  refine m_iconst hC dX3_copyFrom_0 ?_
  refine m_istore_n hC dX3_copyFrom_1 rfl (by decide) rfl ?_
  have L : ∀ (n : Nat) (i : Int) (M1 : m_M), 8 - i < (n : Int) → 0 ≤ i → i ≤ 8 → hhP b (h_cp t t2 9 13 i) M1 → m_fr b 17 M M1 → m_W D aC s0 3 p l e (m_R 1 (0) (0)) s m args below meth c (0) (0) (m_Q D aC s0 below (h_upt b M (h_c3 t t2)) m_nx args s (0) (0)) 2 [(2, VI i), (1, .ref (b2 + 11)), (0, .ref (b + 11))] [] M1 := by
    intro n
    induction n with
    | zero =>
      intro i M1 hn h0 h1 hP1 hf1
      omega
    | succ n ih =>
      intro i M1 hn h0 h1 hP1 hf1
      have hQ1 : hhP b2 t2 M1 := hQ.keep (fun q h1 h2 => hf1.2 q (by omega))
      refine m_iload_n hC 0 dX3_copyFrom_2 rfl rfl ?_
      refine m_bipush hC dX3_copyFrom_3 (by decide) ?_
      refine m_icmp_ge (tgt := 21) hC dX3_copyFrom_5 (by decide) (by first | omega | (simp [hs_at] <;> omega)) (fun c1 => ?_) (fun c1 => ?_)
      · obtain rfl : i = 8 := by omega
        refine m_aload_n hC 2 dX3_copyFrom_21 rfl rfl ?_
        refine m_aload_n hC 1 dX3_copyFrom_22 rfl rfl ?_
        refine m_getf hC dX3_copyFrom_23 kf_X3_27 hQ1.2.2.2.2.1 rfl ?_
        refine m_hss11 hC hP1 hb dX3_copyFrom_26 kf_X3_27 (fun M2 R3 f4 => ?_)
        have R5 := hQ1.keep (fun q h1 h2 => f4.2 q (by omega))
        refine m_aload_n hC 2 dX3_copyFrom_29 rfl rfl ?_
        refine m_aload_n hC 1 dX3_copyFrom_30 rfl rfl ?_
        refine m_getf hC dX3_copyFrom_31 kf_X3_31 R5.2.2.2.2.1 rfl ?_
        refine m_hss10 hC R3 hb dX3_copyFrom_34 kf_X3_31 (fun M6 R7 f8 => ?_)
        have R9 := R5.keep (fun q h1 h2 => f8.2 q (by omega))
        exact m_vret hC dX3_copyFrom_37 hr (by decide) (by decide) (⟨rfl, R7, (hf1.tr (f4.tr f8))⟩)
      · refine m_aload_n hC 2 dX3_copyFrom_8 rfl rfl ?_
        refine m_iload_n hC 0 dX3_copyFrom_9 rfl rfl ?_
        refine m_aload_n hC 1 dX3_copyFrom_10 rfl rfl ?_
        refine m_iload_n hC 0 dX3_copyFrom_11 rfl rfl ?_
        refine m_callV hC (t_X3_setRow_2 hF hl hP1 hb (i := i) (j := i) (by omega) (by omega) hQ1 hd) dX3_copyFrom_12 kc_X3_setRow kV_X3_34 hP1.2.2.2.2.1 rfl rfl rfl rfl (Nat.le_of_ble_eq_true rfl) (by decide) (by decide) m_nox (fun v9 M10 h9 => ?_)
        obtain ⟨rfl, R11, f12⟩ := h9
        have R13 := hQ1.keep (fun q h1 h2 => f12.2 q (by omega))
        rw [h_sr_cp h0] at R11
        refine m_iinc hC 0 dX3_copyFrom_15 rfl (by decide) rfl ?_
        refine m_goto (tgt := 2) hC dX3_copyFrom_18 (by decide) ?_
        refine m_lvs [0, 1, 2] rfl (ih (i + 1) M10 (by omega) (by omega) (by omega) R11 (hf1.tr f12))
  refine m_lvs [0, 2, 1] rfl (L 9 0 M (by omega) (by omega) (by omega) (by rw [h_cp_0]; exact hP) m_fr.rf)

set_option maxHeartbeats 4000000 in
set_option maxRecDepth 100000 in
theorem t_X7_copyFrom {D : va_G} {aC : Nat → ClassId} {s0 : State} {l : Launch} (hF : m_F D aC s0) (hl : l.stackTraces = false) {b : Nat} {g0 : h_T} {M : m_M} (hR : hhR b g0 M) (hb : s0.heap.size ≤ b) {b2 : Nat} {g : h_T} (hR2 : hhR b2 g M) (hd : b + 17 ≤ b2 ∨ b2 + 17 ≤ b) (h8 : g 0 8 ≤ 4) (h9 : g 0 9 ≤ 5) (h11 : g 0 11 ≤ 8) : m_Met D aC s0 l yX7_copyFrom cX7_copyFrom 3 none 2 (0) (0) [.ref b, .ref b2] M (h_up b M g) m_nx := by
  refine m_entry (lv := [(0, .ref b), (1, .ref b2)]) (by decide +kernel) (Nat.le_of_ble_eq_true rfl) rfl hF hl ?_
  intro p e s m args below meth c hC hr hno hnm
  change m_C D aC s0 RX7 _ _ _ _ _ _ _ _ _ at hC
  obtain ⟨t, hP, he, hbt⟩ := hR
  obtain ⟨t2, hQ, he2, hbt2⟩ := hR2
  refine m_iconst hC dX7_copyFrom_0 ?_
  refine m_istore_n hC dX7_copyFrom_1 rfl (by decide) rfl ?_
  have L : ∀ (n : Nat) (i : Int) (M1 : m_M), 6 - i < (n : Int) → 0 ≤ i → i ≤ 6 → hhP b (h_cp t t2 1 1 i) M1 → m_fr b 17 M M1 → m_W D aC s0 3 p l e (m_R 2 (0) (0)) s m args below meth c (0) (0) (m_Q D aC s0 below (h_up b M g) m_nx args s (0) (0)) 2 [(2, VI i), (1, .ref b2), (0, .ref b)] [] M1 := by
    intro n
    induction n with
    | zero =>
      intro i M1 hn h0 h1 hP1 hf1
      omega
    | succ n ih =>
      intro i M1 hn h0 h1 hP1 hf1
      have hQ1 : hhP b2 t2 M1 := hQ.keep (fun q h1 h2 => hf1.2 q (by omega))
      refine m_iload_n hC 0 dX7_copyFrom_2 rfl rfl ?_
      refine m_bipush hC dX7_copyFrom_3 (by decide) ?_
      refine m_icmp_ge (tgt := 26) hC dX7_copyFrom_5 (by decide) (by first | omega | (simp [hs_at] <;> omega)) (fun c1 => ?_) (fun c1 => ?_)
      · obtain rfl : i = 6 := by omega
        refine m_aload_n hC 2 dX7_copyFrom_26 rfl rfl ?_
        refine m_getf hC dX7_copyFrom_27 kf_X7_18 hP1.1 rfl ?_
        refine m_aload_n hC 1 dX7_copyFrom_30 rfl rfl ?_
        refine m_getf hC dX7_copyFrom_31 kf_X7_18 hQ1.1 rfl ?_
        refine m_callV hC (t_X1_copyFrom hF hl hP1 hb hQ1 hd hbt2) dX7_copyFrom_34 kc_X1_copyFrom kV_X7_61 hP1.2.2.1.1 rfl rfl rfl rfl (Nat.le_of_ble_eq_true rfl) (by decide) (by decide) m_nox (fun v9 M2 h9 => ?_)
        obtain ⟨rfl, R3, f4⟩ := h9
        have R5 := hQ1.keep (fun q h1 h2 => f4.2 q (by omega))
        refine m_aload_n hC 2 dX7_copyFrom_37 rfl rfl ?_
        refine m_getf hC dX7_copyFrom_38 kf_X7_25 R3.1 rfl ?_
        refine m_aload_n hC 1 dX7_copyFrom_41 rfl rfl ?_
        refine m_getf hC dX7_copyFrom_42 kf_X7_25 R5.1 rfl ?_
        refine m_callV hC (t_X5_copyFrom hF hl R3 hb R5 hd hbt2) dX7_copyFrom_45 kc_X5_copyFrom kV_X7_65 R3.2.2.2.1.1 rfl rfl rfl rfl (Nat.le_of_ble_eq_true rfl) (by decide) (by decide) m_nox (fun v9 M6 h9 => ?_)
        obtain ⟨rfl, R7, f8⟩ := h9
        have R9 := R5.keep (fun q h1 h2 => f8.2 q (by omega))
        refine m_aload_n hC 2 dX7_copyFrom_48 rfl rfl ?_
        refine m_getf hC dX7_copyFrom_49 kf_X7_32 R7.1 rfl ?_
        refine m_aload_n hC 1 dX7_copyFrom_52 rfl rfl ?_
        refine m_getf hC dX7_copyFrom_53 kf_X7_32 R9.1 rfl ?_
        refine m_callV hC (t_X3_copyFrom hF hl R7 hb R9 hd hbt2) dX7_copyFrom_56 kc_X3_copyFrom kV_X7_68 R7.2.2.2.2.1 rfl rfl rfl rfl (Nat.le_of_ble_eq_true rfl) (by decide) (by decide) m_nox (fun v9 M10 h9 => ?_)
        obtain ⟨rfl, R11, f12⟩ := h9
        have R13 := R9.keep (fun q h1 h2 => f12.2 q (by omega))
        refine m_aload_n hC 2 dX7_copyFrom_59 rfl rfl ?_
        refine m_aload_n hC 1 dX7_copyFrom_60 rfl rfl ?_
        refine m_getf hC dX7_copyFrom_61 kf_X7_36 R13.1 rfl ?_
        refine m_hss0 hC R11 hb dX7_copyFrom_64 kf_X7_36 (fun M14 R15 f16 => ?_)
        have R17 := R13.keep (fun q h1 h2 => f16.2 q (by omega))
        refine m_aload_n hC 2 dX7_copyFrom_67 rfl rfl ?_
        refine m_aload_n hC 1 dX7_copyFrom_68 rfl rfl ?_
        refine m_getf hC dX7_copyFrom_69 kf_X7_40 R17.1 rfl ?_
        refine m_hss1 hC R15 hb dX7_copyFrom_72 kf_X7_40 (fun M18 R19 f20 => ?_)
        have R21 := R17.keep (fun q h1 h2 => f20.2 q (by omega))
        refine m_aload_n hC 2 dX7_copyFrom_75 rfl rfl ?_
        refine m_aload_n hC 1 dX7_copyFrom_76 rfl rfl ?_
        refine m_getf hC dX7_copyFrom_77 kf_X7_43 R21.1 rfl ?_
        refine m_hss2 hC R19 hb dX7_copyFrom_80 kf_X7_43 (fun M22 R23 f24 => ?_)
        have R25 := R21.keep (fun q h1 h2 => f24.2 q (by omega))
        refine m_aload_n hC 2 dX7_copyFrom_83 rfl rfl ?_
        refine m_aload_n hC 1 dX7_copyFrom_84 rfl rfl ?_
        refine m_getf hC dX7_copyFrom_85 kf_X7_46 R25.1 rfl ?_
        refine m_hss3 hC R23 hb dX7_copyFrom_88 kf_X7_46 (fun M26 R27 f28 => ?_)
        have R29 := R25.keep (fun q h1 h2 => f28.2 q (by omega))
        refine m_aload_n hC 2 dX7_copyFrom_91 rfl rfl ?_
        refine m_aload_n hC 1 dX7_copyFrom_92 rfl rfl ?_
        refine m_getf hC dX7_copyFrom_93 kf_X7_49 R29.1 rfl ?_
        refine m_hss4 hC R27 hb dX7_copyFrom_96 kf_X7_49 (fun M30 R31 f32 => ?_)
        have R33 := R29.keep (fun q h1 h2 => f32.2 q (by omega))
        refine m_aload_n hC 2 dX7_copyFrom_99 rfl rfl ?_
        refine m_aload_n hC 1 dX7_copyFrom_100 rfl rfl ?_
        refine m_getf hC dX7_copyFrom_101 kf_X7_52 R33.1 rfl ?_
        refine m_hss5 hC R31 hb dX7_copyFrom_104 kf_X7_52 (fun M34 R35 f36 => ?_)
        have R37 := R33.keep (fun q h1 h2 => f36.2 q (by omega))
        refine m_aload_n hC 2 dX7_copyFrom_107 rfl rfl ?_
        refine m_aload_n hC 1 dX7_copyFrom_108 rfl rfl ?_
        refine m_getf hC dX7_copyFrom_109 kf_X7_55 R37.1 rfl ?_
        refine m_hss6 hC R35 hb dX7_copyFrom_112 kf_X7_55 (fun M38 R39 f40 => ?_)
        have R41 := R37.keep (fun q h1 h2 => f40.2 q (by omega))
        refine m_aload_n hC 2 dX7_copyFrom_115 rfl rfl ?_
        refine m_aload_n hC 1 dX7_copyFrom_116 rfl rfl ?_
        refine m_getf hC dX7_copyFrom_117 kf_X7_58 R41.1 rfl ?_
        refine m_hss7 hC R39 hb dX7_copyFrom_120 kf_X7_58 (fun M42 R43 f44 => ?_)
        have R45 := R41.keep (fun q h1 h2 => f44.2 q (by omega))
        exact m_vret hC dX7_copyFrom_123 hr (by decide) (by decide) (⟨rfl, ⟨_, R43, (h_c7_eq (by rw [he2.s 8 (by omega)]; exact h8) (by rw [he2.s 9 (by omega)]; exact h9) (by rw [he2.s 11 (by omega)]; exact h11)).tr he2, h_c7_bit hbt hbt2⟩, (hf1.tr (f4.tr (f8.tr (f12.tr (f16.tr (f20.tr (f24.tr (f28.tr (f32.tr (f36.tr (f40.tr f44)))))))))))⟩)
      · refine m_aload_n hC 2 dX7_copyFrom_8 rfl rfl ?_
        refine m_getf hC dX7_copyFrom_9 kf_X7_9 hP1.1 rfl ?_
        refine m_iload_n hC 0 dX7_copyFrom_12 rfl rfl ?_
        refine m_aload_n hC 1 dX7_copyFrom_13 rfl rfl ?_
        refine m_getf hC dX7_copyFrom_14 kf_X7_9 hQ1.1 rfl ?_
        refine m_iload_n hC 0 dX7_copyFrom_17 rfl rfl ?_
        refine m_iald hC dX7_copyFrom_18 hQ1.2.1 (by decide) (by first | omega | (simp [hs_at] <;> omega)) ?_
        refine m_hst1 hC hP1 hb dX7_copyFrom_19 (by first | omega | (simp [hs_at] <;> omega)) (fun M46 R47 f48 => ?_)
        have R49 := hQ1.keep (fun q h1 h2 => f48.2 q (by omega))
        refine m_iinc hC 0 dX7_copyFrom_20 rfl (by decide) rfl ?_
        refine m_goto (tgt := 2) hC dX7_copyFrom_23 (by decide) ?_
        refine m_lvs [0, 1, 2] rfl (ih (i + 1) M46 (by omega) (by omega) (by omega) (by rw [← h_cp_1 h0]; exact R47) (hf1.tr f48))
  refine m_lvs [0, 2, 1] rfl (L 7 0 M (by omega) (by omega) (by omega) (by rw [h_cp_0]; exact hP) m_fr.rf)

