section m_LVS
variable {D : va_G} {aC : Nat → ClassId} {s0 : State} {nL : Nat} {p : Program} {l : Launch} {e : Env} {R : Room} {s : State} {m : MethodId} {args : Array Value} {below : List Frame} {meth : Method} {c : Code} {cells slots : Nat} {Q : State → Prop} {pc : Nat} {lv lv2 : List (Nat × Value)} {st : List Value} {M : m_M}
theorem m_lvs (ks : List Nat) (h : lv_pick lv ks = lv2) (k : m_W D aC s0 nL p l e R s m args below meth c cells slots Q pc lv2 st M) : m_W D aC s0 nL p l e R s m args below meth c cells slots Q pc lv st M := fun H locs ls h1 h2 h3 => k H locs ls (lv_sub h1 ks h) h2 h3
theorem m_wd {k n : Nat} (h1 : cells ≤ k) (h2 : slots ≤ n) (kk : m_W D aC s0 nL p l e R s m args below meth c k n Q pc lv st M) : m_W D aC s0 nL p l e R s m args below meth c cells slots Q pc lv st M := fun H locs ls h3 h4 h5 => W.widen h1 h2 (kk H locs ls h3 h4 h5)
end m_LVS
theorem h_find_0 {p : Int → Bool} {k i : Int} (h : k ≤ 0) : h_find p k.toNat i = -1 := by
  rw [show k.toNat = 0 by omega]; rfl
theorem h_find_t {p : Int → Bool} {k i : Int} (h : 0 < k) (hp : p i = true) : h_find p k.toNat i = i := by
  rw [show k.toNat = (k - 1).toNat + 1 by omega, h_find, if_pos hp]
theorem h_find_f {p : Int → Bool} {k i : Int} (h : 0 < k) (hp : p i = false) : h_find p k.toNat i = h_find p (k - 1).toNat (i + 1) := by
  rw [show k.toNat = (k - 1).toNat + 1 by omega, h_find, hp]; rfl
theorem h_find_rg {p : Int → Bool} : ∀ (n : Nat) (i : Int), 0 ≤ i → h_find p n i = -1 ∨ (i ≤ h_find p n i ∧ h_find p n i < i + n ∧ p (h_find p n i) = true ∧ ∀ j, i ≤ j → j < h_find p n i → p j = false) := by
  intro n
  induction n with
  | zero => intro i _; exact Or.inl rfl
  | succ n ih =>
    intro i hi
    rw [h_find]
    by_cases hp : p i = true
    · rw [if_pos hp]
      exact Or.inr ⟨by omega, by omega, hp, fun j h1 h2 => by omega⟩
    · have hp' : p i = false := by simpa using hp
      rw [if_neg hp]
      rcases ih (i + 1) (by omega) with h | ⟨h1, h2, h3, h4⟩
      · exact Or.inl h
      · refine Or.inr ⟨by omega, by omega, h3, fun j q1 q2 => ?_⟩
        by_cases hj : j = i
        · rw [hj]; exact hp'
        · exact h4 j (by omega) q2
theorem h_find_no {p : Int → Bool} : ∀ (n : Nat) (i : Int), h_find p n i = -1 → 0 ≤ i → ∀ j, i ≤ j → j < i + n → p j = false := by
  intro n
  induction n with
  | zero => intro i _ _ j h1 h2; omega
  | succ n ih =>
    intro i h hi j h1 h2
    rw [h_find] at h
    by_cases hp : p i = true
    · rw [if_pos hp] at h; omega
    · have hp' : p i = false := by simpa using hp
      rw [if_neg hp] at h
      by_cases hj : j = i
      · rw [hj]; exact hp'
      · exact ih (i + 1) h (by omega) j (by omega) (by omega)
def S_rdust (g : h_T) (x : Int) : Int := h_sum (fun o => if g 1 o > g 1 x ∨ (g 1 o = g 1 x ∧ o < x) then 1 else 0) 6
def S_ahead (g : h_T) (o x : Int) : Bool := decide (g 5 o - g 6 o > g 5 x - g 6 x ∨ (g 5 o - g 6 o = g 5 x - g 6 x ∧ (g 4 o > g 4 x ∨ (g 4 o = g 4 x ∧ o < x))))
def S_rwealth (g : h_T) (x : Int) : Int := h_sum (fun o => if S_ahead g o x = true then 1 else 0) (g 0 9).toNat
set_option maxHeartbeats 4000000 in
set_option maxRecDepth 100000 in
theorem t_X1_has {D : va_G} {aC : Nat → ClassId} {s0 : State} {l : Launch} (hF : m_F D aC s0) (hl : l.stackTraces = false) {b : Nat} {g : h_T} {M : m_M} (hR : hhR b g M) (hB : h_B g) {x : Int} (hx : -2147483648 ≤ x ∧ x < 2147483648) : m_Met D aC s0 l yX1_has cX1_has 2 (some .boolean) 0 (0) (0) [.ref (b + 2), VI x] M (fun v M' => v = some (VI (if 0 ≤ x ∧ x < g 0 8 then 1 else 0)) ∧ M' = M) m_nx := by
  refine m_entry (lv := [(0, .ref (b + 2)), (1, VI x)]) (by decide +kernel) (Nat.le_of_ble_eq_true rfl) rfl hF hl ?_
  intro p e s m args below meth c hC hr hno hnm
  change m_C D aC s0 RX1 _ _ _ _ _ _ _ _ _ at hC
  have hn := hB.n8
  refine m_iload_n hC 1 dX1_has_0 rfl rfl ?_
  refine m_if_lt (tgt := 16) hC dX1_has_1 (by decide) (by first | omega | (simp [hs_at] <;> omega)) (fun c1 => ?_) (fun c1 => ?_)
  · refine m_iconst hC dX1_has_16 ?_
    exact m_zret hC dX1_has_17 hr (by rfl) (by decide) (by decide) (⟨by first | rw [if_pos (by omega)] | rw [if_neg (by omega)], rfl⟩)
  · refine m_iload_n hC 1 dX1_has_4 rfl rfl ?_
    refine m_aload_n hC 0 dX1_has_5 rfl rfl ?_
    refine m_getf hC dX1_has_6 kf_X1_19 hR.br rfl ?_
    refine m_icmp_ge (tgt := 16) hC dX1_has_9 (by decide) (by first | omega | (simp [hs_at] <;> omega)) (fun c2 => ?_) (fun c2 => ?_)
    · refine m_iconst hC dX1_has_16 ?_
      exact m_zret hC dX1_has_17 hr (by rfl) (by decide) (by decide) (⟨by first | rw [if_pos (by omega)] | rw [if_neg (by omega)], rfl⟩)
    · refine m_iconst hC dX1_has_12 ?_
      refine m_goto (tgt := 17) hC dX1_has_13 (by decide) ?_
      exact m_zret hC dX1_has_17 hr (by rfl) (by decide) (by decide) (⟨by first | rw [if_pos (by omega)] | rw [if_neg (by omega)], rfl⟩)

set_option maxHeartbeats 4000000 in
set_option maxRecDepth 100000 in
theorem t_X5_has {D : va_G} {aC : Nat → ClassId} {s0 : State} {l : Launch} (hF : m_F D aC s0) (hl : l.stackTraces = false) {b : Nat} {g : h_T} {M : m_M} (hR : hhR b g M) (hB : h_B g) {x : Int} (hx : -2147483648 ≤ x ∧ x < 2147483648) : m_Met D aC s0 l yX5_has cX5_has 2 (some .boolean) 0 (0) (0) [.ref (b + 5), VI x] M (fun v M' => v = some (VI (if 0 ≤ x ∧ x < g 0 9 then 1 else 0)) ∧ M' = M) m_nx := by
  refine m_entry (lv := [(0, .ref (b + 5)), (1, VI x)]) (by decide +kernel) (Nat.le_of_ble_eq_true rfl) rfl hF hl ?_
  intro p e s m args below meth c hC hr hno hnm
  change m_C D aC s0 RX5 _ _ _ _ _ _ _ _ _ at hC
  have hn := hB.n9
  refine m_iload_n hC 1 dX5_has_0 rfl rfl ?_
  refine m_if_lt (tgt := 16) hC dX5_has_1 (by decide) (by first | omega | (simp [hs_at] <;> omega)) (fun c1 => ?_) (fun c1 => ?_)
  · refine m_iconst hC dX5_has_16 ?_
    exact m_zret hC dX5_has_17 hr (by rfl) (by decide) (by decide) (⟨by first | rw [if_pos (by omega)] | rw [if_neg (by omega)], rfl⟩)
  · refine m_iload_n hC 1 dX5_has_4 rfl rfl ?_
    refine m_aload_n hC 0 dX5_has_5 rfl rfl ?_
    refine m_getf hC dX5_has_6 kf_X5_28 hR.go rfl ?_
    refine m_icmp_ge (tgt := 16) hC dX5_has_9 (by decide) (by first | omega | (simp [hs_at] <;> omega)) (fun c2 => ?_) (fun c2 => ?_)
    · refine m_iconst hC dX5_has_16 ?_
      exact m_zret hC dX5_has_17 hr (by rfl) (by decide) (by decide) (⟨by first | rw [if_pos (by omega)] | rw [if_neg (by omega)], rfl⟩)
    · refine m_iconst hC dX5_has_12 ?_
      refine m_goto (tgt := 17) hC dX5_has_13 (by decide) ?_
      exact m_zret hC dX5_has_17 hr (by rfl) (by decide) (by decide) (⟨by first | rw [if_pos (by omega)] | rw [if_neg (by omega)], rfl⟩)

set_option maxHeartbeats 4000000 in
set_option maxRecDepth 100000 in
theorem t_X1_inUse {D : va_G} {aC : Nat → ClassId} {s0 : State} {l : Launch} (hF : m_F D aC s0) (hl : l.stackTraces = false) {b : Nat} {g : h_T} {M : m_M} (hR : hhR b g M) (hB : h_B g)   : m_Met D aC s0 l yX1_inUse cX1_inUse 3 (some .int) 0 (0) (0) [.ref (b + 2)] M (fun v M' => v = some (VI (S_inUse g)) ∧ M' = M) m_nx := by
  refine m_entry (lv := [(0, .ref (b + 2))]) (by decide +kernel) (Nat.le_of_ble_eq_true rfl) rfl hF hl ?_
  intro p e s m args below meth c hC hr hno hnm
  change m_C D aC s0 RX1 _ _ _ _ _ _ _ _ _ at hC
  have hn8 := hB.n8
  refine m_iconst hC dX1_inUse_0 ?_
  refine m_istore_n hC dX1_inUse_1 rfl (by decide) rfl ?_
  refine m_iconst hC dX1_inUse_2 ?_
  refine m_istore_n hC dX1_inUse_3 rfl (by decide) rfl ?_
  have L : ∀ (n : Nat) (i a : Int), g 0 8 - i < (n : Int) → 0 ≤ i → i ≤ g 0 8 → a = h_sum (fun j => 1 - g 3 j) i.toNat → m_W D aC s0 3 p l e (m_R 0 (0) (0)) s m args below meth c (0) (0) (m_Q D aC s0 below (fun v M' => v = some (VI (S_inUse g)) ∧ M' = M) m_nx args s (0) (0)) 4 [(2, VI i), (1, VI a), (0, .ref (b + 2))] [] M := by
    intro n
    induction n with
    | zero =>
      intro i a hn h0 h1 ha
      omega
    | succ n ih =>
      intro i a hn h0 h1 ha
      refine m_iload_n hC 0 dX1_inUse_4 rfl rfl ?_
      refine m_aload_n hC 2 dX1_inUse_5 rfl rfl ?_
      refine m_getf hC dX1_inUse_6 kf_X1_19 hR.br rfl ?_
      refine m_icmp_ge (tgt := 30) hC dX1_inUse_9 (by decide) (by first | omega | (simp [hs_at] <;> omega)) (fun c1 => ?_) (fun c1 => ?_)
      · refine m_iload_n hC 1 dX1_inUse_30 rfl rfl ?_
        exact m_iret hC dX1_inUse_31 hr (by decide) (by decide) (⟨by rw [ha]; congr 2; congr 1; congr 1; omega, rfl⟩)
      · have hbr := hB.br (i := i) (by omega)
        have hs := h_sum_bd (f := fun j => 1 - g 3 j) (B := 1) (n := i) (by omega) (fun j hj => by have := (hB.br (i := j) (by omega)).2.2; omega)
        refine m_aload_n hC 2 dX1_inUse_12 rfl rfl ?_
        refine m_getf hC dX1_inUse_13 kf_X1_15 hR.br rfl ?_
        refine m_iload_n hC 0 dX1_inUse_16 rfl rfl ?_
        refine m_ld3 hC hR dX1_inUse_17 (by first | omega | (simp [hs_at] <;> omega)) (by first | omega | (simp [hs_at] <;> omega)) ?_
        refine m_if_ne (tgt := 24) hC dX1_inUse_18 (by decide) (by first | omega | (simp [hs_at] <;> omega)) (fun c2 => ?_) (fun c2 => ?_)
        · refine m_iinc hC 0 dX1_inUse_24 rfl (by decide) rfl ?_
          refine m_goto (tgt := 4) hC dX1_inUse_27 (by decide) ?_
          refine m_lvs [0, 1, 2] rfl (ih (i + 1) _ (by omega) (by omega) (by omega) ?_)
          rw [h_sum_succ _ h0]
          try dsimp only
          first | omega | (split <;> omega)
        · refine m_iinc hC 1 dX1_inUse_21 rfl (by decide) rfl ?_
          refine m_iinc hC 1 dX1_inUse_24 rfl (by decide) rfl ?_
          refine m_goto (tgt := 4) hC dX1_inUse_27 (by decide) ?_
          refine m_lvs [0, 1, 2] rfl (ih (i + 1) _ (by omega) (by omega) (by omega) ?_)
          rw [h_sum_succ _ h0]
          try dsimp only
          first | omega | (split <;> omega)
  refine m_lvs [0, 1, 2] rfl (L ((g 0 8 - 0).toNat + 1) 0 0 (by omega) (by omega) (by omega) rfl)

set_option maxHeartbeats 4000000 in
set_option maxRecDepth 100000 in
theorem t_X1_greatestPowerInUse {D : va_G} {aC : Nat → ClassId} {s0 : State} {l : Launch} (hF : m_F D aC s0) (hl : l.stackTraces = false) {b : Nat} {g : h_T} {M : m_M} (hR : hhR b g M) (hB : h_B g)   : m_Met D aC s0 l yX1_greatestPowerInUse cX1_greatestPowerInUse 3 (some .int) 0 (0) (0) [.ref (b + 2)] M (fun v M' => v = some (VI (S_great g)) ∧ M' = M) m_nx := by
  refine m_entry (lv := [(0, .ref (b + 2))]) (by decide +kernel) (Nat.le_of_ble_eq_true rfl) rfl hF hl ?_
  intro p e s m args below meth c hC hr hno hnm
  change m_C D aC s0 RX1 _ _ _ _ _ _ _ _ _ at hC
  have hn8 := hB.n8
  refine m_iconst hC dX1_greatestPowerInUse_0 ?_
  refine m_istore_n hC dX1_greatestPowerInUse_1 rfl (by decide) rfl ?_
  refine m_iconst hC dX1_greatestPowerInUse_2 ?_
  refine m_istore_n hC dX1_greatestPowerInUse_3 rfl (by decide) rfl ?_
  have L : ∀ (n : Nat) (i a : Int), g 0 8 - i < (n : Int) → 0 ≤ i → i ≤ g 0 8 → a = h_max (fun j => if g 3 j = 0 then g 2 j else 0) i.toNat → m_W D aC s0 3 p l e (m_R 0 (0) (0)) s m args below meth c (0) (0) (m_Q D aC s0 below (fun v M' => v = some (VI (S_great g)) ∧ M' = M) m_nx args s (0) (0)) 4 [(2, VI i), (1, VI a), (0, .ref (b + 2))] [] M := by
    intro n
    induction n with
    | zero =>
      intro i a hn h0 h1 ha
      omega
    | succ n ih =>
      intro i a hn h0 h1 ha
      refine m_iload_n hC 0 dX1_greatestPowerInUse_4 rfl rfl ?_
      refine m_aload_n hC 2 dX1_greatestPowerInUse_5 rfl rfl ?_
      refine m_getf hC dX1_greatestPowerInUse_6 kf_X1_19 hR.br rfl ?_
      refine m_icmp_ge (tgt := 44) hC dX1_greatestPowerInUse_9 (by decide) (by first | omega | (simp [hs_at] <;> omega)) (fun c1 => ?_) (fun c1 => ?_)
      · refine m_iload_n hC 1 dX1_greatestPowerInUse_44 rfl rfl ?_
        exact m_iret hC dX1_greatestPowerInUse_45 hr (by decide) (by decide) (⟨by rw [ha]; congr 2; congr 1; congr 1; omega, rfl⟩)
      · have hbr := hB.br (i := i) (by omega)
        have hs := h_max_bd (f := fun j => if g 3 j = 0 then g 2 j else 0) (B := 20) (n := i) (by omega) (fun j hj => by have := (hB.br (i := j) (by omega)).2; split <;> omega)
        refine m_aload_n hC 2 dX1_greatestPowerInUse_12 rfl rfl ?_
        refine m_getf hC dX1_greatestPowerInUse_13 kf_X1_15 hR.br rfl ?_
        refine m_iload_n hC 0 dX1_greatestPowerInUse_16 rfl rfl ?_
        refine m_ld3 hC hR dX1_greatestPowerInUse_17 (by first | omega | (simp [hs_at] <;> omega)) (by first | omega | (simp [hs_at] <;> omega)) ?_
        refine m_if_ne (tgt := 38) hC dX1_greatestPowerInUse_18 (by decide) (by first | omega | (simp [hs_at] <;> omega)) (fun c2 => ?_) (fun c2 => ?_)
        · refine m_iinc hC 0 dX1_greatestPowerInUse_38 rfl (by decide) rfl ?_
          refine m_goto (tgt := 4) hC dX1_greatestPowerInUse_41 (by decide) ?_
          refine m_lvs [0, 1, 2] rfl (ih (i + 1) _ (by omega) (by omega) (by omega) ?_)
          rw [h_max_succ _ h0]
          try dsimp only
          first | omega | (split <;> omega)
        · refine m_aload_n hC 2 dX1_greatestPowerInUse_21 rfl rfl ?_
          refine m_getf hC dX1_greatestPowerInUse_22 kf_X1_9 hR.br rfl ?_
          refine m_iload_n hC 0 dX1_greatestPowerInUse_25 rfl rfl ?_
          refine m_ld2 hC hR dX1_greatestPowerInUse_26 (by first | omega | (simp [hs_at] <;> omega)) (by first | omega | (simp [hs_at] <;> omega)) ?_
          refine m_iload_n hC 1 dX1_greatestPowerInUse_27 rfl rfl ?_
          refine m_icmp_le (tgt := 38) hC dX1_greatestPowerInUse_28 (by decide) (by first | omega | (simp [hs_at] <;> omega)) (fun c3 => ?_) (fun c3 => ?_)
          · refine m_iinc hC 0 dX1_greatestPowerInUse_38 rfl (by decide) rfl ?_
            refine m_goto (tgt := 4) hC dX1_greatestPowerInUse_41 (by decide) ?_
            refine m_lvs [0, 1, 2] rfl (ih (i + 1) _ (by omega) (by omega) (by omega) ?_)
            rw [h_max_succ _ h0]
            try dsimp only
            first | omega | (split <;> omega)
          · refine m_aload_n hC 2 dX1_greatestPowerInUse_31 rfl rfl ?_
            refine m_getf hC dX1_greatestPowerInUse_32 kf_X1_9 hR.br rfl ?_
            refine m_iload_n hC 0 dX1_greatestPowerInUse_35 rfl rfl ?_
            refine m_ld2 hC hR dX1_greatestPowerInUse_36 (by first | omega | (simp [hs_at] <;> omega)) (by first | omega | (simp [hs_at] <;> omega)) ?_
            refine m_istore_n hC dX1_greatestPowerInUse_37 rfl (by decide) rfl ?_
            refine m_iinc hC 1 dX1_greatestPowerInUse_38 rfl (by decide) rfl ?_
            refine m_goto (tgt := 4) hC dX1_greatestPowerInUse_41 (by decide) ?_
            refine m_lvs [0, 1, 2] rfl (ih (i + 1) _ (by omega) (by omega) (by omega) ?_)
            rw [h_max_succ _ h0]
            try dsimp only
            first | omega | (split <;> omega)
  refine m_lvs [0, 1, 2] rfl (L ((g 0 8 - 0).toNat + 1) 0 0 (by omega) (by omega) (by omega) rfl)

set_option maxHeartbeats 4000000 in
set_option maxRecDepth 100000 in
theorem t_X5_numberResting {D : va_G} {aC : Nat → ClassId} {s0 : State} {l : Launch} (hF : m_F D aC s0) (hl : l.stackTraces = false) {b : Nat} {g : h_T} {M : m_M} (hR : hhR b g M) (hB : h_B g)   : m_Met D aC s0 l yX5_numberResting cX5_numberResting 3 (some .int) 0 (0) (0) [.ref (b + 5)] M (fun v M' => v = some (VI (S_resting g)) ∧ M' = M) m_nx := by
  refine m_entry (lv := [(0, .ref (b + 5))]) (by decide +kernel) (Nat.le_of_ble_eq_true rfl) rfl hF hl ?_
  intro p e s m args below meth c hC hr hno hnm
  change m_C D aC s0 RX5 _ _ _ _ _ _ _ _ _ at hC
  have hn8 := hB.n9
  refine m_iconst hC dX5_numberResting_0 ?_
  refine m_istore_n hC dX5_numberResting_1 rfl (by decide) rfl ?_
  refine m_iconst hC dX5_numberResting_2 ?_
  refine m_istore_n hC dX5_numberResting_3 rfl (by decide) rfl ?_
  have L : ∀ (n : Nat) (i a : Int), g 0 9 - i < (n : Int) → 0 ≤ i → i ≤ g 0 9 → a = h_sum (fun j => g 8 j) i.toNat → m_W D aC s0 3 p l e (m_R 0 (0) (0)) s m args below meth c (0) (0) (m_Q D aC s0 below (fun v M' => v = some (VI (S_resting g)) ∧ M' = M) m_nx args s (0) (0)) 4 [(2, VI i), (1, VI a), (0, .ref (b + 5))] [] M := by
    intro n
    induction n with
    | zero =>
      intro i a hn h0 h1 ha
      omega
    | succ n ih =>
      intro i a hn h0 h1 ha
      refine m_iload_n hC 0 dX5_numberResting_4 rfl rfl ?_
      refine m_aload_n hC 2 dX5_numberResting_5 rfl rfl ?_
      refine m_getf hC dX5_numberResting_6 kf_X5_28 hR.go rfl ?_
      refine m_icmp_ge (tgt := 30) hC dX5_numberResting_9 (by decide) (by first | omega | (simp [hs_at] <;> omega)) (fun c1 => ?_) (fun c1 => ?_)
      · refine m_iload_n hC 1 dX5_numberResting_30 rfl rfl ?_
        exact m_iret hC dX5_numberResting_31 hr (by decide) (by decide) (⟨by rw [ha]; congr 2; congr 1; congr 1; omega, rfl⟩)
      · have hbr := hB.go (i := i) (by omega)
        refine m_aload_n hC 2 dX5_numberResting_12 rfl rfl ?_
        refine m_getf hC dX5_numberResting_13 kf_X5_24 hR.go rfl ?_
        refine m_iload_n hC 0 dX5_numberResting_16 rfl rfl ?_
        refine m_ld8 hC hR dX5_numberResting_17 (by first | omega | (simp [hs_at] <;> omega)) (by first | omega | (simp [hs_at] <;> omega)) ?_
        refine m_if_eq (tgt := 24) hC dX5_numberResting_18 (by decide) (by first | omega | (simp [hs_at] <;> omega)) (fun c2 => ?_) (fun c2 => ?_)
        · refine m_iinc hC 0 dX5_numberResting_24 rfl (by decide) rfl ?_
          refine m_goto (tgt := 4) hC dX5_numberResting_27 (by decide) ?_
          refine m_lvs [0, 1, 2] rfl (ih (i + 1) _ (by omega) (by omega) (by omega) ?_)
          rw [h_sum_succ _ h0]
          try dsimp only
          first | omega | (split <;> omega)
        · refine m_iinc hC 1 dX5_numberResting_21 rfl (by decide) rfl ?_
          refine m_iinc hC 1 dX5_numberResting_24 rfl (by decide) rfl ?_
          refine m_goto (tgt := 4) hC dX5_numberResting_27 (by decide) ?_
          refine m_lvs [0, 1, 2] rfl (ih (i + 1) _ (by omega) (by omega) (by omega) ?_)
          rw [h_sum_succ _ h0]
          try dsimp only
          first | omega | (split <;> omega)
  refine m_lvs [0, 1, 2] rfl (L ((g 0 9 - 0).toNat + 1) 0 0 (by omega) (by omega) (by omega) rfl)

set_option maxHeartbeats 4000000 in
set_option maxRecDepth 100000 in
theorem t_X5_crumbsInPurses {D : va_G} {aC : Nat → ClassId} {s0 : State} {l : Launch} (hF : m_F D aC s0) (hl : l.stackTraces = false) {b : Nat} {g : h_T} {M : m_M} (hR : hhR b g M) (hB : h_B g)   : m_Met D aC s0 l yX5_crumbsInPurses cX5_crumbsInPurses 3 (some .int) 0 (0) (0) [.ref (b + 5)] M (fun v M' => v = some (VI (S_purses g)) ∧ M' = M) m_nx := by
  refine m_entry (lv := [(0, .ref (b + 5))]) (by decide +kernel) (Nat.le_of_ble_eq_true rfl) rfl hF hl ?_
  intro p e s m args below meth c hC hr hno hnm
  change m_C D aC s0 RX5 _ _ _ _ _ _ _ _ _ at hC
  have hn8 := hB.n9
  refine m_iconst hC dX5_crumbsInPurses_0 ?_
  refine m_istore_n hC dX5_crumbsInPurses_1 rfl (by decide) rfl ?_
  refine m_iconst hC dX5_crumbsInPurses_2 ?_
  refine m_istore_n hC dX5_crumbsInPurses_3 rfl (by decide) rfl ?_
  have L : ∀ (n : Nat) (i a : Int), g 0 9 - i < (n : Int) → 0 ≤ i → i ≤ g 0 9 → a = h_sum (fun j => g 5 j) i.toNat → m_W D aC s0 3 p l e (m_R 0 (0) (0)) s m args below meth c (0) (0) (m_Q D aC s0 below (fun v M' => v = some (VI (S_purses g)) ∧ M' = M) m_nx args s (0) (0)) 4 [(2, VI i), (1, VI a), (0, .ref (b + 5))] [] M := by
    intro n
    induction n with
    | zero =>
      intro i a hn h0 h1 ha
      omega
    | succ n ih =>
      intro i a hn h0 h1 ha
      refine m_iload_n hC 0 dX5_crumbsInPurses_4 rfl rfl ?_
      refine m_aload_n hC 2 dX5_crumbsInPurses_5 rfl rfl ?_
      refine m_getf hC dX5_crumbsInPurses_6 kf_X5_28 hR.go rfl ?_
      refine m_icmp_ge (tgt := 27) hC dX5_crumbsInPurses_9 (by decide) (by first | omega | (simp [hs_at] <;> omega)) (fun c1 => ?_) (fun c1 => ?_)
      · refine m_iload_n hC 1 dX5_crumbsInPurses_27 rfl rfl ?_
        exact m_iret hC dX5_crumbsInPurses_28 hr (by decide) (by decide) (⟨by rw [ha]; congr 2; congr 1; congr 1; omega, rfl⟩)
      · refine m_iload_n hC 1 dX5_crumbsInPurses_12 rfl rfl ?_
        refine m_aload_n hC 2 dX5_crumbsInPurses_13 rfl rfl ?_
        refine m_getf hC dX5_crumbsInPurses_14 kf_X5_15 hR.go rfl ?_
        refine m_iload_n hC 0 dX5_crumbsInPurses_17 rfl rfl ?_
        refine m_ld5 hC hR dX5_crumbsInPurses_18 (by first | omega | (simp [hs_at] <;> omega)) (by first | omega | (simp [hs_at] <;> omega)) ?_
        refine m_iadd hC dX5_crumbsInPurses_19 ?_
        refine m_istore_n hC dX5_crumbsInPurses_20 rfl (by decide) rfl ?_
        refine m_iinc hC 1 dX5_crumbsInPurses_21 rfl (by decide) rfl ?_
        refine m_goto (tgt := 4) hC dX5_crumbsInPurses_24 (by decide) ?_
        refine m_lvs [0, 1, 2] rfl (ih (i + 1) _ (by omega) (by omega) (by omega) ?_)
        rw [h_sum_succ _ h0]
        try dsimp only
        first | omega | (split <;> omega)
  refine m_lvs [0, 1, 2] rfl (L ((g 0 9 - 0).toNat + 1) 0 0 (by omega) (by omega) (by omega) rfl)

set_option maxHeartbeats 4000000 in
set_option maxRecDepth 100000 in
theorem t_X5_anyCrumbsNegative {D : va_G} {aC : Nat → ClassId} {s0 : State} {l : Launch} (hF : m_F D aC s0) (hl : l.stackTraces = false) {b : Nat} {g : h_T} {M : m_M} (hR : hhR b g M) (hB : h_B g)   : m_Met D aC s0 l yX5_anyCrumbsNegative cX5_anyCrumbsNegative 2 (some .boolean) 0 (0) (0) [.ref (b + 5)] M (fun v M' => v = some (VI (0)) ∧ M' = M) m_nx := by
  refine m_entry (lv := [(0, .ref (b + 5))]) (by decide +kernel) (Nat.le_of_ble_eq_true rfl) rfl hF hl ?_
  intro p e s m args below meth c hC hr hno hnm
  change m_C D aC s0 RX5 _ _ _ _ _ _ _ _ _ at hC
  have hn9 := hB.n9
  refine m_iconst hC dX5_anyCrumbsNegative_0 ?_
  refine m_istore_n hC dX5_anyCrumbsNegative_1 rfl (by decide) rfl ?_
  have L : ∀ (n : Nat) (i : Int), g 0 9 - i < (n : Int) → 0 ≤ i → i ≤ g 0 9 → m_W D aC s0 2 p l e (m_R 0 (0) (0)) s m args below meth c (0) (0) (m_Q D aC s0 below (fun v M' => v = some (VI (0)) ∧ M' = M) m_nx args s (0) (0)) 2 [(1, VI i), (0, .ref (b + 5))] [] M := by
    intro n
    induction n with
    | zero =>
      intro i hn h0 h1
      omega
    | succ n ih =>
      intro i hn h0 h1
      refine m_iload_n hC 0 dX5_anyCrumbsNegative_2 rfl rfl ?_
      refine m_aload_n hC 1 dX5_anyCrumbsNegative_3 rfl rfl ?_
      refine m_getf hC dX5_anyCrumbsNegative_4 kf_X5_28 hR.go rfl ?_
      refine m_icmp_ge (tgt := 36) hC dX5_anyCrumbsNegative_7 (by decide) (by first | omega | (simp [hs_at] <;> omega)) (fun c1 => ?_) (fun c1 => ?_)
      · refine m_iconst hC dX5_anyCrumbsNegative_36 ?_
        exact m_zret hC dX5_anyCrumbsNegative_37 hr (by rfl) (by decide) (by decide) (⟨rfl, rfl⟩)
      · have hgo := hB.go (i := i) (by omega)
        refine m_aload_n hC 1 dX5_anyCrumbsNegative_10 rfl rfl ?_
        refine m_getf hC dX5_anyCrumbsNegative_11 kf_X5_15 hR.go rfl ?_
        refine m_iload_n hC 0 dX5_anyCrumbsNegative_14 rfl rfl ?_
        refine m_ld5 hC hR dX5_anyCrumbsNegative_15 (by first | omega | (simp [hs_at] <;> omega)) (by first | omega | (simp [hs_at] <;> omega)) ?_
        refine m_if_lt (tgt := 28) hC dX5_anyCrumbsNegative_16 (by decide) (by first | omega | (simp [hs_at] <;> omega)) (fun c2 => ?_) (fun c2 => ?_)
        · refine m_iconst hC dX5_anyCrumbsNegative_28 ?_
          exact m_zret hC dX5_anyCrumbsNegative_29 hr (by rfl) (by decide) (by decide) (absurd trivial (by omega))
        · refine m_aload_n hC 1 dX5_anyCrumbsNegative_19 rfl rfl ?_
          refine m_getf hC dX5_anyCrumbsNegative_20 kf_X5_18 hR.go rfl ?_
          refine m_iload_n hC 0 dX5_anyCrumbsNegative_23 rfl rfl ?_
          refine m_ld6 hC hR dX5_anyCrumbsNegative_24 (by first | omega | (simp [hs_at] <;> omega)) (by first | omega | (simp [hs_at] <;> omega)) ?_
          refine m_if_ge (tgt := 30) hC dX5_anyCrumbsNegative_25 (by decide) (by first | omega | (simp [hs_at] <;> omega)) (fun c3 => ?_) (fun c3 => ?_)
          · refine m_iinc hC 0 dX5_anyCrumbsNegative_30 rfl (by decide) rfl ?_
            refine m_goto (tgt := 2) hC dX5_anyCrumbsNegative_33 (by decide) ?_
            refine m_lvs [0, 1] rfl (ih (i + 1) (by omega) (by omega) (by omega))
          · refine m_iconst hC dX5_anyCrumbsNegative_28 ?_
            exact m_zret hC dX5_anyCrumbsNegative_29 hr (by rfl) (by decide) (by decide) (absurd trivial (by omega))
  refine m_lvs [0, 1] rfl (L ((g 0 9 - 0).toNat + 1) 0 (by omega) (by omega) (by omega))

set_option maxHeartbeats 4000000 in
set_option maxRecDepth 100000 in
theorem t_X5_isWealthier {D : va_G} {aC : Nat → ClassId} {s0 : State} {l : Launch} (hF : m_F D aC s0) (hl : l.stackTraces = false) {b : Nat} {g : h_T} {M : m_M} (hR : hhR b g M) (hB : h_B g) {x : Int} {y : Int} (hx : 0 ≤ x ∧ x < g 0 9) (hy : 0 ≤ y ∧ y < g 0 9) : m_Met D aC s0 l yX5_isWealthier cX5_isWealthier 5 (some .boolean) 0 (0) (0) [.ref (b + 5), VI x, VI y] M (fun v M' => v = some (VI (if S_ahead g x y = true then 1 else 0)) ∧ M' = M) m_nx := by
  refine m_entry (lv := [(0, .ref (b + 5)), (1, VI x), (2, VI y)]) (by decide +kernel) (Nat.le_of_ble_eq_true rfl) rfl hF hl ?_
  intro p e s m args below meth c hC hr hno hnm
  change m_C D aC s0 RX5 _ _ _ _ _ _ _ _ _ at hC
  have hn := hB.n9
  have gx := hB.go hx
  have gy := hB.go hy
  refine m_aload_n hC 0 dX5_isWealthier_0 rfl rfl ?_
  refine m_getf hC dX5_isWealthier_1 kf_X5_15 hR.go rfl ?_
  refine m_iload_n hC 1 dX5_isWealthier_4 rfl rfl ?_
  refine m_ld5 hC hR dX5_isWealthier_5 (by first | omega | (simp [hs_at] <;> omega)) (by first | omega | (simp [hs_at] <;> omega)) ?_
  refine m_aload_n hC 0 dX5_isWealthier_6 rfl rfl ?_
  refine m_getf hC dX5_isWealthier_7 kf_X5_18 hR.go rfl ?_
  refine m_iload_n hC 1 dX5_isWealthier_10 rfl rfl ?_
  refine m_ld6 hC hR dX5_isWealthier_11 (by first | omega | (simp [hs_at] <;> omega)) (by first | omega | (simp [hs_at] <;> omega)) ?_
  refine m_isub hC dX5_isWealthier_12 ?_
  refine m_istore_n hC dX5_isWealthier_13 rfl (by decide) rfl ?_
  refine m_aload_n hC 1 dX5_isWealthier_14 rfl rfl ?_
  refine m_getf hC dX5_isWealthier_15 kf_X5_15 hR.go rfl ?_
  refine m_iload_n hC 3 dX5_isWealthier_18 rfl rfl ?_
  refine m_ld5 hC hR dX5_isWealthier_19 (by first | omega | (simp [hs_at] <;> omega)) (by first | omega | (simp [hs_at] <;> omega)) ?_
  refine m_aload_n hC 1 dX5_isWealthier_20 rfl rfl ?_
  refine m_getf hC dX5_isWealthier_21 kf_X5_18 hR.go rfl ?_
  refine m_iload_n hC 3 dX5_isWealthier_24 rfl rfl ?_
  refine m_ld6 hC hR dX5_isWealthier_25 (by first | omega | (simp [hs_at] <;> omega)) (by first | omega | (simp [hs_at] <;> omega)) ?_
  refine m_isub hC dX5_isWealthier_26 ?_
  refine m_istore hC dX5_isWealthier_27 (by decide) rfl ?_
  refine m_iload_n hC 1 dX5_isWealthier_29 rfl rfl ?_
  refine m_iload hC 0 dX5_isWealthier_30 rfl ?_
  refine m_icmp_eq (tgt := 47) hC dX5_isWealthier_32 (by decide) (by first | omega | (simp [hs_at] <;> omega)) (fun c1 => ?_) (fun c1 => ?_)
  · refine m_aload_n hC 2 dX5_isWealthier_47 rfl rfl ?_
    refine m_getf hC dX5_isWealthier_48 kf_X5_9 hR.go rfl ?_
    refine m_iload_n hC 3 dX5_isWealthier_51 rfl rfl ?_
    refine m_ld4 hC hR dX5_isWealthier_52 (by first | omega | (simp [hs_at] <;> omega)) (by first | omega | (simp [hs_at] <;> omega)) ?_
    refine m_aload_n hC 2 dX5_isWealthier_53 rfl rfl ?_
    refine m_getf hC dX5_isWealthier_54 kf_X5_9 hR.go rfl ?_
    refine m_iload_n hC 4 dX5_isWealthier_57 rfl rfl ?_
    refine m_ld4 hC hR dX5_isWealthier_58 (by first | omega | (simp [hs_at] <;> omega)) (by first | omega | (simp [hs_at] <;> omega)) ?_
    refine m_icmp_eq (tgt := 83) hC dX5_isWealthier_59 (by decide) (by first | omega | (simp [hs_at] <;> omega)) (fun c2 => ?_) (fun c2 => ?_)
    · refine m_iload_n hC 3 dX5_isWealthier_83 rfl rfl ?_
      refine m_iload_n hC 4 dX5_isWealthier_84 rfl rfl ?_
      refine m_icmp_ge (tgt := 92) hC dX5_isWealthier_85 (by decide) (by first | omega | (simp [hs_at] <;> omega)) (fun c3 => ?_) (fun c3 => ?_)
      · refine m_iconst hC dX5_isWealthier_92 ?_
        exact m_zret hC dX5_isWealthier_93 hr (by rfl) (by decide) (by decide) (⟨by unfold S_ahead; first | (rw [if_pos (by rw [decide_eq_true_eq]; omega)]) | (rw [if_neg (by rw [decide_eq_true_eq]; omega)]), rfl⟩)
      · refine m_iconst hC dX5_isWealthier_88 ?_
        refine m_goto (tgt := 93) hC dX5_isWealthier_89 (by decide) ?_
        exact m_zret hC dX5_isWealthier_93 hr (by rfl) (by decide) (by decide) (⟨by unfold S_ahead; first | (rw [if_pos (by rw [decide_eq_true_eq]; omega)]) | (rw [if_neg (by rw [decide_eq_true_eq]; omega)]), rfl⟩)
    · refine m_aload_n hC 2 dX5_isWealthier_62 rfl rfl ?_
      refine m_getf hC dX5_isWealthier_63 kf_X5_9 hR.go rfl ?_
      refine m_iload_n hC 3 dX5_isWealthier_66 rfl rfl ?_
      refine m_ld4 hC hR dX5_isWealthier_67 (by first | omega | (simp [hs_at] <;> omega)) (by first | omega | (simp [hs_at] <;> omega)) ?_
      refine m_aload_n hC 2 dX5_isWealthier_68 rfl rfl ?_
      refine m_getf hC dX5_isWealthier_69 kf_X5_9 hR.go rfl ?_
      refine m_iload_n hC 4 dX5_isWealthier_72 rfl rfl ?_
      refine m_ld4 hC hR dX5_isWealthier_73 (by first | omega | (simp [hs_at] <;> omega)) (by first | omega | (simp [hs_at] <;> omega)) ?_
      refine m_icmp_le (tgt := 81) hC dX5_isWealthier_74 (by decide) (by first | omega | (simp [hs_at] <;> omega)) (fun c4 => ?_) (fun c4 => ?_)
      · refine m_iconst hC dX5_isWealthier_81 ?_
        exact m_zret hC dX5_isWealthier_82 hr (by rfl) (by decide) (by decide) (⟨by unfold S_ahead; first | (rw [if_pos (by rw [decide_eq_true_eq]; omega)]) | (rw [if_neg (by rw [decide_eq_true_eq]; omega)]), rfl⟩)
      · refine m_iconst hC dX5_isWealthier_77 ?_
        refine m_goto (tgt := 82) hC dX5_isWealthier_78 (by decide) ?_
        exact m_zret hC dX5_isWealthier_82 hr (by rfl) (by decide) (by decide) (⟨by unfold S_ahead; first | (rw [if_pos (by rw [decide_eq_true_eq]; omega)]) | (rw [if_neg (by rw [decide_eq_true_eq]; omega)]), rfl⟩)
  · refine m_iload_n hC 1 dX5_isWealthier_35 rfl rfl ?_
    refine m_iload hC 0 dX5_isWealthier_36 rfl ?_
    refine m_icmp_le (tgt := 45) hC dX5_isWealthier_38 (by decide) (by first | omega | (simp [hs_at] <;> omega)) (fun c5 => ?_) (fun c5 => ?_)
    · refine m_iconst hC dX5_isWealthier_45 ?_
      exact m_zret hC dX5_isWealthier_46 hr (by rfl) (by decide) (by decide) (⟨by unfold S_ahead; first | (rw [if_pos (by rw [decide_eq_true_eq]; omega)]) | (rw [if_neg (by rw [decide_eq_true_eq]; omega)]), rfl⟩)
    · refine m_iconst hC dX5_isWealthier_41 ?_
      refine m_goto (tgt := 46) hC dX5_isWealthier_42 (by decide) ?_
      exact m_zret hC dX5_isWealthier_46 hr (by rfl) (by decide) (by decide) (⟨by unfold S_ahead; first | (rw [if_pos (by rw [decide_eq_true_eq]; omega)]) | (rw [if_neg (by rw [decide_eq_true_eq]; omega)]), rfl⟩)

set_option maxHeartbeats 4000000 in
set_option maxRecDepth 100000 in
theorem t_X5_rankByWealth {D : va_G} {aC : Nat → ClassId} {s0 : State} {l : Launch} (hF : m_F D aC s0) (hl : l.stackTraces = false) {b : Nat} {g : h_T} {M : m_M} (hR : hhR b g M) (hB : h_B g) {x : Int} (hx : 0 ≤ x ∧ x < g 0 9) : m_Met D aC s0 l yX5_rankByWealth cX5_rankByWealth 4 (some .int) 1 (0) (0) [.ref (b + 5), VI x] M (fun v M' => v = some (VI (S_rwealth g x)) ∧ M' = M) m_nx := by
  refine m_entry (lv := [(0, .ref (b + 5)), (1, VI x)]) (by decide +kernel) (Nat.le_of_ble_eq_true rfl) rfl hF hl ?_
  intro p e s m args below meth c hC hr hno hnm
  change m_C D aC s0 RX5 _ _ _ _ _ _ _ _ _ at hC
  have hn9 := hB.n9
  refine m_iconst hC dX5_rankByWealth_0 ?_
  refine m_istore_n hC dX5_rankByWealth_1 rfl (by decide) rfl ?_
  refine m_iconst hC dX5_rankByWealth_2 ?_
  refine m_istore_n hC dX5_rankByWealth_3 rfl (by decide) rfl ?_
  have L : ∀ (n : Nat) (i a : Int), g 0 9 - i < (n : Int) → 0 ≤ i → i ≤ g 0 9 → a = h_sum (fun o => if S_ahead g o x = true then (1 : Int) else 0) i.toNat → m_W D aC s0 4 p l e (m_R 1 (0) (0)) s m args below meth c (0) (0) (m_Q D aC s0 below (fun v M' => v = some (VI (S_rwealth g x)) ∧ M' = M) m_nx args s (0) (0)) 4 [(3, VI i), (2, VI a), (1, VI x), (0, .ref (b + 5))] [] M := by
    intro n
    induction n with
    | zero =>
      intro i a hn h0 h1 ha
      omega
    | succ n ih =>
      intro i a hn h0 h1 ha
      refine m_iload_n hC 0 dX5_rankByWealth_4 rfl rfl ?_
      refine m_aload_n hC 3 dX5_rankByWealth_5 rfl rfl ?_
      refine m_getf hC dX5_rankByWealth_6 kf_X5_28 hR.go rfl ?_
      refine m_icmp_ge (tgt := 30) hC dX5_rankByWealth_9 (by decide) (by first | omega | (simp [hs_at] <;> omega)) (fun c1 => ?_) (fun c1 => ?_)
      · refine m_iload_n hC 1 dX5_rankByWealth_30 rfl rfl ?_
        exact m_iret hC dX5_rankByWealth_31 hr (by decide) (by decide) (⟨by rw [ha]; congr 2; congr 1; congr 1; omega, rfl⟩)
      · have hs := h_sum_bd (f := fun o => if S_ahead g o x = true then (1 : Int) else 0) (B := 1) (n := i) (by omega) (fun j hj => by split <;> omega)
        refine m_aload_n hC 3 dX5_rankByWealth_12 rfl rfl ?_
        refine m_iload_n hC 0 dX5_rankByWealth_13 rfl rfl ?_
        refine m_iload_n hC 2 dX5_rankByWealth_14 rfl rfl ?_
        refine m_callV hC (t_X5_isWealthier hF hl hR hB (x := i) (y := x) (by omega) hx) dX5_rankByWealth_15 kc_X5_isWealthier kV_X5_32 hR.go rfl rfl rfl rfl (Nat.le_of_ble_eq_true rfl) (by decide) (by decide) m_nox (fun v9 M2 h9 => ?_)
        obtain ⟨rfl, rfl⟩ := h9
        refine m_if_eq (tgt := 24) hC dX5_rankByWealth_18 (by decide) (by split <;> omega) (fun cw => ?_) (fun cw => ?_)
        · refine m_iinc hC 0 dX5_rankByWealth_24 rfl (by decide) rfl ?_
          refine m_goto (tgt := 4) hC dX5_rankByWealth_27 (by decide) ?_
          refine m_lvs [0, 1, 2, 3] rfl (ih (i + 1) _ (by omega) (by omega) (by omega) ?_)
          rw [h_sum_succ _ h0]
          try dsimp only
          split at cw <;> split <;> first | omega | contradiction
        · refine m_iinc hC 1 dX5_rankByWealth_21 rfl (by decide) rfl ?_
          refine m_iinc hC 1 dX5_rankByWealth_24 rfl (by decide) rfl ?_
          refine m_goto (tgt := 4) hC dX5_rankByWealth_27 (by decide) ?_
          refine m_lvs [0, 1, 2, 3] rfl (ih (i + 1) _ (by omega) (by omega) (by omega) ?_)
          rw [h_sum_succ _ h0]
          try dsimp only
          split at cw <;> split <;> first | omega | contradiction
  refine m_lvs [0, 1, 3, 2] rfl (L ((g 0 9 - 0).toNat + 1) 0 0 (by omega) (by omega) (by omega) rfl)

set_option maxHeartbeats 4000000 in
set_option maxRecDepth 100000 in
theorem t_X3_positionOf {D : va_G} {aC : Nat → ClassId} {s0 : State} {l : Launch} (hF : m_F D aC s0) (hl : l.stackTraces = false) {b : Nat} {g : h_T} {M : m_M} (hR : hhR b g M) (hB : h_B g) {x : Int} (hx : -2147483648 ≤ x ∧ x < 2147483648) : m_Met D aC s0 l yX3_positionOf cX3_positionOf 3 (some .int) 0 (0) (0) [.ref (b + 11), VI x] M (fun v M' => v = some (VI (S_pos g x)) ∧ M' = M) m_nx := by
  refine m_entry (lv := [(0, .ref (b + 11)), (1, VI x)]) (by decide +kernel) (Nat.le_of_ble_eq_true rfl) rfl hF hl ?_
  intro p e s m args below meth c hC hr hno hnm
  change m_C D aC s0 RX3 _ _ _ _ _ _ _ _ _ at hC
  have hn11 := hB.n11
  refine m_iconst hC dX3_positionOf_0 ?_
  refine m_istore_n hC dX3_positionOf_1 rfl (by decide) rfl ?_
  have L : ∀ (n : Nat) (i : Int), g 0 11 - i < (n : Int) → 0 ≤ i → i ≤ g 0 11 → h_find (fun i => decide (g 9 i = x)) (g 0 11).toNat 0 = h_find (fun i => decide (g 9 i = x)) (g 0 11 - i).toNat i → m_W D aC s0 3 p l e (m_R 0 (0) (0)) s m args below meth c (0) (0) (m_Q D aC s0 below (fun v M' => v = some (VI (S_pos g x)) ∧ M' = M) m_nx args s (0) (0)) 2 [(2, VI i), (1, VI x), (0, .ref (b + 11))] [] M := by
    intro n
    induction n with
    | zero =>
      intro i hn h0 h1 ha
      omega
    | succ n ih =>
      intro i hn h0 h1 ha
      refine m_iload_n hC 0 dX3_positionOf_2 rfl rfl ?_
      refine m_aload_n hC 2 dX3_positionOf_3 rfl rfl ?_
      refine m_getf hC dX3_positionOf_4 kf_X3_27 hR.co rfl ?_
      refine m_icmp_ge (tgt := 28) hC dX3_positionOf_7 (by decide) (by first | omega | (simp [hs_at] <;> omega)) (fun c1 => ?_) (fun c1 => ?_)
      · refine m_iconst hC dX3_positionOf_28 ?_
        exact m_iret hC dX3_positionOf_29 hr (by decide) (by decide) (⟨by unfold S_pos; rw [ha, h_find_0 (by omega)], rfl⟩)
      · have hco := hB.co (i := i) (by omega)
        refine m_aload_n hC 2 dX3_positionOf_10 rfl rfl ?_
        refine m_getf hC dX3_positionOf_11 kf_X3_9 hR.co rfl ?_
        refine m_iload_n hC 0 dX3_positionOf_14 rfl rfl ?_
        refine m_ld9 hC hR dX3_positionOf_15 (by first | omega | (simp [hs_at] <;> omega)) (by first | omega | (simp [hs_at] <;> omega)) ?_
        refine m_iload_n hC 1 dX3_positionOf_16 rfl rfl ?_
        refine m_icmp_ne (tgt := 22) hC dX3_positionOf_17 (by decide) (by first | omega | (simp [hs_at] <;> omega)) (fun c2 => ?_) (fun c2 => ?_)
        · refine m_iinc hC 0 dX3_positionOf_22 rfl (by decide) rfl ?_
          refine m_goto (tgt := 2) hC dX3_positionOf_25 (by decide) ?_
          refine m_lvs [0, 1, 2] rfl (ih (i + 1) (by omega) (by omega) (by omega) ?_)
          rw [ha, h_find_f (by omega) (by simp only [decide_eq_false_iff_not]; omega)]
          congr 2; omega
        · refine m_iload_n hC 0 dX3_positionOf_20 rfl rfl ?_
          exact m_iret hC dX3_positionOf_21 hr (by decide) (by decide) (⟨by unfold S_pos; rw [ha, h_find_t (by omega) (by simp only [decide_eq_true_eq]; omega)], rfl⟩)
  refine m_lvs [0, 2, 1] rfl (L ((g 0 11 - 0).toNat + 1) 0 (by omega) (by omega) (by omega) (by rw [Int.sub_zero]))

set_option maxHeartbeats 4000000 in
set_option maxRecDepth 100000 in
theorem t_X3_firstOf {D : va_G} {aC : Nat → ClassId} {s0 : State} {l : Launch} (hF : m_F D aC s0) (hl : l.stackTraces = false) {b : Nat} {g : h_T} {M : m_M} (hR : hhR b g M) (hB : h_B g) {x : Int} (hx : -2147483648 ≤ x ∧ x < 2147483648) : m_Met D aC s0 l yX3_firstOf cX3_firstOf 3 (some .int) 0 (0) (0) [.ref (b + 11), VI x] M (fun v M' => v = some (VI (S_first g x)) ∧ M' = M) m_nx := by
  refine m_entry (lv := [(0, .ref (b + 11)), (1, VI x)]) (by decide +kernel) (Nat.le_of_ble_eq_true rfl) rfl hF hl ?_
  intro p e s m args below meth c hC hr hno hnm
  change m_C D aC s0 RX3 _ _ _ _ _ _ _ _ _ at hC
  have hn11 := hB.n11
  refine m_iconst hC dX3_firstOf_0 ?_
  refine m_istore_n hC dX3_firstOf_1 rfl (by decide) rfl ?_
  have L : ∀ (n : Nat) (i : Int), g 0 11 - i < (n : Int) → 0 ≤ i → i ≤ g 0 11 → h_find (fun i => decide (g 10 i = x)) (g 0 11).toNat 0 = h_find (fun i => decide (g 10 i = x)) (g 0 11 - i).toNat i → m_W D aC s0 3 p l e (m_R 0 (0) (0)) s m args below meth c (0) (0) (m_Q D aC s0 below (fun v M' => v = some (VI (S_first g x)) ∧ M' = M) m_nx args s (0) (0)) 2 [(2, VI i), (1, VI x), (0, .ref (b + 11))] [] M := by
    intro n
    induction n with
    | zero =>
      intro i hn h0 h1 ha
      omega
    | succ n ih =>
      intro i hn h0 h1 ha
      refine m_iload_n hC 0 dX3_firstOf_2 rfl rfl ?_
      refine m_aload_n hC 2 dX3_firstOf_3 rfl rfl ?_
      refine m_getf hC dX3_firstOf_4 kf_X3_27 hR.co rfl ?_
      refine m_icmp_ge (tgt := 28) hC dX3_firstOf_7 (by decide) (by first | omega | (simp [hs_at] <;> omega)) (fun c1 => ?_) (fun c1 => ?_)
      · refine m_iconst hC dX3_firstOf_28 ?_
        exact m_iret hC dX3_firstOf_29 hr (by decide) (by decide) (⟨by unfold S_first; rw [ha, h_find_0 (by omega)], rfl⟩)
      · have hco := hB.co (i := i) (by omega)
        have hn9 := hB.n9
        refine m_aload_n hC 2 dX3_firstOf_10 rfl rfl ?_
        refine m_getf hC dX3_firstOf_11 kf_X3_15 hR.co rfl ?_
        refine m_iload_n hC 0 dX3_firstOf_14 rfl rfl ?_
        refine m_ld10 hC hR dX3_firstOf_15 (by first | omega | (simp [hs_at] <;> omega)) (by first | omega | (simp [hs_at] <;> omega)) ?_
        refine m_iload_n hC 1 dX3_firstOf_16 rfl rfl ?_
        refine m_icmp_ne (tgt := 22) hC dX3_firstOf_17 (by decide) (by first | omega | (simp [hs_at] <;> omega)) (fun c2 => ?_) (fun c2 => ?_)
        · refine m_iinc hC 0 dX3_firstOf_22 rfl (by decide) rfl ?_
          refine m_goto (tgt := 2) hC dX3_firstOf_25 (by decide) ?_
          refine m_lvs [0, 1, 2] rfl (ih (i + 1) (by omega) (by omega) (by omega) ?_)
          rw [ha, h_find_f (by omega) (by simp only [decide_eq_false_iff_not]; omega)]
          congr 2; omega
        · refine m_iload_n hC 0 dX3_firstOf_20 rfl rfl ?_
          exact m_iret hC dX3_firstOf_21 hr (by decide) (by decide) (⟨by unfold S_first; rw [ha, h_find_t (by omega) (by simp only [decide_eq_true_eq]; omega)], rfl⟩)
  refine m_lvs [0, 2, 1] rfl (L ((g 0 11 - 0).toNat + 1) 0 (by omega) (by omega) (by omega) (by rw [Int.sub_zero]))

set_option maxHeartbeats 4000000 in
set_option maxRecDepth 100000 in
theorem t_X3_areFor {D : va_G} {aC : Nat → ClassId} {s0 : State} {l : Launch} (hF : m_F D aC s0) (hl : l.stackTraces = false) {b : Nat} {g : h_T} {M : m_M} (hR : hhR b g M) (hB : h_B g) {x : Int} {y : Int} (hx : -2147483648 ≤ x ∧ x < 2147483648) (hy : -2147483648 ≤ y ∧ y < 2147483648) : m_Met D aC s0 l yX3_areFor cX3_areFor 4 (some .boolean) 0 (0) (0) [.ref (b + 11), VI x, VI y] M (fun v M' => v = some (VI (if S_has g x y = true then 1 else 0)) ∧ M' = M) m_nx := by
  refine m_entry (lv := [(0, .ref (b + 11)), (1, VI x), (2, VI y)]) (by decide +kernel) (Nat.le_of_ble_eq_true rfl) rfl hF hl ?_
  intro p e s m args below meth c hC hr hno hnm
  change m_C D aC s0 RX3 _ _ _ _ _ _ _ _ _ at hC
  have hn11 := hB.n11
  refine m_iconst hC dX3_areFor_0 ?_
  refine m_istore_n hC dX3_areFor_1 rfl (by decide) rfl ?_
  have L : ∀ (n : Nat) (i : Int), g 0 11 - i < (n : Int) → 0 ≤ i → i ≤ g 0 11 → h_find (fun i => decide (g 10 i = x ∧ g 11 i = y)) (g 0 11).toNat 0 = h_find (fun i => decide (g 10 i = x ∧ g 11 i = y)) (g 0 11 - i).toNat i → m_W D aC s0 4 p l e (m_R 0 (0) (0)) s m args below meth c (0) (0) (m_Q D aC s0 below (fun v M' => v = some (VI (if S_has g x y = true then 1 else 0)) ∧ M' = M) m_nx args s (0) (0)) 2 [(3, VI i), (1, VI x), (2, VI y), (0, .ref (b + 11))] [] M := by
    intro n
    induction n with
    | zero =>
      intro i hn h0 h1 ha
      omega
    | succ n ih =>
      intro i hn h0 h1 ha
      refine m_iload_n hC 0 dX3_areFor_2 rfl rfl ?_
      refine m_aload_n hC 3 dX3_areFor_3 rfl rfl ?_
      refine m_getf hC dX3_areFor_4 kf_X3_27 hR.co rfl ?_
      refine m_icmp_ge (tgt := 38) hC dX3_areFor_7 (by decide) (by first | omega | (simp [hs_at] <;> omega)) (fun c1 => ?_) (fun c1 => ?_)
      · refine m_iconst hC dX3_areFor_38 ?_
        exact m_zret hC dX3_areFor_39 hr (by rfl) (by decide) (by decide) (⟨by unfold S_has; rw [ha, h_find_0 (by omega), if_neg (by decide)], rfl⟩)
      · have hco := hB.co (i := i) (by omega)
        have hn9 := hB.n9
        refine m_aload_n hC 3 dX3_areFor_10 rfl rfl ?_
        refine m_getf hC dX3_areFor_11 kf_X3_15 hR.co rfl ?_
        refine m_iload_n hC 0 dX3_areFor_14 rfl rfl ?_
        refine m_ld10 hC hR dX3_areFor_15 (by first | omega | (simp [hs_at] <;> omega)) (by first | omega | (simp [hs_at] <;> omega)) ?_
        refine m_iload_n hC 1 dX3_areFor_16 rfl rfl ?_
        refine m_icmp_ne (tgt := 32) hC dX3_areFor_17 (by decide) (by first | omega | (simp [hs_at] <;> omega)) (fun c2 => ?_) (fun c2 => ?_)
        · refine m_iinc hC 0 dX3_areFor_32 rfl (by decide) rfl ?_
          refine m_goto (tgt := 2) hC dX3_areFor_35 (by decide) ?_
          refine m_lvs [0, 1, 2, 3] rfl (ih (i + 1) (by omega) (by omega) (by omega) ?_)
          rw [ha, h_find_f (by omega) (by simp only [decide_eq_false_iff_not]; omega)]
          congr 2; omega
        · refine m_aload_n hC 3 dX3_areFor_20 rfl rfl ?_
          refine m_getf hC dX3_areFor_21 kf_X3_18 hR.co rfl ?_
          refine m_iload_n hC 0 dX3_areFor_24 rfl rfl ?_
          refine m_ld11 hC hR dX3_areFor_25 (by first | omega | (simp [hs_at] <;> omega)) (by first | omega | (simp [hs_at] <;> omega)) ?_
          refine m_iload_n hC 2 dX3_areFor_26 rfl rfl ?_
          refine m_icmp_ne (tgt := 32) hC dX3_areFor_27 (by decide) (by first | omega | (simp [hs_at] <;> omega)) (fun c3 => ?_) (fun c3 => ?_)
          · refine m_iinc hC 0 dX3_areFor_32 rfl (by decide) rfl ?_
            refine m_goto (tgt := 2) hC dX3_areFor_35 (by decide) ?_
            refine m_lvs [0, 1, 2, 3] rfl (ih (i + 1) (by omega) (by omega) (by omega) ?_)
            rw [ha, h_find_f (by omega) (by simp only [decide_eq_false_iff_not]; omega)]
            congr 2; omega
          · refine m_iconst hC dX3_areFor_30 ?_
            exact m_zret hC dX3_areFor_31 hr (by rfl) (by decide) (by decide) (⟨by unfold S_has; rw [ha, h_find_t (by omega) (by simp only [decide_eq_true_eq]; omega), if_pos (by rw [decide_eq_true_eq]; omega)], rfl⟩)
  refine m_lvs [0, 2, 3, 1] rfl (L ((g 0 11 - 0).toNat + 1) 0 (by omega) (by omega) (by omega) (by rw [Int.sub_zero]))

set_option maxHeartbeats 4000000 in
set_option maxRecDepth 100000 in
theorem t_X3_anyTwiceForARoom {D : va_G} {aC : Nat → ClassId} {s0 : State} {l : Launch} (hF : m_F D aC s0) (hl : l.stackTraces = false) {b : Nat} {g : h_T} {M : m_M} (hR : hhR b g M) (hB : h_B g)  (hd : ∀ i k : Int, 0 ≤ i → i < k → k < g 0 11 → ¬ (g 10 i = g 10 k ∧ g 11 i = g 11 k)) : m_Met D aC s0 l yX3_anyTwiceForARoom cX3_anyTwiceForARoom 3 (some .boolean) 0 (0) (0) [.ref (b + 11)] M (fun v M' => v = some (VI (0)) ∧ M' = M) m_nx := by
  refine m_entry (lv := [(0, .ref (b + 11))]) (by decide +kernel) (Nat.le_of_ble_eq_true rfl) rfl hF hl ?_
  intro p e s m args below meth c hC hr hno hnm
  change m_C D aC s0 RX3 _ _ _ _ _ _ _ _ _ at hC
  have hn11 := hB.n11
  refine m_iconst hC dX3_anyTwiceForARoom_0 ?_
  refine m_istore_n hC dX3_anyTwiceForARoom_1 rfl (by decide) rfl ?_
  have L : ∀ (n : Nat) (i : Int), g 0 11 - i < (n : Int) → 0 ≤ i → i ≤ g 0 11 → m_W D aC s0 3 p l e (m_R 0 (0) (0)) s m args below meth c (0) (0) (m_Q D aC s0 below (fun v M' => v = some (VI (0)) ∧ M' = M) m_nx args s (0) (0)) 2 [(1, VI i), (0, .ref (b + 11))] [] M := by
    intro n
    induction n with
    | zero =>
      intro i hn h0 h1
      omega
    | succ n ih =>
      intro i hn h0 h1
      refine m_iload_n hC 0 dX3_anyTwiceForARoom_2 rfl rfl ?_
      refine m_aload_n hC 1 dX3_anyTwiceForARoom_3 rfl rfl ?_
      refine m_getf hC dX3_anyTwiceForARoom_4 kf_X3_27 hR.co rfl ?_
      refine m_icmp_ge (tgt := 66) hC dX3_anyTwiceForARoom_7 (by decide) (by first | omega | (simp [hs_at] <;> omega)) (fun c1 => ?_) (fun c1 => ?_)
      · refine m_iconst hC dX3_anyTwiceForARoom_66 ?_
        exact m_zret hC dX3_anyTwiceForARoom_67 hr (by rfl) (by decide) (by decide) (⟨rfl, rfl⟩)
      · refine m_iload_n hC 0 dX3_anyTwiceForARoom_10 rfl rfl ?_
        refine m_iconst hC dX3_anyTwiceForARoom_11 ?_
        refine m_iadd hC dX3_anyTwiceForARoom_12 ?_
        refine m_istore_n hC dX3_anyTwiceForARoom_13 rfl (by decide) rfl ?_
        have L2 : ∀ (n2 : Nat) (k : Int), g 0 11 - k < (n2 : Int) → i < k → k ≤ g 0 11 → m_W D aC s0 3 p l e (m_R 0 (0) (0)) s m args below meth c (0) (0) (m_Q D aC s0 below (fun v M' => v = some (VI (0)) ∧ M' = M) m_nx args s (0) (0)) 14 [(2, VI k), (1, VI i), (0, .ref (b + 11))] [] M := by
          intro n2
          induction n2 with
          | zero =>
            intro k hn2 k0 k1
            omega
          | succ n2 ih2 =>
            intro k hn2 k0 k1
            refine m_iload_n hC 0 dX3_anyTwiceForARoom_14 rfl rfl ?_
            refine m_aload_n hC 2 dX3_anyTwiceForARoom_15 rfl rfl ?_
            refine m_getf hC dX3_anyTwiceForARoom_16 kf_X3_27 hR.co rfl ?_
            refine m_icmp_ge (tgt := 60) hC dX3_anyTwiceForARoom_19 (by decide) (by first | omega | (simp [hs_at] <;> omega)) (fun c2 => ?_) (fun c2 => ?_)
            · refine m_iinc hC 1 dX3_anyTwiceForARoom_60 rfl (by decide) rfl ?_
              refine m_goto (tgt := 2) hC dX3_anyTwiceForARoom_63 (by decide) ?_
              refine m_lvs [0, 2] rfl (ih (i + 1) (by omega) (by omega) (by omega))
            · have hco := hB.co (i := i) (by omega)
              have hck := hB.co (i := k) (by omega)
              have hn9 := hB.n9
              refine m_aload_n hC 2 dX3_anyTwiceForARoom_22 rfl rfl ?_
              refine m_getf hC dX3_anyTwiceForARoom_23 kf_X3_15 hR.co rfl ?_
              refine m_iload_n hC 1 dX3_anyTwiceForARoom_26 rfl rfl ?_
              refine m_ld10 hC hR dX3_anyTwiceForARoom_27 (by first | omega | (simp [hs_at] <;> omega)) (by first | omega | (simp [hs_at] <;> omega)) ?_
              refine m_aload_n hC 2 dX3_anyTwiceForARoom_28 rfl rfl ?_
              refine m_getf hC dX3_anyTwiceForARoom_29 kf_X3_15 hR.co rfl ?_
              refine m_iload_n hC 0 dX3_anyTwiceForARoom_32 rfl rfl ?_
              refine m_ld10 hC hR dX3_anyTwiceForARoom_33 (by first | omega | (simp [hs_at] <;> omega)) (by first | omega | (simp [hs_at] <;> omega)) ?_
              refine m_icmp_ne (tgt := 54) hC dX3_anyTwiceForARoom_34 (by decide) (by first | omega | (simp [hs_at] <;> omega)) (fun c3 => ?_) (fun c3 => ?_)
              · refine m_iinc hC 0 dX3_anyTwiceForARoom_54 rfl (by decide) rfl ?_
                refine m_goto (tgt := 14) hC dX3_anyTwiceForARoom_57 (by decide) ?_
                refine m_lvs [0, 1, 2] rfl (ih2 (k + 1) (by omega) (by omega) (by omega))
              · refine m_aload_n hC 2 dX3_anyTwiceForARoom_37 rfl rfl ?_
                refine m_getf hC dX3_anyTwiceForARoom_38 kf_X3_18 hR.co rfl ?_
                refine m_iload_n hC 1 dX3_anyTwiceForARoom_41 rfl rfl ?_
                refine m_ld11 hC hR dX3_anyTwiceForARoom_42 (by first | omega | (simp [hs_at] <;> omega)) (by first | omega | (simp [hs_at] <;> omega)) ?_
                refine m_aload_n hC 2 dX3_anyTwiceForARoom_43 rfl rfl ?_
                refine m_getf hC dX3_anyTwiceForARoom_44 kf_X3_18 hR.co rfl ?_
                refine m_iload_n hC 0 dX3_anyTwiceForARoom_47 rfl rfl ?_
                refine m_ld11 hC hR dX3_anyTwiceForARoom_48 (by first | omega | (simp [hs_at] <;> omega)) (by first | omega | (simp [hs_at] <;> omega)) ?_
                refine m_icmp_ne (tgt := 54) hC dX3_anyTwiceForARoom_49 (by decide) (by first | omega | (simp [hs_at] <;> omega)) (fun c4 => ?_) (fun c4 => ?_)
                · refine m_iinc hC 0 dX3_anyTwiceForARoom_54 rfl (by decide) rfl ?_
                  refine m_goto (tgt := 14) hC dX3_anyTwiceForARoom_57 (by decide) ?_
                  refine m_lvs [0, 1, 2] rfl (ih2 (k + 1) (by omega) (by omega) (by omega))
                · refine m_iconst hC dX3_anyTwiceForARoom_52 ?_
                  exact m_zret hC dX3_anyTwiceForARoom_53 hr (by rfl) (by decide) (by decide) (absurd ⟨by omega, by omega⟩ (hd i k (by omega) (by omega) (by omega)))
        refine m_lvs [0, 1, 2] rfl (L2 ((g 0 11 - (i + 1)).toNat + 1) (i + 1) (by omega) (by omega) (by omega))
  refine m_lvs [0, 1] rfl (L ((g 0 11 - 0).toNat + 1) 0 (by omega) (by omega) (by omega))

set_option maxHeartbeats 4000000 in
set_option maxRecDepth 100000 in
theorem t_X7_rankByDust {D : va_G} {aC : Nat → ClassId} {s0 : State} {l : Launch} (hF : m_F D aC s0) (hl : l.stackTraces = false) {b : Nat} {g : h_T} {M : m_M} (hR : hhR b g M) (hB : h_B g) {x : Int} (hx : 0 ≤ x ∧ x < 6) : m_Met D aC s0 l yX7_rankByDust cX7_rankByDust 5 (some .int) 0 (0) (0) [.ref b, VI x] M (fun v M' => v = some (VI (S_rdust g x)) ∧ M' = M) m_nx := by
  refine m_entry (lv := [(0, .ref b), (1, VI x)]) (by decide +kernel) (Nat.le_of_ble_eq_true rfl) rfl hF hl ?_
  intro p e s m args below meth c hC hr hno hnm
  change m_C D aC s0 RX7 _ _ _ _ _ _ _ _ _ at hC
  refine m_iconst hC dX7_rankByDust_0 ?_
  refine m_istore_n hC dX7_rankByDust_1 rfl (by decide) rfl ?_
  refine m_iconst hC dX7_rankByDust_2 ?_
  refine m_istore_n hC dX7_rankByDust_3 rfl (by decide) rfl ?_
  have L : ∀ (n : Nat) (i a : Int), 6 - i < (n : Int) → 0 ≤ i → i ≤ 6 → a = h_sum (fun o => if g 1 o > g 1 x ∨ (g 1 o = g 1 x ∧ o < x) then (1 : Int) else 0) i.toNat → m_W D aC s0 5 p l e (m_R 0 (0) (0)) s m args below meth c (0) (0) (m_Q D aC s0 below (fun v M' => v = some (VI (S_rdust g x)) ∧ M' = M) m_nx args s (0) (0)) 4 [(3, VI i), (2, VI a), (1, VI x), (0, .ref b)] [] M := by
    intro n
    induction n with
    | zero =>
      intro i a hn h0 h1 ha
      omega
    | succ n ih =>
      intro i a hn h0 h1 ha
      refine m_iload_n hC 0 dX7_rankByDust_4 rfl rfl ?_
      refine m_bipush hC dX7_rankByDust_5 (by decide) ?_
      refine m_icmp_ge (tgt := 49) hC dX7_rankByDust_7 (by decide) (by first | omega | (simp [hs_at] <;> omega)) (fun c1 => ?_) (fun c1 => ?_)
      · refine m_iload_n hC 1 dX7_rankByDust_49 rfl rfl ?_
        exact m_iret hC dX7_rankByDust_50 hr (by decide) (by decide) (⟨by rw [ha]; congr 2; unfold S_rdust; congr 1; omega, rfl⟩)
      · have hdo := hB.du (i := i) (by omega)
        have hdx := hB.du hx
        have hs := h_sum_bd (f := (fun o => if g 1 o > g 1 x ∨ (g 1 o = g 1 x ∧ o < x) then (1 : Int) else 0)) (B := 1) (n := i) (by omega) (fun j hj => by split <;> omega)
        refine m_aload_n hC 3 dX7_rankByDust_10 rfl rfl ?_
        refine m_getf hC dX7_rankByDust_11 kf_X7_9 hR.ob rfl ?_
        refine m_iload_n hC 0 dX7_rankByDust_14 rfl rfl ?_
        refine m_ld1 hC hR dX7_rankByDust_15 (by first | omega | (simp [hs_at] <;> omega)) (by first | omega | (simp [hs_at] <;> omega)) ?_
        refine m_aload_n hC 3 dX7_rankByDust_16 rfl rfl ?_
        refine m_getf hC dX7_rankByDust_17 kf_X7_9 hR.ob rfl ?_
        refine m_iload_n hC 2 dX7_rankByDust_20 rfl rfl ?_
        refine m_ld1 hC hR dX7_rankByDust_21 (by first | omega | (simp [hs_at] <;> omega)) (by first | omega | (simp [hs_at] <;> omega)) ?_
        refine m_isub hC dX7_rankByDust_22 ?_
        refine m_istore hC dX7_rankByDust_23 (by decide) rfl ?_
        refine m_iload hC 0 dX7_rankByDust_25 rfl ?_
        refine m_if_gt (tgt := 40) hC dX7_rankByDust_27 (by decide) (by first | omega | (simp [hs_at] <;> omega)) (fun c2 => ?_) (fun c2 => ?_)
        · refine m_iinc hC 2 dX7_rankByDust_40 rfl (by decide) rfl ?_
          refine m_iinc hC 2 dX7_rankByDust_43 rfl (by decide) rfl ?_
          refine m_goto (tgt := 4) hC dX7_rankByDust_46 (by decide) ?_
          refine m_lvs [0, 1, 3, 4] rfl (ih (i + 1) _ (by omega) (by omega) (by omega) ?_)
          rw [h_sum_succ _ h0]
          try dsimp only
          split <;> omega
        · refine m_iload hC 0 dX7_rankByDust_30 rfl ?_
          refine m_if_ne (tgt := 43) hC dX7_rankByDust_32 (by decide) (by first | omega | (simp [hs_at] <;> omega)) (fun c3 => ?_) (fun c3 => ?_)
          · refine m_iinc hC 1 dX7_rankByDust_43 rfl (by decide) rfl ?_
            refine m_goto (tgt := 4) hC dX7_rankByDust_46 (by decide) ?_
            refine m_lvs [0, 2, 3, 4] rfl (ih (i + 1) _ (by omega) (by omega) (by omega) ?_)
            rw [h_sum_succ _ h0]
            try dsimp only
            split <;> omega
          · refine m_iload_n hC 1 dX7_rankByDust_35 rfl rfl ?_
            refine m_iload_n hC 3 dX7_rankByDust_36 rfl rfl ?_
            refine m_icmp_ge (tgt := 43) hC dX7_rankByDust_37 (by decide) (by first | omega | (simp [hs_at] <;> omega)) (fun c4 => ?_) (fun c4 => ?_)
            · refine m_iinc hC 1 dX7_rankByDust_43 rfl (by decide) rfl ?_
              refine m_goto (tgt := 4) hC dX7_rankByDust_46 (by decide) ?_
              refine m_lvs [0, 2, 3, 4] rfl (ih (i + 1) _ (by omega) (by omega) (by omega) ?_)
              rw [h_sum_succ _ h0]
              try dsimp only
              split <;> omega
            · refine m_iinc hC 2 dX7_rankByDust_40 rfl (by decide) rfl ?_
              refine m_iinc hC 2 dX7_rankByDust_43 rfl (by decide) rfl ?_
              refine m_goto (tgt := 4) hC dX7_rankByDust_46 (by decide) ?_
              refine m_lvs [0, 1, 3, 4] rfl (ih (i + 1) _ (by omega) (by omega) (by omega) ?_)
              rw [h_sum_succ _ h0]
              try dsimp only
              split <;> omega
  refine m_lvs [0, 1, 3, 2] rfl (L 7 0 0 (by omega) (by omega) (by omega) rfl)

set_option maxHeartbeats 4000000 in
set_option maxRecDepth 100000 in
theorem t_X7_energyOf {D : va_G} {aC : Nat → ClassId} {s0 : State} {l : Launch} (hF : m_F D aC s0) (hl : l.stackTraces = false) {b : Nat} {g : h_T} {M : m_M} (hR : hhR b g M) (hB : h_B g) {x : Int} (hx : 0 ≤ x ∧ x < g 0 9) : m_Met D aC s0 l yX7_energyOf cX7_energyOf 2 (some .int) 1 (0) (0) [.ref b, VI x] M (fun v M' => v = some (VI (S_energy g x)) ∧ M' = M) m_nx := by
  refine m_entry (lv := [(0, .ref b), (1, VI x)]) (by decide +kernel) (Nat.le_of_ble_eq_true rfl) rfl hF hl ?_
  intro p e s m args below meth c hC hr hno hnm
  change m_C D aC s0 RX7 _ _ _ _ _ _ _ _ _ at hC
  have hn := hB.n9
  refine m_aload_n hC 0 dX7_energyOf_0 rfl rfl ?_
  refine m_getf hC dX7_energyOf_1 kf_X7_25 hR.ob rfl ?_
  refine m_getf hC dX7_energyOf_4 kf_X7_133 hR.go rfl ?_
  refine m_iload_n hC 1 dX7_energyOf_7 rfl rfl ?_
  refine m_ld4 hC hR dX7_energyOf_8 (by first | omega | (simp [hs_at] <;> omega)) (by first | omega | (simp [hs_at] <;> omega)) ?_
  refine m_aload_n hC 0 dX7_energyOf_9 rfl rfl ?_
  refine m_getf hC dX7_energyOf_10 kf_X7_18 hR.ob rfl ?_
  refine m_callV hC (t_X1_inUse hF hl hR hB) dX7_energyOf_13 kc_X1_inUse kV_X7_160 hR.br rfl rfl rfl rfl (Nat.le_of_ble_eq_true rfl) (by decide) (by decide) m_nox (fun v9 M1 h9 => ?_)
  obtain ⟨rfl, rfl⟩ := h9
  refine m_iconst hC dX7_energyOf_16 ?_
  refine m_iadd hC dX7_energyOf_17 ?_
  refine m_imul hC dX7_energyOf_18 ?_
  exact m_iret hC dX7_energyOf_19 hr (by decide) (by decide) (⟨rfl, rfl⟩)

