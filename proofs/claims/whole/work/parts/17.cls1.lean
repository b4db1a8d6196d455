section m_LVS
variable {D : va_G} {aC : Nat → ClassId} {s0 : State} {nL : Nat} {p : Program} {l : Launch} {e : Env} {R : Room} {s : State} {m : MethodId} {args : Array Value} {below : List Frame} {meth : Method} {c : Code} {cells slots : Nat} {Q : State → Prop} {pc : Nat} {lv lv2 : List (Nat × Value)} {st : List Value} {M : m_M}
theorem m_lvs (ks : List Nat) (h : lv_pick lv ks = lv2) (k : m_W D aC s0 nL p l e R s m args below meth c cells slots Q pc lv2 st M) : m_W D aC s0 nL p l e R s m args below meth c cells slots Q pc lv st M := fun H locs ls h1 h2 h3 => k H locs ls (lv_sub h1 ks h) h2 h3
theorem m_wd {k n : Nat} (h1 : cells ≤ k) (h2 : slots ≤ n) (kk : m_W D aC s0 nL p l e R s m args below meth c k n Q pc lv st M) : m_W D aC s0 nL p l e R s m args below meth c cells slots Q pc lv st M := fun H locs ls h3 h4 h5 => W.widen h1 h2 (kk H locs ls h3 h4 h5)
end m_LVS
set_option maxHeartbeats 4000000 in
set_option maxRecDepth 100000 in
theorem t_X1_has {D : va_G} {aC : Nat → ClassId} {s0 : State} {l : Launch} (hF : m_F D aC s0) (hl : l.stackTraces = false) {b : Nat} {g : h_T} {M : m_M} (hR : hhR b g M) (hB : h_B g) {x : Int} (hx : -2147483648 ≤ x ∧ x < 2147483648) : m_Met D aC s0 l yX1_has cX1_has 2 (some .boolean) 0 (0) (0) [.ref (b + 2), VI x] M (fun v M' => v = some (VI (if 0 ≤ x ∧ x < g 0 8 then 1 else 0)) ∧ M' = M) m_nx := by
  refine m_entry (lv := [(0, .ref (b + 2)), (1, VI x)]) (by decide +kernel) (Nat.le_of_ble_eq_true rfl) rfl hF hl ?_
  intro p e s m args below meth c hC hr hno hnm
  change m_C D aC s0 RX1 _ _ _ _ _ _ _ _ _ at hC
  have hn := hB.n8
  refine m_iload_n hC 1 dX1_has_0 rfl rfl ?_
  refine m_if_lt (tgt := 16) hC dX1_has_1 (by decide) (by omega) (fun c1 => ?_) (fun c1 => ?_)
  · refine m_iconst hC dX1_has_16 ?_
    exact m_zret hC dX1_has_17 hr (by rfl) (by decide) (by decide) (⟨by first | rw [if_pos (by omega)] | rw [if_neg (by omega)], rfl⟩)
  · refine m_iload_n hC 1 dX1_has_4 rfl rfl ?_
    refine m_aload_n hC 0 dX1_has_5 rfl rfl ?_
    refine m_getf hC dX1_has_6 kf_X1_19 hR.br rfl ?_
    refine m_icmp_ge (tgt := 16) hC dX1_has_9 (by decide) (by omega) (fun c2 => ?_) (fun c2 => ?_)
    · refine m_iconst hC dX1_has_16 ?_
      exact m_zret hC dX1_has_17 hr (by rfl) (by decide) (by decide) (⟨by first | rw [if_pos (by omega)] | rw [if_neg (by omega)], rfl⟩)
    · refine m_iconst hC dX1_has_12 ?_
      refine m_goto (tgt := 17) hC dX1_has_13 (by decide) ?_
      exact m_zret hC dX1_has_17 hr (by rfl) (by decide) (by decide) (⟨by first | rw [if_pos (by omega)] | rw [if_neg (by omega)], rfl⟩)

set_option maxHeartbeats 4000000 in
set_option maxRecDepth 100000 in
theorem t_X5_has {D : va_G} {aC : Nat → ClassId} {s0 : State} {l : Launch} (hF : m_F D aC s0) (hl : l.stackTraces = false) {b : Nat} {g : h_T} {M : m_M} (hR : hhR b g M) (hB : h_B g) {x : Int} (hx : -2147483648 ≤ x ∧ x < 2147483648) : m_Met D aC s0 l yX5_has cX5_has 2 (some .boolean) 0 (0) (0) [.ref (b + 5), VI x] M (fun v M' => v = some (VI (if 0 ≤ x ∧ x < g 0 9 then 1 else 0)) ∧ M' = M) m_nx := by
  refine m_entry (lv := [(0, .ref (b + 5)), (1, VI x)]) (by decide +kernel) (Nat.le_of_ble_eq_true rfl) rfl hF hl ?_
  intro p e s m args below meth c hC hr hno hnm
  change m_C D aC s0 RX5 _ _ _ _ _ _ _ _ _ at hC
  have hn := hB.n9
  refine m_iload_n hC 1 dX5_has_0 rfl rfl ?_
  refine m_if_lt (tgt := 16) hC dX5_has_1 (by decide) (by omega) (fun c1 => ?_) (fun c1 => ?_)
  · refine m_iconst hC dX5_has_16 ?_
    exact m_zret hC dX5_has_17 hr (by rfl) (by decide) (by decide) (⟨by first | rw [if_pos (by omega)] | rw [if_neg (by omega)], rfl⟩)
  · refine m_iload_n hC 1 dX5_has_4 rfl rfl ?_
    refine m_aload_n hC 0 dX5_has_5 rfl rfl ?_
    refine m_getf hC dX5_has_6 kf_X5_28 hR.go rfl ?_
    refine m_icmp_ge (tgt := 16) hC dX5_has_9 (by decide) (by omega) (fun c2 => ?_) (fun c2 => ?_)
    · refine m_iconst hC dX5_has_16 ?_
      exact m_zret hC dX5_has_17 hr (by rfl) (by decide) (by decide) (⟨by first | rw [if_pos (by omega)] | rw [if_neg (by omega)], rfl⟩)
    · refine m_iconst hC dX5_has_12 ?_
      refine m_goto (tgt := 17) hC dX5_has_13 (by decide) ?_
      exact m_zret hC dX5_has_17 hr (by rfl) (by decide) (by decide) (⟨by first | rw [if_pos (by omega)] | rw [if_neg (by omega)], rfl⟩)

set_option maxHeartbeats 4000000 in
set_option maxRecDepth 100000 in
theorem t_X1_inUse {D : va_G} {aC : Nat → ClassId} {s0 : State} {l : Launch} (hF : m_F D aC s0) (hl : l.stackTraces = false) {b : Nat} {g : h_T} {M : m_M} (hR : hhR b g M) (hB : h_B g) : m_Met D aC s0 l yX1_inUse cX1_inUse 3 (some .int) 0 (0) (0) [.ref (b + 2)] M (fun v M' => v = some (VI (S_inUse g)) ∧ M' = M) m_nx := by
  refine m_entry (lv := [(0, .ref (b + 2))]) (by decide +kernel) (Nat.le_of_ble_eq_true rfl) rfl hF hl ?_
  intro p e s m args below meth c hC hr hno hnm
  change m_C D aC s0 RX1 _ _ _ _ _ _ _ _ _ at hC
  have hn8 := hB.n8
  have L : ∀ (n : Nat) (i a : Int), g 0 8 - i < (n : Int) → 0 ≤ i → i ≤ g 0 8 → a = h_sum (fun j => 1 - g 3 j) i.toNat → m_W D aC s0 3 p l e (m_R 0 (0) (0)) s m args below meth c (0) (0) (m_Q D aC s0 below (fun v M' => v = some (VI (S_inUse g)) ∧ M' = M) m_nx args s (0) (0)) 4 [(2, VI i), (1, VI a), (0, .ref (b + 2))] [] M := by
    intro n
    induction n with
    | zero =>
      intro i a hn h0 h1 ha
      omega
    | succ n ih =>
      intro i a hn h0 h1 ha
      refine m_iload_n hC 0 dX1_inUse_4 rfl rfl ?_
      refine m_aload_n hC 2 dX1_inUse_5 rfl rfl ?_
      refine m_getf hC dX1_inUse_6 kf_X1_19 hR.br rfl ?_
      refine m_icmp_ge (tgt := 30) hC dX1_inUse_9 (by decide) (by omega) (fun c1 => ?_) (fun c1 => ?_)
      · refine m_iload_n hC 1 dX1_inUse_30 rfl rfl ?_
        exact m_iret hC dX1_inUse_31 hr (by decide) (by decide) (⟨by rw [ha]; congr 2; congr 1; congr 1; omega, rfl⟩)
      · have hbr := hB.br (i := i) (by omega)
        have hs := h_sum_bd (f := fun j => 1 - g 3 j) (B := 1) (n := i) (by omega) (fun j hj => by have := (hB.br (i := j) (by omega)).2.2; omega)
        refine m_aload_n hC 2 dX1_inUse_12 rfl rfl ?_
        refine m_getf hC dX1_inUse_13 kf_X1_15 hR.br rfl ?_
        refine m_iload_n hC 0 dX1_inUse_16 rfl rfl ?_
        refine m_ld3 hC hR dX1_inUse_17 (by omega) (by omega) ?_
        refine m_if_ne (tgt := 24) hC dX1_inUse_18 (by decide) (by omega) (fun c2 => ?_) (fun c2 => ?_)
        · refine m_iinc hC 0 dX1_inUse_24 rfl (by decide) rfl ?_
          refine m_goto (tgt := 4) hC dX1_inUse_27 (by decide) ?_
          refine m_lvs [0, 1, 2] rfl (ih (i + 1) _ (by omega) (by omega) (by omega) ?_)
          rw [h_sum_succ _ h0, ha]
          try dsimp only
          try (split <;> omega)
          try omega
        · refine m_iinc hC 1 dX1_inUse_21 rfl (by decide) rfl ?_
          refine m_iinc hC 1 dX1_inUse_24 rfl (by decide) rfl ?_
          refine m_goto (tgt := 4) hC dX1_inUse_27 (by decide) ?_
          refine m_lvs [0, 1, 2] rfl (ih (i + 1) _ (by omega) (by omega) (by omega) ?_)
          rw [h_sum_succ _ h0, ha]
          try dsimp only
          try (split <;> omega)
          try omega
  refine m_iconst hC dX1_inUse_0 ?_
  refine m_istore_n hC dX1_inUse_1 rfl (by decide) rfl ?_
  refine m_iconst hC dX1_inUse_2 ?_
  refine m_istore_n hC dX1_inUse_3 rfl (by decide) rfl ?_
  refine m_lvs [0, 1, 2] rfl (L ((g 0 8 - 0).toNat + 1) 0 0 (by omega) (by omega) (by omega) rfl)

