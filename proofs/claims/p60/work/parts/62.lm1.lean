/-! the law's small methods: they leave the memory as it is -/
theorem kK_L_7 : Cond.constant RL 7 (Int32.ofInt 69069) ∈ lwg := by
  rw [show Int32.ofInt 69069 = (69069 : Int32) from by decide +kernel]
  exact (lwg_of (List.mem_append_right _ (List.mem_of_getElem? (i := 335) (by decide +kernel))) rfl)
theorem kK_L_8 : Cond.constant RL 8 (Int32.ofInt 1103515245) ∈ lwg := by
  rw [show Int32.ofInt 1103515245 = (1103515245 : Int32) from by decide +kernel]
  exact (lwg_of (List.mem_append_right _ (List.mem_of_getElem? (i := 336) (by decide +kernel))) rfl)
section m_LM1
variable {D : va_G} {aC : Nat → ClassId} {s0 : State} {own : String} {cc : ByteArray} {nL : Nat} {p : Program} {l : Launch} {e : Env} {R : Room} {s : State} {m : MethodId} {args : Array Value} {below : List Frame} {meth : Method} {c : Code} {cells slots : Nat} {Q : State → Prop} {pc : Nat} {lv : List (Nat × Value)} {st : List Value} {M : m_M}
theorem m_ixor (C : m_C D aC s0 own cc nL l p s m args meth c) {a b : Int} (hd : decode cc pc = .ok (.ixor, 1)) (k : ∀ z : Int, iR z → m_W D aC s0 nL p l e R s m args below meth c cells slots Q (pc + 1) lv (VI z :: st) M) : m_W D aC s0 nL p l e R s m args below meth c cells slots Q pc lv (VI b :: VI a :: st) M := fun H locs ls h1 h2 h3 => by
  refine lv_ixor C.1 C.2.1 hd ?_
  have h := k (Int32.ofInt a ^^^ Int32.ofInt b).toInt (m_rng _) H locs ls h1 h2 h3
  rw [m_of] at h
  exact h
theorem m_iushr (C : m_C D aC s0 own cc nL l p s m args meth c) {a b : Int} (hd : decode cc pc = .ok (.iushr, 1)) (k : ∀ z : Int, iR z → m_W D aC s0 nL p l e R s m args below meth c cells slots Q (pc + 1) lv (VI z :: st) M) : m_W D aC s0 nL p l e R s m args below meth c cells slots Q pc lv (VI b :: VI a :: st) M := fun H locs ls h1 h2 h3 => by
  refine lv_iushr C.1 C.2.1 hd rfl ?_
  have h := k (((Int32.ofInt a).toUInt32 >>> ((Int32.ofInt b).toUInt32 &&& Int32.toUInt32 31)).toInt32).toInt (m_rng _) H locs ls h1 h2 h3
  rw [m_of] at h
  exact h
theorem m_ushr8 (C : m_C D aC s0 own cc nL l p s m args meth c) {a : Int} (hd : decode cc pc = .ok (.iushr, 1)) (k : ∀ z : Int, 0 ≤ z ∧ z < 16777216 → m_W D aC s0 nL p l e R s m args below meth c cells slots Q (pc + 1) lv (VI z :: st) M) : m_W D aC s0 nL p l e R s m args below meth c cells slots Q pc lv (VI 8 :: VI a :: st) M := fun H locs ls h1 h2 h3 => by
  refine lv_iushr C.1 C.2.1 hd rfl ?_
  have e9 : (((Int32.ofInt a).toUInt32 >>> ((Int32.ofInt 8).toUInt32 &&& Int32.toUInt32 31)).toInt32).toInt = (((Int32.ofInt a).toUInt32.toNat / 256 : Nat) : Int) := by
    have h8 : ((Int32.ofInt 8).toUInt32 &&& Int32.toUInt32 31) = 8 := by decide
    rw [h8]
    have h9 : ((Int32.ofInt a).toUInt32 >>> 8).toNat = (Int32.ofInt a).toUInt32.toNat / 256 := by
      rw [UInt32.toNat_shiftRight]
      show (Int32.ofInt a).toUInt32.toNat >>> 8 = _
      rw [Nat.shiftRight_eq_div_pow]
    have h7 : ((Int32.ofInt a).toUInt32 >>> 8).toInt32.toInt = (((Int32.ofInt a).toUInt32 >>> 8).toNat : Int) := by
      generalize (Int32.ofInt a).toUInt32 >>> 8 = u at h9 ⊢
      have hu : u.toNat < 16777216 := by
        rw [h9]
        have := (Int32.ofInt a).toUInt32.toNat_lt
        omega
      have e2 : u.toInt32 = Int32.ofInt (u.toNat : Int) := by
        rw [Int32.ofInt_eq_ofNat, ← UInt32.toInt32_ofNat', UInt32.ofNat_toNat]
      rw [e2, m_ti (by omega)]
    rw [h7, h9]
  have hlt := (Int32.ofInt a).toUInt32.toNat_lt
  have h := k (((Int32.ofInt a).toUInt32.toNat / 256 : Nat) : Int) ⟨by omega, by omega⟩ H locs ls h1 h2 h3
  rw [← e9, m_of] at h
  exact h
end m_LM1
/-- the script, as any method sees it -/
def sS (s0 : State) (b L : Nat) (xs : Nat → Int32) : Prop := va_T .int b L (fun j => VI (xs j).toInt) (m_A s0) s0 s0.heap ∧ L ≤ 260

set_option maxHeartbeats 4000000 in
set_option maxRecDepth 100000 in
theorem t_L_told {D : va_G} {aC : Nat → ClassId} {s0 : State} {l : Launch} (hF : m_F D aC s0) (hl : l.stackTraces = false) {z : Int} {M : m_M} (hz : z = 0 ∨ z = 1) : m_Met D aC s0 l yL_told cL_told 1 (some .int) 0 (0) (0) [VI z] M (qM (VI z) M) m_nx := by
  refine m_entry (lv := [(0, VI z)]) (by decide +kernel) (Nat.le_of_ble_eq_true rfl) rfl hF hl ?_
  intro p e s m args below meth c hC hr hno hnm
  change m_C D aC s0 RL _ _ _ _ _ _ _ _ _ at hC
  refine m_iload_n hC 0 dL_told_0 rfl rfl ?_
  refine m_if_eq (tgt := 8) hC dL_told_1 (by decide) (by first | omega | (simp [hs_at] <;> omega)) (fun c1 => ?_) (fun c1 => ?_)
  · refine m_iconst hC dL_told_8 ?_
    exact m_iret hC dL_told_9 hr (Nat.le_of_ble_eq_true rfl) (Nat.le_of_ble_eq_true rfl) (by first | exact ⟨by rw [show z = 1 by omega], rfl⟩ | exact ⟨by rw [show z = 0 by omega], rfl⟩)
  · refine m_iconst hC dL_told_4 ?_
    refine m_goto (tgt := 9) hC dL_told_5 (by decide) ?_
    exact m_iret hC dL_told_9 hr (Nat.le_of_ble_eq_true rfl) (Nat.le_of_ble_eq_true rfl) (by first | exact ⟨by rw [show z = 1 by omega], rfl⟩ | exact ⟨by rw [show z = 0 by omega], rfl⟩)

set_option maxHeartbeats 4000000 in
set_option maxRecDepth 100000 in
theorem t_L_cell {D : va_G} {aC : Nat → ClassId} {s0 : State} {l : Launch} (hF : m_F D aC s0) (hl : l.stackTraces = false) {b L : Nat} {xs : Nat → Int32} {M : m_M} {i : Int} (hS : sS s0 b L xs) (hi : 0 ≤ i ∧ i < 100000) : m_Met D aC s0 l yL_cell cL_cell 3 (some .int) 0 (0) (0) [.ref b, VI i] M (fun v M' => (∃ z : Int, iR z ∧ v = some (VI z)) ∧ M' = M) m_nx := by
  refine m_entry (lv := [(0, .ref b), (1, VI i)]) (by decide +kernel) (Nat.le_of_ble_eq_true rfl) rfl hF hl ?_
  intro p e s m args below meth c hC hr hno hnm
  change m_C D aC s0 RL _ _ _ _ _ _ _ _ _ at hC
  refine m_ldci hC dL_cell_0 kK_L_7 ?_
  refine m_iload_n hC 1 dL_cell_2 rfl rfl ?_
  refine m_aload_n hC 0 dL_cell_3 rfl rfl ?_
  refine m_ctl hC hS.1 dL_cell_4 ?_
  refine m_icmp_ge (tgt := 14) hC dL_cell_5 (by decide) (by have := hS.2; omega) (fun c1 => ?_) (fun c1 => ?_)
  · refine m_iconst hC dL_cell_14 ?_
    refine m_sipush hC dL_cell_15 (by decide) ?_
    refine m_iload_n hC 1 dL_cell_18 rfl rfl ?_
    refine m_imul hC dL_cell_19 ?_
    refine m_iadd hC dL_cell_20 ?_
    refine m_imul hC dL_cell_21 ?_
    refine m_sipush hC dL_cell_22 (by decide) ?_
    refine m_iadd hC dL_cell_25 ?_
    refine m_istore_n hC dL_cell_26 rfl (by decide) rfl ?_
    refine m_iload_n hC 0 dL_cell_27 rfl rfl ?_
    refine m_iload_n hC 0 dL_cell_28 rfl rfl ?_
    refine m_bipush hC dL_cell_29 (by decide) ?_
    refine m_iushr hC dL_cell_31 (fun z2 hz2 => ?_)
    refine m_ixor hC dL_cell_32 (fun z3 hz3 => ?_)
    refine m_ldci hC dL_cell_33 kK_L_8 ?_
    refine m_imul hC dL_cell_35 ?_
    refine m_istore_n hC dL_cell_36 rfl (by decide) rfl ?_
    refine m_iload_n hC 0 dL_cell_37 rfl rfl ?_
    refine m_iload_n hC 0 dL_cell_38 rfl rfl ?_
    refine m_bipush hC dL_cell_39 (by decide) ?_
    refine m_iushr hC dL_cell_41 (fun z4 hz4 => ?_)
    refine m_ixor hC dL_cell_42 (fun z5 hz5 => ?_)
    exact m_iret hC dL_cell_43 hr (Nat.le_of_ble_eq_true rfl) (Nat.le_of_ble_eq_true rfl) (⟨⟨_, hz5, rfl⟩, rfl⟩)
  · refine m_aload_n hC 0 dL_cell_8 rfl rfl ?_
    refine m_iload_n hC 1 dL_cell_9 rfl rfl ?_
    refine m_cti hC hS.1 dL_cell_10 (by have := hS.2; omega) (by omega) rfl ?_
    refine m_goto (tgt := 15) hC dL_cell_11 (by decide) ?_
    refine m_sipush hC dL_cell_15 (by decide) ?_
    refine m_iload_n hC 1 dL_cell_18 rfl rfl ?_
    refine m_imul hC dL_cell_19 ?_
    refine m_iadd hC dL_cell_20 ?_
    refine m_imul hC dL_cell_21 ?_
    refine m_sipush hC dL_cell_22 (by decide) ?_
    refine m_iadd hC dL_cell_25 ?_
    refine m_istore_n hC dL_cell_26 rfl (by decide) rfl ?_
    refine m_iload_n hC 0 dL_cell_27 rfl rfl ?_
    refine m_iload_n hC 0 dL_cell_28 rfl rfl ?_
    refine m_bipush hC dL_cell_29 (by decide) ?_
    refine m_iushr hC dL_cell_31 (fun z6 hz6 => ?_)
    refine m_ixor hC dL_cell_32 (fun z7 hz7 => ?_)
    refine m_ldci hC dL_cell_33 kK_L_8 ?_
    refine m_imul hC dL_cell_35 ?_
    refine m_istore_n hC dL_cell_36 rfl (by decide) rfl ?_
    refine m_iload_n hC 0 dL_cell_37 rfl rfl ?_
    refine m_iload_n hC 0 dL_cell_38 rfl rfl ?_
    refine m_bipush hC dL_cell_39 (by decide) ?_
    refine m_iushr hC dL_cell_41 (fun z8 hz8 => ?_)
    refine m_ixor hC dL_cell_42 (fun z9 hz9 => ?_)
    exact m_iret hC dL_cell_43 hr (Nat.le_of_ble_eq_true rfl) (Nat.le_of_ble_eq_true rfl) (⟨⟨_, hz9, rfl⟩, rfl⟩)

set_option maxHeartbeats 4000000 in
set_option maxRecDepth 100000 in
theorem t_L_pick {D : va_G} {aC : Nat → ClassId} {s0 : State} {l : Launch} (hF : m_F D aC s0) (hl : l.stackTraces = false) {b L : Nat} {xs : Nat → Int32} {M : m_M} {i z9 : Int} (hS : sS s0 b L xs) (hi : 0 ≤ i ∧ i < 100000) (hz : 1 ≤ z9 ∧ z9 ≤ 1000) : m_Met D aC s0 l yL_pick cL_pick 3 (some .int) 1 (0) (0) [.ref b, VI i, VI z9] M (fun v M' => (∃ z : Int, (0 ≤ z ∧ z < z9) ∧ v = some (VI z)) ∧ M' = M) m_nx := by
  refine m_entry (lv := [(0, .ref b), (1, VI i), (2, VI z9)]) (by decide +kernel) (Nat.le_of_ble_eq_true rfl) rfl hF hl ?_
  intro p e s m args below meth c hC hr hno hnm
  change m_C D aC s0 RL _ _ _ _ _ _ _ _ _ at hC
  refine m_aload_n hC 0 dL_pick_0 rfl rfl ?_
  refine m_iload_n hC 1 dL_pick_1 rfl rfl ?_
  refine m_callS hC (t_L_cell hF hl hS hi) dL_pick_2 kc_L_cell kS_L_9 rfl rfl (Nat.le_of_ble_eq_true rfl) (by decide) (by decide) m_nox (fun v9 M1 h9 => ?_)
  obtain ⟨⟨zc, hzc, rfl⟩, h9⟩ := h9
  replace h9 := h9.symm
  subst h9
  refine m_bipush hC dL_pick_5 (by decide) ?_
  refine m_ushr8 hC dL_pick_7 (fun zu hzu => ?_)
  refine m_iload_n hC 2 dL_pick_8 rfl rfl ?_
  refine m_irem hC dL_pick_9 (by omega) ?_
  exact m_iret hC dL_pick_10 hr (Nat.le_of_ble_eq_true rfl) (Nat.le_of_ble_eq_true rfl) (⟨⟨_, ⟨Int.emod_nonneg _ (by omega), Int.emod_lt_of_pos _ (by omega)⟩, rfl⟩, rfl⟩)

set_option maxHeartbeats 4000000 in
set_option maxRecDepth 100000 in
theorem t_L_energy {D : va_G} {aC : Nat → ClassId} {s0 : State} {l : Launch} (hF : m_F D aC s0) (hl : l.stackTraces = false) (hX : m_TH s0) {x : Nat} {q : Int → Int} {g : h_T} {M : m_M} (hO : gO x q M) (hR : hhR (x + 1) g M) (hB : h_B g) {y : Int} (hy : 0 ≤ y ∧ y < g 0 9) : m_Met D aC s0 l yL_energy cL_energy 4 (some .int) 13 (470) (940) [.ref x, VI y] M (qM (VI (S_energy g y)) M) m_nx := by
  refine m_entry (lv := [(0, .ref x), (1, VI y)]) (by decide +kernel) (Nat.le_of_ble_eq_true rfl) rfl hF hl ?_
  intro p e s m args below meth c hC hr hno hnm
  change m_C D aC s0 RL _ _ _ _ _ _ _ _ _ at hC
  have n8 := hB.n8
  refine m_iconst hC dL_energy_0 ?_
  refine m_istore_n hC dL_energy_1 rfl (by decide) rfl ?_
  refine m_iconst hC dL_energy_2 ?_
  refine m_istore_n hC dL_energy_3 rfl (by decide) rfl ?_
  have LL : ∀ (n : Nat) (i b9 : Int), g 0 8 - i < (n : Int) → 0 ≤ i → i ≤ g 0 8 → b9 = 1 + h_sum (fun j => 1 - g 3 j) i.toNat → m_W D aC s0 4 p l e (m_R 13 (470) (940)) s m args below meth c (0) (0) (m_Q D aC s0 below (qM (VI (S_energy g y)) M) m_nx args s (470) (940)) 4 [(3, VI i), (2, VI b9), (1, VI y), (0, .ref x)] [] M := by
    intro n
    induction n with
    | zero =>
      intro i b9 hn h0 h1 hb9
      omega
    | succ n ih =>
      intro i b9 hn h0 h1 hb9
      have hbr : i < g 0 8 → 1 ≤ g 2 i ∧ g 2 i ≤ 20 ∧ (g 3 i = 0 ∨ g 3 i = 1) := fun z => hB.br ⟨h0, z⟩
      have n8 := hB.n8
      refine m_iload_n hC 0 dL_energy_4 rfl rfl ?_
      refine m_aload_n hC 3 dL_energy_5 rfl rfl ?_
      refine m_qV hC (Q_broomCount hF hl hX hO hR hB) dL_energy_6 kc_X9_broomCount kV_L_132 hO rfl rfl rfl rfl (Nat.le_of_ble_eq_true rfl) ⟨Nat.le_of_ble_eq_true rfl, Nat.le_of_ble_eq_true rfl⟩ ⟨Nat.le_of_ble_eq_true rfl, Nat.le_of_ble_eq_true rfl⟩ ?_
      refine m_icmp_ge (tgt := 37) hC dL_energy_9 (by decide) (by first | omega | (simp [hs_at] <;> omega)) (fun c1 => ?_) (fun c1 => ?_)
      · refine m_aload_n hC 3 dL_energy_37 rfl rfl ?_
        refine m_iload_n hC 2 dL_energy_38 rfl rfl ?_
        refine m_qV hC (Q_strength hF hl hX hO hR hB (by omega)) dL_energy_39 kc_X9_strength kV_L_170 hO rfl rfl rfl rfl (Nat.le_of_ble_eq_true rfl) ⟨Nat.le_of_ble_eq_true rfl, Nat.le_of_ble_eq_true rfl⟩ ⟨Nat.le_of_ble_eq_true rfl, Nat.le_of_ble_eq_true rfl⟩ ?_
        refine m_iload_n hC 1 dL_energy_42 rfl rfl ?_
        refine m_imul hC dL_energy_43 ?_
        exact m_iret hC dL_energy_44 hr (Nat.le_of_ble_eq_true rfl) (Nat.le_of_ble_eq_true rfl) (⟨by rw [hb9]; show _ = some (VI (g 4 y * (S_inUse g + 1))); unfold S_inUse; rw [show i = g 0 8 by omega, Int.add_comm], rfl⟩)
      · have hbr := hbr (by omega)
        refine m_iload_n hC 1 dL_energy_12 rfl rfl ?_
        refine m_aload_n hC 3 dL_energy_13 rfl rfl ?_
        refine m_iload_n hC 0 dL_energy_14 rfl rfl ?_
        refine m_qV hC (Q_isBanished hF hl hX hO hR hB (by omega)) dL_energy_15 kc_X9_isBanished kV_L_162 hO rfl rfl rfl rfl (Nat.le_of_ble_eq_true rfl) ⟨Nat.le_of_ble_eq_true rfl, Nat.le_of_ble_eq_true rfl⟩ ⟨Nat.le_of_ble_eq_true rfl, Nat.le_of_ble_eq_true rfl⟩ ?_
        refine m_if_ne (tgt := 25) hC dL_energy_18 (by decide) (by first | omega | (simp [hs_at] <;> omega)) (fun c2 => ?_) (fun c2 => ?_)
        · refine m_iconst hC dL_energy_25 ?_
          refine m_qS hC (t_L_told hF hl (by omega)) dL_energy_26 kc_L_told kS_L_166 rfl rfl (Nat.le_of_ble_eq_true rfl) ⟨Nat.le_of_ble_eq_true rfl, Nat.le_of_ble_eq_true rfl⟩ ⟨Nat.le_of_ble_eq_true rfl, Nat.le_of_ble_eq_true rfl⟩ ?_
          refine m_iadd hC dL_energy_29 ?_
          refine m_istore_n hC dL_energy_30 rfl (by decide) rfl ?_
          refine m_iinc hC 1 dL_energy_31 rfl (by decide) rfl ?_
          refine m_goto (tgt := 4) hC dL_energy_34 (by decide) ?_
          refine m_lvs [0, 1, 2, 3] rfl (ih (i + 1) _ (by omega) (by omega) (by omega) (by rw [h_sum_succ _ h0, hb9]; omega))
        · refine m_iconst hC dL_energy_21 ?_
          refine m_goto (tgt := 26) hC dL_energy_22 (by decide) ?_
          refine m_qS hC (t_L_told hF hl (by omega)) dL_energy_26 kc_L_told kS_L_166 rfl rfl (Nat.le_of_ble_eq_true rfl) ⟨Nat.le_of_ble_eq_true rfl, Nat.le_of_ble_eq_true rfl⟩ ⟨Nat.le_of_ble_eq_true rfl, Nat.le_of_ble_eq_true rfl⟩ ?_
          refine m_iadd hC dL_energy_29 ?_
          refine m_istore_n hC dL_energy_30 rfl (by decide) rfl ?_
          refine m_iinc hC 1 dL_energy_31 rfl (by decide) rfl ?_
          refine m_goto (tgt := 4) hC dL_energy_34 (by decide) ?_
          refine m_lvs [0, 1, 2, 3] rfl (ih (i + 1) _ (by omega) (by omega) (by omega) (by rw [h_sum_succ _ h0, hb9]; omega))
  refine m_lvs [0, 1, 3, 2] rfl (LL ((g 0 8 - 0).toNat + 1) 0 1 (by omega) (by omega) (by omega) rfl)

set_option maxHeartbeats 4000000 in
set_option maxRecDepth 100000 in
theorem t_L_best {D : va_G} {aC : Nat → ClassId} {s0 : State} {l : Launch} (hF : m_F D aC s0) (hl : l.stackTraces = false) (hX : m_TH s0) {x : Nat} {q : Int → Int} {g : h_T} {M : m_M} (hO : gO x q M) (hR : hhR (x + 1) g M) (hB : h_B g) (hx : nX g) {y : Int} (hy : 0 ≤ y ∧ y < g 0 9) : ∀ (n : Nat) (i e9 : Int), i + n = g 0 11 → 0 ≤ i → 0 ≤ e9 ∧ e9 ≤ 1000 → m_Met D aC s0 l yL_best cL_best 7 (some .int) (13 + n) 470 940 [.ref x, VI y, VI i, VI e9] M (qM (VI (k_F g y n i e9)) M) m_nx := by
  have n9 := hB.n9
  have n11 := hB.n11
  intro n
  induction n with
  | zero =>
    intro i e9 hn h0 he
    refine m_entry (lv := [(0, .ref x), (1, VI y), (2, VI i), (3, VI e9)]) (by decide +kernel) (Nat.le_of_ble_eq_true rfl) rfl hF hl ?_
    intro p e s m args below meth c hC hr hno hnm
    change m_C D aC s0 RL _ _ _ _ _ _ _ _ _ at hC
    refine m_iload_n hC 2 dL_best_0 rfl rfl ?_
    refine m_aload_n hC 0 dL_best_1 rfl rfl ?_
    refine m_qV hC (Q_openContracts hF hl hX hO hR hB) dL_best_2 kc_X9_openContracts kV_L_135 hO rfl rfl rfl rfl (Nat.le_of_ble_eq_true rfl) (by decide) ⟨Nat.le_of_ble_eq_true rfl, Nat.le_of_ble_eq_true rfl⟩ ?_
    refine m_icmp_ne (tgt := 10) hC dL_best_5 (by decide) (by first | omega | (simp [hs_at] <;> omega)) (fun c1 => by omega) (fun c1 => ?_)
    refine m_iconst hC dL_best_8 ?_
    exact m_iret hC dL_best_9 hr (Nat.le_of_ble_eq_true rfl) (Nat.le_of_ble_eq_true rfl) (⟨rfl, rfl⟩)
  | succ n ih =>
    intro i e9 hn h0 he
    refine m_entry (lv := [(0, .ref x), (1, VI y), (2, VI i), (3, VI e9)]) (by decide +kernel) (Nat.le_of_ble_eq_true rfl) rfl hF hl ?_
    intro p e s m args below meth c hC hr hno hnm
    change m_C D aC s0 RL _ _ _ _ _ _ _ _ _ at hC
    refine m_iload_n hC 2 dL_best_0 rfl rfl ?_
    refine m_aload_n hC 0 dL_best_1 rfl rfl ?_
    refine m_qV hC (Q_openContracts hF hl hX hO hR hB) dL_best_2 kc_X9_openContracts kV_L_135 hO rfl rfl rfl rfl (Nat.le_of_ble_eq_true rfl) ⟨by show _ ≤ 13 + (n + 1); omega, by show _ ≤ 100 * (13 + (n + 1) + 1); omega⟩ ⟨Nat.le_of_ble_eq_true rfl, Nat.le_of_ble_eq_true rfl⟩ ?_
    refine m_icmp_ne (tgt := 10) hC dL_best_5 (by decide) (by first | omega | (simp [hs_at] <;> omega)) (fun c1 => ?_) (fun c1 => by omega)
    have hco := hB.co (i := i) (by omega)
    refine m_aload_n hC 0 dL_best_10 rfl rfl ?_
    refine m_iload_n hC 2 dL_best_11 rfl rfl ?_
    refine m_qV hC (Q_contractAt hF hl hX hO hR hB (by omega)) dL_best_12 kc_X9_contractAt kV_L_89 hO rfl rfl rfl rfl (Nat.le_of_ble_eq_true rfl) ⟨by show _ ≤ 13 + (n + 1); omega, by show _ ≤ 100 * (13 + (n + 1) + 1); omega⟩ ⟨Nat.le_of_ble_eq_true rfl, Nat.le_of_ble_eq_true rfl⟩ ?_
    refine m_istore hC dL_best_15 (by decide) rfl ?_
    refine m_aload_n hC 1 dL_best_17 rfl rfl ?_
    refine m_iload_n hC 2 dL_best_18 rfl rfl ?_
    refine m_iload_n hC 3 dL_best_19 rfl rfl ?_
    refine m_iconst hC dL_best_20 ?_
    refine m_iadd hC dL_best_21 ?_
    refine m_iload_n hC 4 dL_best_22 rfl rfl ?_
    refine m_qS hC (ih (i + 1) e9 (by omega) (by omega) (by omega)) dL_best_23 kc_L_best kS_L_203 rfl rfl (Nat.le_of_ble_eq_true rfl) ⟨by show _ ≤ 13 + (n + 1); omega, by show _ ≤ 100 * (13 + (n + 1) + 1); omega⟩ ⟨Nat.le_of_ble_eq_true rfl, Nat.le_of_ble_eq_true rfl⟩ ?_
    have hbd := k_F_bd hB y n (i + 1) e9 (by omega) (by omega)
    refine m_istore hC dL_best_26 (by decide) rfl ?_
    refine m_aload_n hC 2 dL_best_28 rfl rfl ?_
    refine m_iload hC 1 dL_best_29 rfl ?_
    refine m_qV hC (Q_goblinOf hF hl hX hO hR hB (k := i) (by omega) hx) dL_best_31 kc_X9_goblinOf kV_L_185 hO rfl rfl rfl rfl (Nat.le_of_ble_eq_true rfl) ⟨by show _ ≤ 13 + (n + 1); omega, by show _ ≤ 100 * (13 + (n + 1) + 1); omega⟩ ⟨Nat.le_of_ble_eq_true rfl, Nat.le_of_ble_eq_true rfl⟩ ?_
    refine m_iload_n hC 3 dL_best_34 rfl rfl ?_
    refine m_icmp_ne (tgt := 52) hC dL_best_35 (by decide) (by first | omega | (simp [hs_at] <;> omega)) (fun c2 => ?_) (fun c2 => ?_)
    · refine m_iconst hC dL_best_52 ?_
      refine m_istore hC dL_best_53 (by decide) rfl ?_
      refine m_iload hC 0 dL_best_55 rfl ?_
      refine m_if_eq (tgt := 91) hC dL_best_57 (by decide) (by omega) (fun c3 => ?_) (fun c3 => by omega)
      refine m_iload hC 1 dL_best_91 rfl ?_
      exact m_iret hC dL_best_93 hr (Nat.le_of_ble_eq_true rfl) (Nat.le_of_ble_eq_true rfl) (⟨by rw [k_F_s]; first | rw [if_pos (by omega)] | rw [if_neg (by omega)], rfl⟩)
    · refine m_aload_n hC 2 dL_best_38 rfl rfl ?_
      refine m_iload hC 1 dL_best_39 rfl ?_
      refine m_qV hC (Q_effort hF hl hX hO hR hB (k := i) (by omega) hx) dL_best_41 kc_X9_effort kV_L_191 hO rfl rfl rfl rfl (Nat.le_of_ble_eq_true rfl) ⟨by show _ ≤ 13 + (n + 1); omega, by show _ ≤ 100 * (13 + (n + 1) + 1); omega⟩ ⟨Nat.le_of_ble_eq_true rfl, Nat.le_of_ble_eq_true rfl⟩ ?_
      refine m_iload_n hC 5 dL_best_44 rfl rfl ?_
      refine m_icmp_gt (tgt := 52) hC dL_best_45 (by decide) (by first | omega | (simp [hs_at] <;> omega)) (fun c4 => ?_) (fun c4 => ?_)
      · refine m_iconst hC dL_best_52 ?_
        refine m_istore hC dL_best_53 (by decide) rfl ?_
        refine m_iload hC 0 dL_best_55 rfl ?_
        refine m_if_eq (tgt := 91) hC dL_best_57 (by decide) (by omega) (fun c5 => ?_) (fun c5 => by omega)
        refine m_iload hC 1 dL_best_91 rfl ?_
        exact m_iret hC dL_best_93 hr (Nat.le_of_ble_eq_true rfl) (Nat.le_of_ble_eq_true rfl) (⟨by rw [k_F_s]; first | rw [if_pos (by omega)] | rw [if_neg (by omega)], rfl⟩)
      · refine m_iconst hC dL_best_48 ?_
        refine m_goto (tgt := 53) hC dL_best_49 (by decide) ?_
        refine m_istore hC dL_best_53 (by decide) rfl ?_
        refine m_iload hC 0 dL_best_55 rfl ?_
        refine m_if_eq (tgt := 91) hC dL_best_57 (by decide) (by omega) (fun c6 => by omega) (fun c6 => ?_)
        refine m_iload hC 1 dL_best_60 rfl ?_
        refine m_aload_n hC 3 dL_best_62 rfl rfl ?_
        refine m_iload hC 2 dL_best_63 rfl ?_
        refine m_qV hC (Q_wage hF hl hX hO hR hB (k := i) (by omega) hx) dL_best_65 kc_X9_wage kV_L_92 hO rfl rfl rfl rfl (Nat.le_of_ble_eq_true rfl) ⟨by show _ ≤ 13 + (n + 1); omega, by show _ ≤ 100 * (13 + (n + 1) + 1); omega⟩ ⟨Nat.le_of_ble_eq_true rfl, Nat.le_of_ble_eq_true rfl⟩ ?_
        refine m_aload_n hC 3 dL_best_68 rfl rfl ?_
        refine m_iload_n hC 4 dL_best_69 rfl rfl ?_
        refine m_iload_n hC 5 dL_best_70 rfl rfl ?_
        refine m_iconst hC dL_best_71 ?_
        refine m_iadd hC dL_best_72 ?_
        refine m_iload_n hC 6 dL_best_73 rfl rfl ?_
        refine m_aload_n hC 3 dL_best_74 rfl rfl ?_
        refine m_iload hC 2 dL_best_75 rfl ?_
        refine m_qV hC (Q_effort hF hl hX hO hR hB (k := i) (by omega) hx) dL_best_77 kc_X9_effort kV_L_191 hO rfl rfl rfl rfl (Nat.le_of_ble_eq_true rfl) ⟨by show _ ≤ 13 + (n + 1); omega, by show _ ≤ 100 * (13 + (n + 1) + 1); omega⟩ ⟨Nat.le_of_ble_eq_true rfl, Nat.le_of_ble_eq_true rfl⟩ ?_
        refine m_isub hC dL_best_80 ?_
        refine m_qS hC (ih (i + 1) (e9 - g 13 i) (by omega) (by omega) (by omega)) dL_best_81 kc_L_best kS_L_203 rfl rfl (Nat.le_of_ble_eq_true rfl) ⟨by show _ ≤ 13 + (n + 1); omega, by show _ ≤ 100 * (13 + (n + 1) + 1); omega⟩ ⟨Nat.le_of_ble_eq_true rfl, Nat.le_of_ble_eq_true rfl⟩ ?_
        have hbd2 := k_F_bd hB y n (i + 1) (e9 - g 13 i) (by omega) (by omega)
        refine m_iadd hC dL_best_84 ?_
        refine m_mmax hC dL_best_85 kM_L_127 (by omega) (by show _ ≤ 13 + (n + 1); omega) (Nat.le_of_ble_eq_true rfl) (Nat.le_of_ble_eq_true rfl) (Nat.le_of_ble_eq_true rfl) ?_
        refine m_goto (tgt := 93) hC dL_best_88 (by decide) ?_
        exact m_iret hC dL_best_93 hr (Nat.le_of_ble_eq_true rfl) (Nat.le_of_ble_eq_true rfl) (⟨by rw [k_F_s]; first | rw [if_pos (by omega)] | rw [if_neg (by omega)], rfl⟩)

/-- a value, told row by row -/
def lkF (F : Int → Int → Int) (z : Int) : Nat → Int
  | 0 => z
  | n + 1 => F (lkF F z n) (n : Int)
theorem lkF_s {F : Int → Int → Int} {z i : Int} (h : 0 ≤ i) : lkF F z (i + 1).toNat = F (lkF F z i.toNat) i := by
  obtain ⟨n, rfl⟩ := Int.eq_ofNat_of_zero_le h
  rfl
def lk_1 (g : h_T) : Int := 31 * (31 * (31 * g 0 0 + g 0 1) + g 0 4) + g 0 5
def lk_2 (g : h_T) : Int := 31 * (31 * (31 * lk_1 g + g 0 6) + g 0 7) + (100 + g 0 2 - g 0 3)
def lk_3 (g : h_T) : Int → Int → Int := fun b i => 31 * b + g 1 i
def lk_4 (g : h_T) : Int → Int → Int := fun b i => 31 * (31 * b + g 2 i) + g 3 i
def lk_5 (g : h_T) : Int → Int → Int := fun b i => 31 * (31 * (31 * (31 * (31 * b + g 4 i) + g 5 i) + g 6 i) + g 7 i) + g 8 i
def lk_6 (g : h_T) : Int → Int → Int := fun b i => 31 * (31 * (31 * (31 * (31 * b + g 9 i) + g 10 i) + g 11 i) + g 12 i) + g 13 i
def S_l3 (g : h_T) : Int := lkF (lk_3 g) (lk_2 g) 6
def S_l4 (g : h_T) : Int := lkF (lk_4 g) (S_l3 g) (g 0 8).toNat
def S_l5 (g : h_T) : Int := lkF (lk_5 g) (S_l4 g) (g 0 9).toNat
def S_l6 (g : h_T) : Int := lkF (lk_6 g) (S_l5 g) (g 0 11).toNat
def S_looks (g : h_T) : Int := 31 * S_l6 g + g 0 9

set_option maxHeartbeats 4000000 in
set_option maxRecDepth 100000 in
theorem t_L_looks {D : va_G} {aC : Nat → ClassId} {s0 : State} {l : Launch} (hF : m_F D aC s0) (hl : l.stackTraces = false) (hX : m_TH s0) {x : Nat} {q : Int → Int} {g : h_T} {M : m_M} (hO : gO x q M) (hR : hhR (x + 1) g M) (hB : h_B g) (hx : nX g) : m_Met D aC s0 l yL_looks cL_looks 4 (some .int) 13 (470) (940) [.ref x] M (qM (VI (S_looks g)) M) m_nx := by
  refine m_entry (lv := [(0, .ref x)]) (by decide +kernel) (Nat.le_of_ble_eq_true rfl) rfl hF hl ?_
  intro p e s m args below meth c hC hr hno hnm
  change m_C D aC s0 RL _ _ _ _ _ _ _ _ _ at hC
  have n8 := hB.n8
  have n9 := hB.n9
  have n11 := hB.n11
  refine m_bipush hC dL_looks_0 (by decide) ?_
  refine m_bipush hC dL_looks_2 (by decide) ?_
  refine m_bipush hC dL_looks_4 (by decide) ?_
  refine m_aload_n hC 0 dL_looks_6 rfl rfl ?_
  refine m_qV hC (Q_night hF hl hX hO hR hB) dL_looks_7 kc_X9_night kV_L_138 hO rfl rfl rfl rfl (Nat.le_of_ble_eq_true rfl) ⟨Nat.le_of_ble_eq_true rfl, Nat.le_of_ble_eq_true rfl⟩ ⟨Nat.le_of_ble_eq_true rfl, Nat.le_of_ble_eq_true rfl⟩ ?_
  refine m_imul hC dL_looks_10 ?_
  refine m_aload_n hC 0 dL_looks_11 rfl rfl ?_
  refine m_qV hC (Q_chest hF hl hX hO hR hB) dL_looks_12 kc_X9_chest kV_L_141 hO rfl rfl rfl rfl (Nat.le_of_ble_eq_true rfl) ⟨Nat.le_of_ble_eq_true rfl, Nat.le_of_ble_eq_true rfl⟩ ⟨Nat.le_of_ble_eq_true rfl, Nat.le_of_ble_eq_true rfl⟩ ?_
  refine m_iadd hC dL_looks_15 ?_
  refine m_imul hC dL_looks_16 ?_
  refine m_aload_n hC 0 dL_looks_17 rfl rfl ?_
  refine m_qV hC (Q_doneTotal hF hl hX hO hR hB) dL_looks_18 kc_X9_doneTotal kV_L_144 hO rfl rfl rfl rfl (Nat.le_of_ble_eq_true rfl) ⟨Nat.le_of_ble_eq_true rfl, Nat.le_of_ble_eq_true rfl⟩ ⟨Nat.le_of_ble_eq_true rfl, Nat.le_of_ble_eq_true rfl⟩ ?_
  refine m_iadd hC dL_looks_21 ?_
  refine m_imul hC dL_looks_22 ?_
  refine m_aload_n hC 0 dL_looks_23 rfl rfl ?_
  refine m_qV hC (Q_brokenTotal hF hl hX hO hR hB) dL_looks_24 kc_X9_brokenTotal kV_L_147 hO rfl rfl rfl rfl (Nat.le_of_ble_eq_true rfl) ⟨Nat.le_of_ble_eq_true rfl, Nat.le_of_ble_eq_true rfl⟩ ⟨Nat.le_of_ble_eq_true rfl, Nat.le_of_ble_eq_true rfl⟩ ?_
  refine m_iadd hC dL_looks_27 ?_
  refine m_istore_n hC dL_looks_28 rfl (by decide) rfl ?_
  refine m_bipush hC dL_looks_29 (by decide) ?_
  refine m_bipush hC dL_looks_31 (by decide) ?_
  refine m_bipush hC dL_looks_33 (by decide) ?_
  refine m_iload_n hC 0 dL_looks_35 rfl rfl ?_
  refine m_imul hC dL_looks_36 ?_
  refine m_aload_n hC 1 dL_looks_37 rfl rfl ?_
  refine m_qV hC (Q_unpaidTotal hF hl hX hO hR hB) dL_looks_38 kc_X9_unpaidTotal kV_L_150 hO rfl rfl rfl rfl (Nat.le_of_ble_eq_true rfl) ⟨Nat.le_of_ble_eq_true rfl, Nat.le_of_ble_eq_true rfl⟩ ⟨Nat.le_of_ble_eq_true rfl, Nat.le_of_ble_eq_true rfl⟩ ?_
  refine m_iadd hC dL_looks_41 ?_
  refine m_imul hC dL_looks_42 ?_
  refine m_aload_n hC 1 dL_looks_43 rfl rfl ?_
  refine m_qV hC (Q_interestTotal hF hl hX hO hR hB) dL_looks_44 kc_X9_interestTotal kV_L_153 hO rfl rfl rfl rfl (Nat.le_of_ble_eq_true rfl) ⟨Nat.le_of_ble_eq_true rfl, Nat.le_of_ble_eq_true rfl⟩ ⟨Nat.le_of_ble_eq_true rfl, Nat.le_of_ble_eq_true rfl⟩ ?_
  refine m_iadd hC dL_looks_47 ?_
  refine m_imul hC dL_looks_48 ?_
  refine m_aload_n hC 1 dL_looks_49 rfl rfl ?_
  refine m_qV hC (Q_allCrumbsByAccounts hF hl hX hO hR hB) dL_looks_50 kc_X9_allCrumbsByAccounts kV_L_156 hO rfl rfl rfl rfl (Nat.le_of_ble_eq_true rfl) ⟨Nat.le_of_ble_eq_true rfl, Nat.le_of_ble_eq_true rfl⟩ ⟨Nat.le_of_ble_eq_true rfl, Nat.le_of_ble_eq_true rfl⟩ ?_
  refine m_iadd hC dL_looks_53 ?_
  refine m_istore_n hC dL_looks_54 rfl (by decide) rfl ?_
  refine m_iconst hC dL_looks_55 ?_
  refine m_istore_n hC dL_looks_56 rfl (by decide) rfl ?_
  have L3 : ∀ (n : Nat) (i b9 : Int), (6 : Int) - i < (n : Int) → 0 ≤ i → i ≤ (6 : Int) → b9 = lkF (lk_3 g) (lk_2 g) i.toNat → m_W D aC s0 4 p l e (m_R 13 (470) (940)) s m args below meth c (0) (0) (m_Q D aC s0 below (qM (VI (S_looks g)) M) m_nx args s (470) (940)) 57 [(2, VI i), (1, VI b9), (0, .ref x)] [] M := by
    intro n
    induction n with
    | zero =>
      intro i b9 hn h0 h1 hb9
      omega
    | succ n ih =>
      intro i b9 hn h0 h1 hb9
      have hdu : i < 6 → 0 ≤ g 1 i ∧ g 1 i ≤ 99 := fun z => hB.du ⟨h0, z⟩
      refine m_iload_n hC 0 dL_looks_57 rfl rfl ?_
      refine m_bipush hC dL_looks_58 (by decide) ?_
      refine m_icmp_ge (tgt := 80) hC dL_looks_60 (by decide) (by first | omega | (simp [hs_at] <;> omega)) (fun c1 => ?_) (fun c1 => ?_)
      · have e9 : i = 6 := by omega
        rw [e9] at hb9
        have hb9 : b9 = S_l3 g := hb9
        subst hb9
        refine m_iconst hC dL_looks_80 ?_
        refine m_istore_n hC dL_looks_81 rfl (by decide) rfl ?_
        have L4 : ∀ (n : Nat) (i b9 : Int), g 0 8 - i < (n : Int) → 0 ≤ i → i ≤ g 0 8 → b9 = lkF (lk_4 g) (S_l3 g) i.toNat → m_W D aC s0 4 p l e (m_R 13 (470) (940)) s m args below meth c (0) (0) (m_Q D aC s0 below (qM (VI (S_looks g)) M) m_nx args s (470) (940)) 82 [(2, VI i), (1, VI b9), (0, .ref x)] [] M := by
          intro n
          induction n with
          | zero =>
            intro i b9 hn h0 h1 hb9
            omega
          | succ n ih =>
            intro i b9 hn h0 h1 hb9
            have hbr : i < g 0 8 → 1 ≤ g 2 i ∧ g 2 i ≤ 20 ∧ (g 3 i = 0 ∨ g 3 i = 1) := fun z => hB.br ⟨h0, z⟩
            refine m_iload_n hC 0 dL_looks_82 rfl rfl ?_
            refine m_aload_n hC 2 dL_looks_83 rfl rfl ?_
            refine m_qV hC (Q_broomCount hF hl hX hO hR hB) dL_looks_84 kc_X9_broomCount kV_L_132 hO rfl rfl rfl rfl (Nat.le_of_ble_eq_true rfl) ⟨Nat.le_of_ble_eq_true rfl, Nat.le_of_ble_eq_true rfl⟩ ⟨Nat.le_of_ble_eq_true rfl, Nat.le_of_ble_eq_true rfl⟩ ?_
            refine m_icmp_ge (tgt := 119) hC dL_looks_87 (by decide) (by first | omega | (simp [hs_at] <;> omega)) (fun c2 => ?_) (fun c2 => ?_)
            · have e9 : i = g 0 8 := by omega
              rw [e9] at hb9
              have hb9 : b9 = S_l4 g := hb9
              subst hb9
              refine m_iconst hC dL_looks_119 ?_
              refine m_istore_n hC dL_looks_120 rfl (by decide) rfl ?_
              have L5 : ∀ (n : Nat) (i b9 : Int), g 0 9 - i < (n : Int) → 0 ≤ i → i ≤ g 0 9 → b9 = lkF (lk_5 g) (S_l4 g) i.toNat → m_W D aC s0 4 p l e (m_R 13 (470) (940)) s m args below meth c (0) (0) (m_Q D aC s0 below (qM (VI (S_looks g)) M) m_nx args s (470) (940)) 121 [(2, VI i), (1, VI b9), (0, .ref x)] [] M := by
                intro n
                induction n with
                | zero =>
                  intro i b9 hn h0 h1 hb9
                  omega
                | succ n ih =>
                  intro i b9 hn h0 h1 hb9
                  have hgo : i < g 0 9 → _ := fun z => hB.go ⟨h0, z⟩
                  refine m_iload_n hC 0 dL_looks_121 rfl rfl ?_
                  refine m_aload_n hC 2 dL_looks_122 rfl rfl ?_
                  refine m_qV hC (Q_goblinCount hF hl hX hO hR hB) dL_looks_123 kc_X9_goblinCount kV_L_124 hO rfl rfl rfl rfl (Nat.le_of_ble_eq_true rfl) ⟨Nat.le_of_ble_eq_true rfl, Nat.le_of_ble_eq_true rfl⟩ ⟨Nat.le_of_ble_eq_true rfl, Nat.le_of_ble_eq_true rfl⟩ ?_
                  refine m_icmp_ge (tgt := 185) hC dL_looks_126 (by decide) (by first | omega | (simp [hs_at] <;> omega)) (fun c3 => ?_) (fun c3 => ?_)
                  · have e9 : i = g 0 9 := by omega
                    rw [e9] at hb9
                    have hb9 : b9 = S_l5 g := hb9
                    subst hb9
                    refine m_iconst hC dL_looks_185 ?_
                    refine m_istore_n hC dL_looks_186 rfl (by decide) rfl ?_
                    have L6 : ∀ (n : Nat) (i b9 : Int), g 0 11 - i < (n : Int) → 0 ≤ i → i ≤ g 0 11 → b9 = lkF (lk_6 g) (S_l5 g) i.toNat → m_W D aC s0 4 p l e (m_R 13 (470) (940)) s m args below meth c (0) (0) (m_Q D aC s0 below (qM (VI (S_looks g)) M) m_nx args s (470) (940)) 187 [(2, VI i), (1, VI b9), (0, .ref x)] [] M := by
                      intro n
                      induction n with
                      | zero =>
                        intro i b9 hn h0 h1 hb9
                        omega
                      | succ n ih =>
                        intro i b9 hn h0 h1 hb9
                        refine m_iload_n hC 0 dL_looks_187 rfl rfl ?_
                        refine m_aload_n hC 2 dL_looks_188 rfl rfl ?_
                        refine m_qV hC (Q_openContracts hF hl hX hO hR hB) dL_looks_189 kc_X9_openContracts kV_L_135 hO rfl rfl rfl rfl (Nat.le_of_ble_eq_true rfl) ⟨Nat.le_of_ble_eq_true rfl, Nat.le_of_ble_eq_true rfl⟩ ⟨Nat.le_of_ble_eq_true rfl, Nat.le_of_ble_eq_true rfl⟩ ?_
                        refine m_icmp_ge (tgt := 250) hC dL_looks_192 (by decide) (by first | omega | (simp [hs_at] <;> omega)) (fun c4 => ?_) (fun c4 => ?_)
                        · have e9 : i = g 0 11 := by omega
                          rw [e9] at hb9
                          have hb9 : b9 = S_l6 g := hb9
                          subst hb9
                          refine m_bipush hC dL_looks_250 (by decide) ?_
                          refine m_iload_n hC 1 dL_looks_252 rfl rfl ?_
                          refine m_imul hC dL_looks_253 ?_
                          refine m_aload_n hC 2 dL_looks_254 rfl rfl ?_
                          refine m_qV hC (Q_goblinCount hF hl hX hO hR hB) dL_looks_255 kc_X9_goblinCount kV_L_124 hO rfl rfl rfl rfl (Nat.le_of_ble_eq_true rfl) ⟨Nat.le_of_ble_eq_true rfl, Nat.le_of_ble_eq_true rfl⟩ ⟨Nat.le_of_ble_eq_true rfl, Nat.le_of_ble_eq_true rfl⟩ ?_
                          refine m_iadd hC dL_looks_258 ?_
                          exact m_iret hC dL_looks_259 hr (Nat.le_of_ble_eq_true rfl) (Nat.le_of_ble_eq_true rfl) (⟨rfl, rfl⟩)
                        · refine m_aload_n hC 2 dL_looks_195 rfl rfl ?_
                          refine m_iload_n hC 0 dL_looks_196 rfl rfl ?_
                          refine m_qV hC (Q_contractAt hF hl hX hO hR hB (by omega)) dL_looks_197 kc_X9_contractAt kV_L_89 hO rfl rfl rfl rfl (Nat.le_of_ble_eq_true rfl) ⟨Nat.le_of_ble_eq_true rfl, Nat.le_of_ble_eq_true rfl⟩ ⟨Nat.le_of_ble_eq_true rfl, Nat.le_of_ble_eq_true rfl⟩ ?_
                          refine m_istore_n hC dL_looks_200 rfl (by decide) rfl ?_
                          refine m_bipush hC dL_looks_201 (by decide) ?_
                          refine m_bipush hC dL_looks_203 (by decide) ?_
                          refine m_bipush hC dL_looks_205 (by decide) ?_
                          refine m_bipush hC dL_looks_207 (by decide) ?_
                          refine m_bipush hC dL_looks_209 (by decide) ?_
                          refine m_iload_n hC 2 dL_looks_211 rfl rfl ?_
                          refine m_imul hC dL_looks_212 ?_
                          refine m_iload_n hC 0 dL_looks_213 rfl rfl ?_
                          refine m_iadd hC dL_looks_214 ?_
                          refine m_imul hC dL_looks_215 ?_
                          refine m_aload_n hC 3 dL_looks_216 rfl rfl ?_
                          refine m_iload_n hC 0 dL_looks_217 rfl rfl ?_
                          refine m_qV hC (Q_goblinOf hF hl hX hO hR hB (k := i) (by omega) hx) dL_looks_218 kc_X9_goblinOf kV_L_185 hO rfl rfl rfl rfl (Nat.le_of_ble_eq_true rfl) ⟨Nat.le_of_ble_eq_true rfl, Nat.le_of_ble_eq_true rfl⟩ ⟨Nat.le_of_ble_eq_true rfl, Nat.le_of_ble_eq_true rfl⟩ ?_
                          refine m_iadd hC dL_looks_221 ?_
                          refine m_imul hC dL_looks_222 ?_
                          refine m_aload_n hC 3 dL_looks_223 rfl rfl ?_
                          refine m_iload_n hC 0 dL_looks_224 rfl rfl ?_
                          refine m_qV hC (Q_roomOf hF hl hX hO hR hB (k := i) (by omega) hx) dL_looks_225 kc_X9_roomOf kV_L_188 hO rfl rfl rfl rfl (Nat.le_of_ble_eq_true rfl) ⟨Nat.le_of_ble_eq_true rfl, Nat.le_of_ble_eq_true rfl⟩ ⟨Nat.le_of_ble_eq_true rfl, Nat.le_of_ble_eq_true rfl⟩ ?_
                          refine m_iadd hC dL_looks_228 ?_
                          refine m_imul hC dL_looks_229 ?_
                          refine m_aload_n hC 3 dL_looks_230 rfl rfl ?_
                          refine m_iload_n hC 0 dL_looks_231 rfl rfl ?_
                          refine m_qV hC (Q_wage hF hl hX hO hR hB (k := i) (by omega) hx) dL_looks_232 kc_X9_wage kV_L_92 hO rfl rfl rfl rfl (Nat.le_of_ble_eq_true rfl) ⟨Nat.le_of_ble_eq_true rfl, Nat.le_of_ble_eq_true rfl⟩ ⟨Nat.le_of_ble_eq_true rfl, Nat.le_of_ble_eq_true rfl⟩ ?_
                          refine m_iadd hC dL_looks_235 ?_
                          refine m_imul hC dL_looks_236 ?_
                          refine m_aload_n hC 3 dL_looks_237 rfl rfl ?_
                          refine m_iload_n hC 0 dL_looks_238 rfl rfl ?_
                          refine m_qV hC (Q_effort hF hl hX hO hR hB (k := i) (by omega) hx) dL_looks_239 kc_X9_effort kV_L_191 hO rfl rfl rfl rfl (Nat.le_of_ble_eq_true rfl) ⟨Nat.le_of_ble_eq_true rfl, Nat.le_of_ble_eq_true rfl⟩ ⟨Nat.le_of_ble_eq_true rfl, Nat.le_of_ble_eq_true rfl⟩ ?_
                          refine m_iadd hC dL_looks_242 ?_
                          refine m_istore_n hC dL_looks_243 rfl (by decide) rfl ?_
                          refine m_iinc hC 2 dL_looks_244 rfl (by decide) rfl ?_
                          refine m_goto (tgt := 187) hC dL_looks_247 (by decide) ?_
                          refine m_lvs [0, 1, 3] rfl (ih (i + 1) _ (by omega) (by omega) (by omega) (by rw [lkF_s h0, hb9]; rfl))
                    refine m_lvs [0, 1, 2] rfl (L6 ((g 0 11 - 0).toNat + 1) 0 _ (by omega) (by omega) (by omega) rfl)
                  · have hgo := hgo (by omega)
                    refine m_bipush hC dL_looks_129 (by decide) ?_
                    refine m_bipush hC dL_looks_131 (by decide) ?_
                    refine m_bipush hC dL_looks_133 (by decide) ?_
                    refine m_bipush hC dL_looks_135 (by decide) ?_
                    refine m_bipush hC dL_looks_137 (by decide) ?_
                    refine m_iload_n hC 1 dL_looks_139 rfl rfl ?_
                    refine m_imul hC dL_looks_140 ?_
                    refine m_aload_n hC 2 dL_looks_141 rfl rfl ?_
                    refine m_iload_n hC 0 dL_looks_142 rfl rfl ?_
                    refine m_qV hC (Q_strength hF hl hX hO hR hB (by omega)) dL_looks_143 kc_X9_strength kV_L_170 hO rfl rfl rfl rfl (Nat.le_of_ble_eq_true rfl) ⟨Nat.le_of_ble_eq_true rfl, Nat.le_of_ble_eq_true rfl⟩ ⟨Nat.le_of_ble_eq_true rfl, Nat.le_of_ble_eq_true rfl⟩ ?_
                    refine m_iadd hC dL_looks_146 ?_
                    refine m_imul hC dL_looks_147 ?_
                    refine m_aload_n hC 2 dL_looks_148 rfl rfl ?_
                    refine m_iload_n hC 0 dL_looks_149 rfl rfl ?_
                    refine m_qV hC (Q_purse hF hl hX hO hR hB (by omega)) dL_looks_150 kc_X9_purse kV_L_173 hO rfl rfl rfl rfl (Nat.le_of_ble_eq_true rfl) ⟨Nat.le_of_ble_eq_true rfl, Nat.le_of_ble_eq_true rfl⟩ ⟨Nat.le_of_ble_eq_true rfl, Nat.le_of_ble_eq_true rfl⟩ ?_
                    refine m_iadd hC dL_looks_153 ?_
                    refine m_imul hC dL_looks_154 ?_
                    refine m_aload_n hC 2 dL_looks_155 rfl rfl ?_
                    refine m_iload_n hC 0 dL_looks_156 rfl rfl ?_
                    refine m_qV hC (Q_debt hF hl hX hO hR hB (by omega)) dL_looks_157 kc_X9_debt kV_L_176 hO rfl rfl rfl rfl (Nat.le_of_ble_eq_true rfl) ⟨Nat.le_of_ble_eq_true rfl, Nat.le_of_ble_eq_true rfl⟩ ⟨Nat.le_of_ble_eq_true rfl, Nat.le_of_ble_eq_true rfl⟩ ?_
                    refine m_iadd hC dL_looks_160 ?_
                    refine m_imul hC dL_looks_161 ?_
                    refine m_aload_n hC 2 dL_looks_162 rfl rfl ?_
                    refine m_iload_n hC 0 dL_looks_163 rfl rfl ?_
                    refine m_qV hC (Q_skippedNights hF hl hX hO hR hB (by omega)) dL_looks_164 kc_X9_skippedNights kV_L_179 hO rfl rfl rfl rfl (Nat.le_of_ble_eq_true rfl) ⟨Nat.le_of_ble_eq_true rfl, Nat.le_of_ble_eq_true rfl⟩ ⟨Nat.le_of_ble_eq_true rfl, Nat.le_of_ble_eq_true rfl⟩ ?_
                    refine m_iadd hC dL_looks_167 ?_
                    refine m_imul hC dL_looks_168 ?_
                    refine m_aload_n hC 2 dL_looks_169 rfl rfl ?_
                    refine m_iload_n hC 0 dL_looks_170 rfl rfl ?_
                    refine m_qV hC (Q_isResting hF hl hX hO hR hB (by omega)) dL_looks_171 kc_X9_isResting kV_L_182 hO rfl rfl rfl rfl (Nat.le_of_ble_eq_true rfl) ⟨Nat.le_of_ble_eq_true rfl, Nat.le_of_ble_eq_true rfl⟩ ⟨Nat.le_of_ble_eq_true rfl, Nat.le_of_ble_eq_true rfl⟩ ?_
                    refine m_qS hC (t_L_told hF hl (by omega)) dL_looks_174 kc_L_told kS_L_166 rfl rfl (Nat.le_of_ble_eq_true rfl) ⟨Nat.le_of_ble_eq_true rfl, Nat.le_of_ble_eq_true rfl⟩ ⟨Nat.le_of_ble_eq_true rfl, Nat.le_of_ble_eq_true rfl⟩ ?_
                    refine m_iadd hC dL_looks_177 ?_
                    refine m_istore_n hC dL_looks_178 rfl (by decide) rfl ?_
                    refine m_iinc hC 1 dL_looks_179 rfl (by decide) rfl ?_
                    refine m_goto (tgt := 121) hC dL_looks_182 (by decide) ?_
                    refine m_lvs [0, 1, 2] rfl (ih (i + 1) _ (by omega) (by omega) (by omega) (by rw [lkF_s h0, hb9]; rfl))
              refine m_lvs [0, 1, 2] rfl (L5 ((g 0 9 - 0).toNat + 1) 0 _ (by omega) (by omega) (by omega) rfl)
            · have hbr := hbr (by omega)
              refine m_bipush hC dL_looks_90 (by decide) ?_
              refine m_bipush hC dL_looks_92 (by decide) ?_
              refine m_iload_n hC 1 dL_looks_94 rfl rfl ?_
              refine m_imul hC dL_looks_95 ?_
              refine m_aload_n hC 2 dL_looks_96 rfl rfl ?_
              refine m_iload_n hC 0 dL_looks_97 rfl rfl ?_
              refine m_qV hC (Q_power hF hl hX hO hR hB (by omega)) dL_looks_98 kc_X9_power kV_L_159 hO rfl rfl rfl rfl (Nat.le_of_ble_eq_true rfl) ⟨Nat.le_of_ble_eq_true rfl, Nat.le_of_ble_eq_true rfl⟩ ⟨Nat.le_of_ble_eq_true rfl, Nat.le_of_ble_eq_true rfl⟩ ?_
              refine m_iadd hC dL_looks_101 ?_
              refine m_imul hC dL_looks_102 ?_
              refine m_aload_n hC 2 dL_looks_103 rfl rfl ?_
              refine m_iload_n hC 0 dL_looks_104 rfl rfl ?_
              refine m_qV hC (Q_isBanished hF hl hX hO hR hB (by omega)) dL_looks_105 kc_X9_isBanished kV_L_162 hO rfl rfl rfl rfl (Nat.le_of_ble_eq_true rfl) ⟨Nat.le_of_ble_eq_true rfl, Nat.le_of_ble_eq_true rfl⟩ ⟨Nat.le_of_ble_eq_true rfl, Nat.le_of_ble_eq_true rfl⟩ ?_
              refine m_qS hC (t_L_told hF hl (by omega)) dL_looks_108 kc_L_told kS_L_166 rfl rfl (Nat.le_of_ble_eq_true rfl) ⟨Nat.le_of_ble_eq_true rfl, Nat.le_of_ble_eq_true rfl⟩ ⟨Nat.le_of_ble_eq_true rfl, Nat.le_of_ble_eq_true rfl⟩ ?_
              refine m_iadd hC dL_looks_111 ?_
              refine m_istore_n hC dL_looks_112 rfl (by decide) rfl ?_
              refine m_iinc hC 1 dL_looks_113 rfl (by decide) rfl ?_
              refine m_goto (tgt := 82) hC dL_looks_116 (by decide) ?_
              refine m_lvs [0, 1, 2] rfl (ih (i + 1) _ (by omega) (by omega) (by omega) (by rw [lkF_s h0, hb9]; rfl))
        refine m_lvs [0, 1, 2] rfl (L4 ((g 0 8 - 0).toNat + 1) 0 _ (by omega) (by omega) (by omega) rfl)
      · refine m_bipush hC dL_looks_63 (by decide) ?_
        refine m_iload_n hC 1 dL_looks_65 rfl rfl ?_
        refine m_imul hC dL_looks_66 ?_
        refine m_aload_n hC 2 dL_looks_67 rfl rfl ?_
        refine m_iload_n hC 0 dL_looks_68 rfl rfl ?_
        refine m_qV hC (Q_dust hF hl hX hO hR hB (by omega)) dL_looks_69 kc_X9_dust kV_L_74 hO rfl rfl rfl rfl (Nat.le_of_ble_eq_true rfl) ⟨Nat.le_of_ble_eq_true rfl, Nat.le_of_ble_eq_true rfl⟩ ⟨Nat.le_of_ble_eq_true rfl, Nat.le_of_ble_eq_true rfl⟩ ?_
        refine m_iadd hC dL_looks_72 ?_
        refine m_istore_n hC dL_looks_73 rfl (by decide) rfl ?_
        refine m_iinc hC 1 dL_looks_74 rfl (by decide) rfl ?_
        refine m_goto (tgt := 57) hC dL_looks_77 (by decide) ?_
        refine m_lvs [0, 1, 2] rfl (ih (i + 1) _ (by omega) (by omega) (by omega) (by rw [lkF_s h0, hb9]; rfl))
  refine m_lvs [0, 1, 2] rfl (L3 (((6 : Int) - 0).toNat + 1) 0 _ (by omega) (by omega) (by omega) rfl)

