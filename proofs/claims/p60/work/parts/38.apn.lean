theorem S_dig_rg : ∀ (n : Nat) (j : Nat), 0 ≤ (S_dig n).getD j 0 ∧ (S_dig n).getD j 0 < 128 := by
  intro n
  induction n using Nat.strongRecOn with
  | ind n ih =>
    intro j
    by_cases h : n < 10
    · rw [S_dig_lo h]
      cases j with
      | zero => show 0 ≤ 48 + (n : Int) ∧ 48 + (n : Int) < 128; omega
      | succ j => show (0 : Int) ≤ 0 ∧ (0 : Int) < 128; decide
    · rw [S_dig_hi (by omega)]
      by_cases hj : j < (S_dig (n / 10)).length
      · rw [List.getD_eq_getElem?_getD, List.getElem?_append_left hj, ← List.getD_eq_getElem?_getD]
        exact ih (n / 10) (by omega) j
      · rw [List.getD_eq_getElem?_getD, List.getElem?_append_right (by omega), ← List.getD_eq_getElem?_getD]
        cases j - (S_dig (n / 10)).length with
        | zero => show 0 ≤ 48 + (n : Int) % 10 ∧ 48 + (n : Int) % 10 < 128; omega
        | succ j => show (0 : Int) ≤ 0 ∧ (0 : Int) < 128; decide
theorem k_appd {tx D : List Int} {f f2 : Int → Int} (h : ∀ i : Nat, i < tx.length → f (i : Int) = tx.getD i 0) (h1 : ∀ i : Int, 0 ≤ i ∧ i < (tx.length : Int) → f2 i = f i) (h2 : ∀ j : Nat, j < D.length → f2 ((tx.length : Int) + (j : Int)) = D.getD j 0) : ∀ i : Nat, i < (tx ++ D).length → f2 (i : Int) = (tx ++ D).getD i 0 := by
  intro i hi
  rw [List.length_append] at hi
  by_cases hq : i < tx.length
  · rw [h1 i (by omega), h i hq, List.getD_eq_getElem?_getD, List.getD_eq_getElem?_getD, List.getElem?_append_left hq]
  · have := h2 (i - tx.length) (by omega)
    rw [show (tx.length : Int) + ((i - tx.length : Nat) : Int) = (i : Int) by omega] at this
    rw [this, List.getD_eq_getElem?_getD, List.getD_eq_getElem?_getD, List.getElem?_append_right (by omega)]

theorem S_dig_le {z : Nat} (hz : z < 1000000000) : (S_dig z).length ≤ 10 := by
  have key : ∀ (k n : Nat), n < 10 ^ (k + 1) → (S_dig n).length ≤ k + 1 := by
    intro k
    induction k with
    | zero => intro n h; rw [S_dig_lo (by simpa using h)]; exact Nat.le_refl _
    | succ k ih =>
      intro n h
      by_cases h1 : n < 10
      · rw [S_dig_lo h1]; exact Nat.le_add_left _ _
      · rw [S_dig_hi (by omega), List.length_append]
        have h4 : 10 ^ (k + 1 + 1) = 10 * 10 ^ (k + 1) := by rw [Nat.pow_succ, Nat.mul_comm]
        exact Nat.succ_le_succ (ih (n / 10) (by omega))
  exact Nat.le_trans (key 8 z hz) (by decide)

set_option maxHeartbeats 4000000 in
set_option maxRecDepth 100000 in
theorem t_J5_append_c97b9 {D : va_G} {aC : Nat → ClassId} {s0 : State} {l : Launch} (hF : m_F D aC s0) (hl : l.stackTraces = false) {fo ks vs : Nat → Nat} {fA sA dO dT : Nat} (hJ : m_J s0 fo ks vs fA sA dO dT) {a v n : Nat} {tx : List Int} {M : m_M} (hT : sbT s0.heap.size a v n tx M) {z : Nat} (hz : z < 1000000000) (hlen : tx.length + (S_dig z).length ≤ 240) : m_Met D aC s0 l yJ5_append_c97b9 cJ5_append_c97b9 4 (some (.object "java/lang/AbstractStringBuilder")) 4 (k_cc n ((tx.length : Int) + ((S_dig z).length : Int))) (k_cs n ((tx.length : Int) + ((S_dig z).length : Int))) [.ref a, VI (z : Int)] M (fun r M' => r = some (.ref a) ∧ ∃ v2 : Nat, sbT s0.heap.size a v2 (k_cap n ((tx.length : Int) + ((S_dig z).length : Int))) (tx ++ S_dig z) M' ∧ sbF a v M v2 M') m_nx := by
  refine m_entry (lv := [(0, .ref a), (1, VI (z : Int))]) (by decide +kernel) (Nat.le_of_ble_eq_true rfl) rfl hF hl ?_
  intro p e s m args below meth c hC hr hno hnm
  change m_C D aC s0 RJ5 _ _ _ _ _ _ _ _ _ at hC
  obtain ⟨ml, f, hP, hf, hb, ⟨ha, hv, hne, ha0, hv0⟩, hn1, hn2, hn3⟩ := hT
  have hd10 : (S_dig z).length ≤ 10 := S_dig_le hz
  have hdp := S_dig_pos z
  refine m_aload_n hC 0 dJ5_append_c97b9_0 rfl rfl ?_
  refine m_getf hC dJ5_append_c97b9_1 kf_J5_79 hP.1 rfl ?_
  refine m_istore_n hC dJ5_append_c97b9_4 rfl (by decide) rfl ?_
  refine m_iload_n hC 0 dJ5_append_c97b9_5 rfl rfl ?_
  refine m_iload_n hC 2 dJ5_append_c97b9_6 rfl rfl ?_
  refine m_callS hC (t_J6_stringSize_0f7a4 hF hl hz) dJ5_append_c97b9_7 kc_J6_stringSize_0f7a4 kS_J5_245 rfl rfl (Nat.le_of_ble_eq_true rfl) ⟨Nat.le_of_ble_eq_true rfl, Nat.le_of_ble_eq_true rfl⟩ ⟨Nat.zero_le _, Nat.zero_le _⟩ m_nox (fun v9 M1 h9 => ?_)
  obtain ⟨rfl, h9⟩ := h9
  replace h9 := h9.symm
  subst h9
  refine m_iadd hC dJ5_append_c97b9_10 ?_
  refine m_istore_n hC dJ5_append_c97b9_11 rfl (by decide) rfl ?_
  refine m_aload_n hC 2 dJ5_append_c97b9_12 rfl rfl ?_
  refine m_iload_n hC 0 dJ5_append_c97b9_13 rfl rfl ?_
  refine m_callU hC (t_J5_ensureCapacityInternal_d00df hF hl hJ hP hb ha hv ha0 hv0 (by omega) (x := ((tx.length : Int) + ((S_dig z).length : Int))) (by omega)) dJ5_append_c97b9_14 kc_J5_ensureCapacityInternal_d00df (kU_J5_100 hJ) (m_obr (q := (RJ4, TJ4, 4)) hC hP.1 rfl) rfl rfl (Nat.le_of_ble_eq_true rfl) ⟨Nat.le_of_ble_eq_true rfl, Nat.le_of_ble_eq_true rfl⟩ ⟨by show 0 + 0 + k_cc n ((tx.length : Int) + ((S_dig z).length : Int)) ≤ k_cc n ((tx.length : Int) + ((S_dig z).length : Int)); omega, by show 0 + 0 + k_cs n ((tx.length : Int) + ((S_dig z).length : Int)) ≤ k_cs n ((tx.length : Int) + ((S_dig z).length : Int)); omega⟩ m_nox (fun v9 M2 h9 => ?_)
  obtain ⟨rfl, v2, f2, hP2, hfe, hb2, hF2⟩ := h9
  have hcap := k_cap_ge (n := n) (x := ((tx.length : Int) + ((S_dig z).length : Int))) (by omega)
  have hcap2 := k_cap_le (n := n) (x := ((tx.length : Int) + ((S_dig z).length : Int))) (by omega)
  generalize hcapE : k_cap n ((tx.length : Int) + ((S_dig z).length : Int)) = n2 at *
  obtain ⟨hF21, hF22, hF23, hF24⟩ := id hF2
  have hv2 : s0.heap.size ≤ v2 := by omega
  have hne2 : v2 ≠ a := by omega
  refine m_aload_n hC 2 dJ5_append_c97b9_17 rfl rfl ?_
  refine m_callU hC (t_J5_isLatin1_aae02 hF hl hJ hP2.1) dJ5_append_c97b9_18 kc_J5_isLatin1_aae02 kU_J5_83 (m_obr (q := (RJ4, TJ4, 4)) hC hP2.1 rfl) rfl rfl (Nat.le_of_ble_eq_true rfl) ⟨Nat.le_of_ble_eq_true rfl, Nat.le_of_ble_eq_true rfl⟩ ⟨by show 0 + 0 + k_cc n ((tx.length : Int) + ((S_dig z).length : Int)) + 0 ≤ k_cc n ((tx.length : Int) + ((S_dig z).length : Int)); omega, by show 0 + 0 + k_cs n ((tx.length : Int) + ((S_dig z).length : Int)) + 0 ≤ k_cs n ((tx.length : Int) + ((S_dig z).length : Int)); omega⟩ m_nox (fun v9 M3 h9 => ?_)
  obtain ⟨rfl, h9⟩ := h9
  replace h9 := h9.symm
  subst h9
  refine m_if_eq (tgt := 37) hC dJ5_append_c97b9_21 (by decide) (by first | omega | (simp [hs_at] <;> omega)) (fun c4 => ?_) (fun c4 => ?_)
  · omega
  · refine m_iload_n hC 3 dJ5_append_c97b9_24 rfl rfl ?_
    refine m_iload_n hC 0 dJ5_append_c97b9_25 rfl rfl ?_
    refine m_aload_n hC 2 dJ5_append_c97b9_26 rfl rfl ?_
    refine m_getf hC dJ5_append_c97b9_27 kf_J5_15 hP2.1 rfl ?_
    refine m_callS hC (t_J6_getChars_ba4f3 hF hl hJ hz hP2.2 hv2 hb2 (by omega) (e9 := ((tx.length : Int) + ((S_dig z).length : Int))) (by omega)) dJ5_append_c97b9_30 kc_J6_getChars_ba4f3 kS_J5_248 rfl rfl (Nat.le_of_ble_eq_true rfl) ⟨Nat.le_of_ble_eq_true rfl, Nat.le_of_ble_eq_true rfl⟩ ⟨by show 0 + 0 + k_cc n ((tx.length : Int) + ((S_dig z).length : Int)) + 0 + 0 ≤ k_cc n ((tx.length : Int) + ((S_dig z).length : Int)); omega, by show 0 + 0 + k_cs n ((tx.length : Int) + ((S_dig z).length : Int)) + 0 + 0 ≤ k_cs n ((tx.length : Int) + ((S_dig z).length : Int)); omega⟩ m_nox (fun v9 M7 h9 => ?_)
    obtain ⟨rfl, f3, hV3, hf3, hG3⟩ := h9
    have hS3 := (hf3.2 a (by omega)).trans hP2.1
    refine m_pop hC dJ5_append_c97b9_33 rfl ?_
    refine m_goto (tgt := 48) hC dJ5_append_c97b9_34 (by decide) ?_
    refine m_aload_n hC 2 dJ5_append_c97b9_48 rfl rfl ?_
    refine m_iload_n hC 0 dJ5_append_c97b9_49 rfl rfl ?_
    refine m_gpf hC dJ5_append_c97b9_50 kf_J5_79 kw_1_3 hS3 ha0 (Nat.le_of_ble_eq_true rfl) rfl rfl (fun M5 R6 f7 => ?_)
    change M5.2 _ = some (m_ob 1 [_, _, _, _]) at R6
    have R8 := (f7.2 _ (by omega)).trans hV3
    refine m_aload_n hC 2 dJ5_append_c97b9_53 rfl rfl ?_
    have hE9 : (tx.length : Int) + ((S_dig z).length : Int) - ((S_dig z).length : Int) = (tx.length : Int) := by omega
    rw [hE9] at hG3
    have hll : ((tx ++ S_dig z).length : Int) = (tx.length : Int) + ((S_dig z).length : Int) := by rw [List.length_append]; rfl
    exact m_aret hC dJ5_append_c97b9_54 hr (Or.inl ⟨_, rfl⟩) (by show 0 + 0 + k_cc n ((tx.length : Int) + ((S_dig z).length : Int)) + 0 + 0 ≤ k_cc n ((tx.length : Int) + ((S_dig z).length : Int)); omega) (by show 0 + 0 + k_cs n ((tx.length : Int) + ((S_dig z).length : Int)) + 0 + 0 ≤ k_cs n ((tx.length : Int) + ((S_dig z).length : Int)); omega) ⟨rfl, v2, ⟨ml, f3, ⟨by rw [hll]; exact R6, R8⟩, k_appd hf (fun i hi => (hG3.2.2.1 i hi.2).trans (hfe i (by omega))) hG3.2.1, hG3.2.2.2, ⟨by rw [f7.1, hf3.1]; omega, by rw [f7.1, hf3.1]; omega, by omega, ha0, hv2⟩, by omega, by omega, by omega⟩, sbF.tr hF2 ⟨Or.inl rfl, by rw [f7.1, hf3.1]; omega, by rw [f7.1, hf3.1]; omega, fun q h1 h2 h3 => (f7.2 q (by omega)).trans (hf3.2 q (by omega))⟩⟩

set_option maxHeartbeats 4000000 in
set_option maxRecDepth 100000 in
theorem t_J4_append_bf812 {D : va_G} {aC : Nat → ClassId} {s0 : State} {l : Launch} (hF : m_F D aC s0) (hl : l.stackTraces = false) {fo ks vs : Nat → Nat} {fA sA dO dT : Nat} (hJ : m_J s0 fo ks vs fA sA dO dT) {a v n : Nat} {tx : List Int} {M : m_M} (hT : sbT s0.heap.size a v n tx M) {z : Nat} (hz : z < 1000000000) (hlen : tx.length + (S_dig z).length ≤ 240) : m_Met D aC s0 l yJ4_append_bf812 cJ4_append_bf812 2 (some (.object "java/lang/StringBuilder")) 5 (k_cc n ((tx.length : Int) + ((S_dig z).length : Int))) (k_cs n ((tx.length : Int) + ((S_dig z).length : Int))) [.ref a, VI (z : Int)] M (fun r M' => r = some (.ref a) ∧ ∃ v2 : Nat, sbT s0.heap.size a v2 (k_cap n ((tx.length : Int) + ((S_dig z).length : Int))) (tx ++ S_dig z) M' ∧ sbF a v M v2 M') m_nx := by
  refine m_entry (lv := [(0, .ref a), (1, VI (z : Int))]) (by decide +kernel) (Nat.le_of_ble_eq_true rfl) rfl hF hl ?_
  intro p e s m args below meth c hC hr hno hnm
  change m_C D aC s0 RJ4 _ _ _ _ _ _ _ _ _ at hC
  obtain ⟨ml9, f9, ⟨hS9, -⟩, -⟩ := id hT
  refine m_aload_n hC 0 dJ4_append_bf812_0 rfl rfl ?_
  refine m_iload_n hC 1 dJ4_append_bf812_1 rfl rfl ?_
  refine m_callP hC (t_J5_append_c97b9 hF hl hJ hT hz hlen) dJ4_append_bf812_2 kc_J5_append_c97b9 kP_J4_53 hS9 rfl rfl rfl (Nat.le_of_ble_eq_true rfl) ⟨Nat.le_of_ble_eq_true rfl, Nat.le_of_ble_eq_true rfl⟩ ⟨by show 0 + k_cc n ((tx.length : Int) + ((S_dig z).length : Int)) ≤ k_cc n ((tx.length : Int) + ((S_dig z).length : Int)); omega, by show 0 + k_cs n ((tx.length : Int) + ((S_dig z).length : Int)) ≤ k_cs n ((tx.length : Int) + ((S_dig z).length : Int)); omega⟩ m_nox (fun v9 M1 h9 => ?_)
  obtain ⟨rfl, hpost⟩ := h9
  refine m_pop hC dJ4_append_bf812_5 rfl ?_
  refine m_aload_n hC 0 dJ4_append_bf812_6 rfl rfl ?_
  exact m_aret hC dJ4_append_bf812_7 hr (Or.inl ⟨_, rfl⟩) (by show 0 + k_cc n ((tx.length : Int) + ((S_dig z).length : Int)) ≤ k_cc n ((tx.length : Int) + ((S_dig z).length : Int)); omega) (by show 0 + k_cs n ((tx.length : Int) + ((S_dig z).length : Int)) ≤ k_cs n ((tx.length : Int) + ((S_dig z).length : Int)); omega) (⟨rfl, hpost⟩)

/-- a String of the old heap: its bytes -/
def m_str (s0 : State) (q v : Nat) (z : List Int) : Prop := va_O "java/lang/String" q (m_A s0) s0 s0.heap ∧ va_OF "java/lang/String" "coder" "B" (VI 0) q (m_A s0) s0 s0.heap ∧ va_OF "java/lang/String" "value" "[B" (.ref v) q (m_A s0) s0 s0.heap ∧ va_T .byte v z.length (fun j => VI (z.getD j 0)) (m_A s0) s0 s0.heap ∧ (∀ j : Nat, 0 ≤ z.getD j 0 ∧ z.getD j 0 < 128) ∧ z.length ≤ 1000
theorem fo_z_rg : ∀ k : Nat, k < 13 → (∀ j : Nat, 0 ≤ (fo_z.getD k []).getD j 0 ∧ (fo_z.getD k []).getD j 0 < 128) ∧ (fo_z.getD k []).length ≤ 1000 := by
  have key : ∀ k : Fin 13, ((fo_z.getD k []).all (fun x => decide (0 ≤ x ∧ x < 128)) = true) ∧ (fo_z.getD k []).length ≤ 1000 := by decide +kernel
  intro k hk
  have h := key ⟨k, hk⟩
  refine ⟨fun j => ?_, h.2⟩
  by_cases hj : j < (fo_z.getD k []).length
  · have h2 := List.all_eq_true.mp h.1 ((fo_z.getD k [])[j]) (List.getElem_mem hj)
    rw [List.getD_eq_getElem?_getD, List.getElem?_eq_getElem hj]
    simpa using h2
  · rw [List.getD_eq_getElem?_getD, List.getElem?_eq_none (by omega)]
    exact ⟨Int.le_refl _, by decide⟩
theorem m_J.str {s0 : State} {fo ks vs : Nat → Nat} {fA sA dO dT : Nat} (hJ : m_J s0 fo ks vs fA sA dO dT) {k : Nat} (hk : k < 13) : m_str s0 (ks k) (vs k) (fo_z.getD k []) := ⟨hJ.sob k hk, hJ.scd k hk, hJ.sva k hk, hJ.sby k hk, (fo_z_rg k hk).1, (fo_z_rg k hk).2⟩

set_option maxHeartbeats 4000000 in
set_option maxRecDepth 100000 in
theorem t_J0_isLatin1_aae02 {D : va_G} {aC : Nat → ClassId} {s0 : State} {l : Launch} (hF : m_F D aC s0) (hl : l.stackTraces = false) {fo ks vs : Nat → Nat} {fA sA dO dT : Nat} (hJ : m_J s0 fo ks vs fA sA dO dT) {q v : Nat} {z : List Int} {M : m_M} (hq : m_str s0 q v z) : m_Met D aC s0 l yJ0_isLatin1_aae02 cJ0_isLatin1_aae02 1 (some .boolean) 0 (0) (0) [.ref q] M (fun r M' => r = some (VI 1) ∧ M' = M) m_nx := by
  refine m_entry (lv := [(0, .ref q)]) (by decide +kernel) (Nat.le_of_ble_eq_true rfl) rfl hF hl ?_
  intro p e s m args below meth c hC hr hno hnm
  change m_C D aC s0 RJ0 _ _ _ _ _ _ _ _ _ at hC
  refine m_gets hC hJ.cZ kg_J0_38 dJ0_isLatin1_aae02_0 ?_
  refine m_if_eq (tgt := 17) hC dJ0_isLatin1_aae02_3 (by decide) (by first | omega | (simp [hs_at] <;> omega)) (fun c1 => ?_) (fun c1 => ?_)
  · omega
  · refine m_aload_n hC 0 dJ0_isLatin1_aae02_6 rfl rfl ?_
    refine m_cgetf hC hq.2.1 kg_J0_15 dJ0_isLatin1_aae02_7 ?_
    refine m_if_ne (tgt := 17) hC dJ0_isLatin1_aae02_10 (by decide) (by first | omega | (simp [hs_at] <;> omega)) (fun c2 => ?_) (fun c2 => ?_)
    · omega
    · refine m_iconst hC dJ0_isLatin1_aae02_13 ?_
      refine m_goto (tgt := 18) hC dJ0_isLatin1_aae02_14 (by decide) ?_
      exact m_zret hC dJ0_isLatin1_aae02_18 hr (by rfl) (by decide) (by decide) (⟨rfl, rfl⟩)

set_option maxHeartbeats 4000000 in
set_option maxRecDepth 100000 in
theorem t_J0_coder_7d493 {D : va_G} {aC : Nat → ClassId} {s0 : State} {l : Launch} (hF : m_F D aC s0) (hl : l.stackTraces = false) {fo ks vs : Nat → Nat} {fA sA dO dT : Nat} (hJ : m_J s0 fo ks vs fA sA dO dT) {q v : Nat} {z : List Int} {M : m_M} (hq : m_str s0 q v z) : m_Met D aC s0 l yJ0_coder_7d493 cJ0_coder_7d493 1 (some .byte) 0 (0) (0) [.ref q] M (fun r M' => r = some (VI 0) ∧ M' = M) m_nx := by
  refine m_entry (lv := [(0, .ref q)]) (by decide +kernel) (Nat.le_of_ble_eq_true rfl) rfl hF hl ?_
  intro p e s m args below meth c hC hr hno hnm
  change m_C D aC s0 RJ0 _ _ _ _ _ _ _ _ _ at hC
  refine m_gets hC hJ.cZ kg_J0_38 dJ0_coder_7d493_0 ?_
  refine m_if_eq (tgt := 13) hC dJ0_coder_7d493_3 (by decide) (by first | omega | (simp [hs_at] <;> omega)) (fun c1 => ?_) (fun c1 => ?_)
  · omega
  · refine m_aload_n hC 0 dJ0_coder_7d493_6 rfl rfl ?_
    refine m_cgetf hC hq.2.1 kg_J0_15 dJ0_coder_7d493_7 ?_
    refine m_goto (tgt := 14) hC dJ0_coder_7d493_10 (by decide) ?_
    exact m_zret hC dJ0_coder_7d493_14 hr (by rfl) (by decide) (by decide) (⟨rfl, rfl⟩)

set_option maxHeartbeats 4000000 in
set_option maxRecDepth 100000 in
theorem t_J0_length_8abf5 {D : va_G} {aC : Nat → ClassId} {s0 : State} {l : Launch} (hF : m_F D aC s0) (hl : l.stackTraces = false) {fo ks vs : Nat → Nat} {fA sA dO dT : Nat} (hJ : m_J s0 fo ks vs fA sA dO dT) {q v : Nat} {z : List Int} {M : m_M} (hq : m_str s0 q v z) : m_Met D aC s0 l yJ0_length_8abf5 cJ0_length_8abf5 1 (some .int) 1 (0) (0) [.ref q] M (fun r M' => r = some (VI (z.length : Int)) ∧ M' = M) m_nx := by
  refine m_entry (lv := [(0, .ref q)]) (by decide +kernel) (Nat.le_of_ble_eq_true rfl) rfl hF hl ?_
  intro p e s m args below meth c hC hr hno hnm
  change m_C D aC s0 RJ0 _ _ _ _ _ _ _ _ _ at hC
  refine m_aload_n hC 0 dJ0_length_8abf5_0 rfl rfl ?_
  refine m_cgetf hC hq.2.2.1 kg_J0_9 dJ0_length_8abf5_1 ?_
  refine m_ctl hC hq.2.2.2.1 dJ0_length_8abf5_4 ?_
  refine m_aload_n hC 0 dJ0_length_8abf5_5 rfl rfl ?_
  refine m_callVr hC (t_J0_coder_7d493 hF hl hJ hq) dJ0_length_8abf5_6 kc_J0_coder_7d493 kV_J0_335 rfl (m_old hC hq.1) rfl rfl (Nat.le_of_ble_eq_true rfl) (by decide) (by decide) m_nox (fun v9 M1 h9 => ?_)
  obtain ⟨rfl, h9⟩ := h9
  replace h9 := h9.symm
  subst h9
  refine m_ishr hC dJ0_length_8abf5_9 (z := (z.length : Int)) (k_shr0 _) ?_
  exact m_iret hC dJ0_length_8abf5_10 hr (by decide) (by decide) (⟨rfl, rfl⟩)

set_option maxHeartbeats 4000000 in
set_option maxRecDepth 100000 in
theorem t_J1_charAt_3b067 {D : va_G} {aC : Nat → ClassId} {s0 : State} {l : Launch} (hF : m_F D aC s0) (hl : l.stackTraces = false) {fo ks vs : Nat → Nat} {fA sA dO dT : Nat} (hJ : m_J s0 fo ks vs fA sA dO dT) {q v : Nat} {z : List Int} {M : m_M} (hq : m_str s0 q v z) {i : Int} (hi : 0 ≤ i ∧ i < (z.length : Int)) : m_Met D aC s0 l yJ1_charAt_3b067 cJ1_charAt_3b067 2 (some .char) 2 (0) (0) [.ref v, VI i] M (fun r M' => r = some (VI (z.getD i.toNat 0)) ∧ M' = M) m_nx := by
  refine m_entry (lv := [(0, .ref v), (1, VI i)]) (by decide +kernel) (Nat.le_of_ble_eq_true rfl) rfl hF hl ?_
  intro p e s m args below meth c hC hr hno hnm
  change m_C D aC s0 RJ1 _ _ _ _ _ _ _ _ _ at hC
  have hzz := hq.2.2.2.2.1 i.toNat
  have hz3 := hq.2.2.2.2.2
  refine m_iload_n hC 1 dJ1_charAt_3b067_0 rfl rfl ?_
  refine m_aload_n hC 0 dJ1_charAt_3b067_1 rfl rfl ?_
  refine m_ctl hC hq.2.2.2.1 dJ1_charAt_3b067_2 ?_
  refine m_callS hC (t_J0_checkIndex_df160 hF hl hJ (i := i) (z := (z.length : Int)) (by omega)) dJ1_charAt_3b067_3 kc_J0_checkIndex_df160 kS_J1_9 rfl rfl (Nat.le_of_ble_eq_true rfl) (by decide) (by decide) m_nox (fun v9 M1 h9 => ?_)
  obtain ⟨rfl, h9⟩ := h9
  replace h9 := h9.symm
  subst h9
  refine m_aload_n hC 0 dJ1_charAt_3b067_6 rfl rfl ?_
  refine m_iload_n hC 1 dJ1_charAt_3b067_7 rfl rfl ?_
  refine m_ctb hC hq.2.2.2.1 dJ1_charAt_3b067_8 (by omega) hi rfl ?_
  refine m_sipush hC dJ1_charAt_3b067_9 (by decide) ?_
  refine m_iand hC dJ1_charAt_3b067_12 (z := (z.getD i.toNat 0)) (k_and255 hzz) ?_
  refine m_i2c hC dJ1_charAt_3b067_13 (by omega) ?_
  exact m_zret hC dJ1_charAt_3b067_14 hr (k_char (by omega)) (by decide) (by decide) (⟨rfl, rfl⟩)

set_option maxHeartbeats 4000000 in
set_option maxRecDepth 100000 in
theorem t_J0_charAt_5068e {D : va_G} {aC : Nat → ClassId} {s0 : State} {l : Launch} (hF : m_F D aC s0) (hl : l.stackTraces = false) {fo ks vs : Nat → Nat} {fA sA dO dT : Nat} (hJ : m_J s0 fo ks vs fA sA dO dT) {q v : Nat} {z : List Int} {M : m_M} (hq : m_str s0 q v z) {i : Int} (hi : 0 ≤ i ∧ i < (z.length : Int)) : m_Met D aC s0 l yJ0_charAt_5068e cJ0_charAt_5068e 2 (some .char) 3 (0) (0) [.ref q, VI i] M (fun r M' => r = some (VI (z.getD i.toNat 0)) ∧ M' = M) m_nx := by
  refine m_entry (lv := [(0, .ref q), (1, VI i)]) (by decide +kernel) (Nat.le_of_ble_eq_true rfl) rfl hF hl ?_
  intro p e s m args below meth c hC hr hno hnm
  change m_C D aC s0 RJ0 _ _ _ _ _ _ _ _ _ at hC
  have hzz := hq.2.2.2.2.1 i.toNat
  refine m_aload_n hC 0 dJ0_charAt_5068e_0 rfl rfl ?_
  refine m_callVr hC (t_J0_isLatin1_aae02 hF hl hJ hq) dJ0_charAt_5068e_1 kc_J0_isLatin1_aae02 kV_J0_492 rfl (m_old hC hq.1) rfl rfl (Nat.le_of_ble_eq_true rfl) (by decide) (by decide) m_nox (fun v9 M1 h9 => ?_)
  obtain ⟨rfl, h9⟩ := h9
  replace h9 := h9.symm
  subst h9
  refine m_if_eq (tgt := 16) hC dJ0_charAt_5068e_4 (by decide) (by first | omega | (simp [hs_at] <;> omega)) (fun c2 => by omega) (fun c2 => ?_)
  refine m_aload_n hC 0 dJ0_charAt_5068e_7 rfl rfl ?_
  refine m_cgetf hC hq.2.2.1 kg_J0_9 dJ0_charAt_5068e_8 ?_
  refine m_iload_n hC 1 dJ0_charAt_5068e_11 rfl rfl ?_
  refine m_callS hC (t_J1_charAt_3b067 hF hl hJ hq hi) dJ0_charAt_5068e_12 kc_J1_charAt_3b067 kS_J0_495 rfl rfl (Nat.le_of_ble_eq_true rfl) (by decide) (by decide) m_nox (fun v9 M3 h9 => ?_)
  obtain ⟨rfl, h9⟩ := h9
  replace h9 := h9.symm
  subst h9
  exact m_zret hC dJ0_charAt_5068e_15 hr (k_char (by omega)) (by decide) (by decide) (⟨rfl, rfl⟩)

