/-- the StringBuilder at a holds the text tx; n its capacity, v its bytes, z0 the old heap's size -/
def sbT (z0 a v n : Nat) (tx : List Int) (M : m_M) : Prop := ∃ (ml : Int) (f : Int → Int), sbP a v n ml (tx.length : Int) f M ∧ (∀ i : Nat, i < tx.length → f (i : Int) = tx.getD i 0) ∧ hby f ∧ (a < M.1 ∧ v < M.1 ∧ a ≠ v ∧ z0 ≤ a ∧ z0 ≤ v) ∧ (16 ≤ n ∧ n ≤ 482 ∧ tx.length ≤ n)
theorem k_snoc {tx : List Int} {f : Int → Int} {x : Int} (h : ∀ i : Nat, i < tx.length → f (i : Int) = tx.getD i 0) : ∀ i : Nat, i < (tx ++ [x]).length → m_ug f (tx.length : Int) x (i : Int) = (tx ++ [x]).getD i 0 := by
  intro i hi
  unfold m_ug
  rw [List.length_append] at hi
  change i < tx.length + 1 at hi
  by_cases hq : i = tx.length
  · subst hq
    rw [if_pos rfl]
    simp
  · rw [if_neg (by omega), h i (by omega)]
    simp [List.getD_eq_getElem?_getD, List.getElem?_append_left (show i < tx.length by omega)]
theorem k_cap_ge {n : Nat} {x : Int} (h : x ≤ 2 * (n : Int) + 2) : x ≤ (k_cap n x : Int) ∧ n ≤ k_cap n x := by
  unfold k_cap
  split <;> omega
theorem k_cap_le {n : Nat} {x : Int} (h : n ≤ 482 ∧ x ≤ 240) : k_cap n x ≤ 482 := by
  unfold k_cap
  split <;> omega
theorem k_cc_le {n : Nat} {x : Int} : n + k_cc n x ≤ k_cap n x ∧ 2 * n + k_cs n x ≤ 2 * k_cap n x := by
  unfold k_cap k_cc k_cs
  split <;> omega

set_option maxHeartbeats 4000000 in
set_option maxRecDepth 100000 in
theorem t_J5_append_3fe6f {D : va_G} {aC : Nat → ClassId} {s0 : State} {l : Launch} (hF : m_F D aC s0) (hl : l.stackTraces = false) {fo ks vs : Nat → Nat} {fA sA dO dT : Nat} (hJ : m_J s0 fo ks vs fA sA dO dT) {a v n : Nat} {tx : List Int} {M : m_M} (hT : sbT s0.heap.size a v n tx M) {x : Int} (hx : 0 ≤ x ∧ x < 128) (hlen : tx.length + 1 ≤ 240) : m_Met D aC s0 l yJ5_append_3fe6f cJ5_append_3fe6f 2 (some (.object "java/lang/AbstractStringBuilder")) 4 (k_cc n ((tx.length : Int) + 1)) (k_cs n ((tx.length : Int) + 1)) [.ref a, VI x] M (fun r M' => r = some (.ref a) ∧ ∃ v2 : Nat, sbT s0.heap.size a v2 (k_cap n ((tx.length : Int) + 1)) (tx ++ [x]) M' ∧ sbF a v M v2 M') m_nx := by
  refine m_entry (lv := [(0, .ref a), (1, VI x)]) (by decide +kernel) (Nat.le_of_ble_eq_true rfl) rfl hF hl ?_
  intro p e s m args below meth c hC hr hno hnm
  change m_C D aC s0 RJ5 _ _ _ _ _ _ _ _ _ at hC
  obtain ⟨ml, f, hP, hf, hb, ⟨ha, hv, hne, ha0, hv0⟩, hn1, hn2, hn3⟩ := hT
  refine m_aload_n hC 0 dJ5_append_3fe6f_0 rfl rfl ?_
  refine m_aload_n hC 0 dJ5_append_3fe6f_1 rfl rfl ?_
  refine m_getf hC dJ5_append_3fe6f_2 kf_J5_79 hP.1 rfl ?_
  refine m_iconst hC dJ5_append_3fe6f_5 ?_
  refine m_iadd hC dJ5_append_3fe6f_6 ?_
  refine m_callU hC (t_J5_ensureCapacityInternal_d00df hF hl hJ hP hb ha hv ha0 hv0 (by omega) (x := ((tx.length : Int) + 1)) (by omega)) dJ5_append_3fe6f_7 kc_J5_ensureCapacityInternal_d00df (kU_J5_100 hJ) (m_obr (q := (RJ4, TJ4, 4)) hC hP.1 rfl) rfl rfl (Nat.le_of_ble_eq_true rfl) ⟨Nat.le_of_ble_eq_true rfl, Nat.le_of_ble_eq_true rfl⟩ ⟨by show 0 + k_cc n ((tx.length : Int) + 1) ≤ k_cc n ((tx.length : Int) + 1); omega, by show 0 + k_cs n ((tx.length : Int) + 1) ≤ k_cs n ((tx.length : Int) + 1); omega⟩ m_nox (fun v9 M1 h9 => ?_)
  obtain ⟨rfl, v2, f2, hP2, hfe, hb2, hF2⟩ := h9
  have hcap := k_cap_ge (n := n) (x := ((tx.length : Int) + 1)) (by omega)
  have hcap2 := k_cap_le (n := n) (x := ((tx.length : Int) + 1)) (by omega)
  generalize hcapE : k_cap n ((tx.length : Int) + 1) = n2 at *
  obtain ⟨hF21, hF22, hF23, hF24⟩ := id hF2
  have hv2 : s0.heap.size ≤ v2 := by omega
  have hne2 : v2 ≠ a := by omega
  refine m_aload_n hC 0 dJ5_append_3fe6f_10 rfl rfl ?_
  refine m_callU hC (t_J5_isLatin1_aae02 hF hl hJ hP2.1) dJ5_append_3fe6f_11 kc_J5_isLatin1_aae02 kU_J5_83 (m_obr (q := (RJ4, TJ4, 4)) hC hP2.1 rfl) rfl rfl (Nat.le_of_ble_eq_true rfl) ⟨Nat.le_of_ble_eq_true rfl, Nat.le_of_ble_eq_true rfl⟩ ⟨by show 0 + k_cc n ((tx.length : Int) + 1) + 0 ≤ k_cc n ((tx.length : Int) + 1); omega, by show 0 + k_cs n ((tx.length : Int) + 1) + 0 ≤ k_cs n ((tx.length : Int) + 1); omega⟩ m_nox (fun v9 M2 h9 => ?_)
  obtain ⟨rfl, h9⟩ := h9
  replace h9 := h9.symm
  subst h9
  refine m_if_eq (tgt := 45) hC dJ5_append_3fe6f_14 (by decide) (by first | omega | (simp [hs_at] <;> omega)) (fun c3 => ?_) (fun c3 => ?_)
  · omega
  · refine m_iload_n hC 1 dJ5_append_3fe6f_17 rfl rfl ?_
    refine m_callS hC (t_J1_canEncode_fc78d hF hl hx) dJ5_append_3fe6f_18 kc_J1_canEncode_fc78d kS_J5_191 rfl rfl (Nat.le_of_ble_eq_true rfl) ⟨Nat.le_of_ble_eq_true rfl, Nat.le_of_ble_eq_true rfl⟩ ⟨by show 0 + k_cc n ((tx.length : Int) + 1) + 0 + 0 ≤ k_cc n ((tx.length : Int) + 1); omega, by show 0 + k_cs n ((tx.length : Int) + 1) + 0 + 0 ≤ k_cs n ((tx.length : Int) + 1); omega⟩ m_nox (fun v9 M4 h9 => ?_)
    obtain ⟨rfl, h9⟩ := h9
    replace h9 := h9.symm
    subst h9
    refine m_if_eq (tgt := 45) hC dJ5_append_3fe6f_21 (by decide) (by first | omega | (simp [hs_at] <;> omega)) (fun c5 => ?_) (fun c5 => ?_)
    · omega
    · refine m_aload_n hC 0 dJ5_append_3fe6f_24 rfl rfl ?_
      refine m_getf hC dJ5_append_3fe6f_25 kf_J5_15 hP2.1 rfl ?_
      refine m_aload_n hC 0 dJ5_append_3fe6f_28 rfl rfl ?_
      refine m_dup hC dJ5_append_3fe6f_29 rfl ?_
      refine m_getf hC dJ5_append_3fe6f_30 kf_J5_79 hP2.1 rfl ?_
      refine m_dup_x1 hC dJ5_append_3fe6f_33 rfl rfl ?_
      refine m_iconst hC dJ5_append_3fe6f_34 ?_
      refine m_iadd hC dJ5_append_3fe6f_35 ?_
      refine m_gpf hC dJ5_append_3fe6f_36 kf_J5_79 kw_1_3 hP2.1 ha0 (Nat.le_of_ble_eq_true rfl) rfl rfl (fun M6 R7 f8 => ?_)
      change M6.2 _ = some (m_ob 1 [_, _, _, _]) at R7
      have R9 := (f8.2 _ (by omega)).trans hP2.2
      refine m_iload_n hC 1 dJ5_append_3fe6f_39 rfl rfl ?_
      refine m_i2b hC dJ5_append_3fe6f_40 (by first | omega | (simp [hs_at] <;> omega)) ?_
      refine m_gbs hC dJ5_append_3fe6f_41 R9 hv2 (by omega) (by first | omega | (simp [hs_at] <;> omega)) hx (fun M10 R11 f12 => ?_)
      have R13 := (f12.2 _ (by omega)).trans R7
      refine m_goto (tgt := 75) hC dJ5_append_3fe6f_42 (by decide) ?_
      refine m_aload_n hC 0 dJ5_append_3fe6f_75 rfl rfl ?_
      have hfs : ∀ i : Nat, i < tx.length → f2 (i : Int) = tx.getD i 0 := fun i hi => (hfe _ (by omega)).trans (hf i hi)
      have hll : ((tx ++ [x]).length : Int) = (tx.length : Int) + 1 := by rw [List.length_append]; rfl
      exact m_aret hC dJ5_append_3fe6f_76 hr (Or.inl ⟨_, rfl⟩) (by show 0 + k_cc n ((tx.length : Int) + 1) + 0 + 0 ≤ k_cc n ((tx.length : Int) + 1); omega) (by show 0 + k_cs n ((tx.length : Int) + 1) + 0 + 0 ≤ k_cs n ((tx.length : Int) + 1); omega) ⟨rfl, v2, ⟨ml, _, ⟨by rw [hll]; exact R13, R11⟩, k_snoc hfs, hb2.ug hx, ⟨by rw [f12.1, f8.1]; omega, by rw [f12.1, f8.1]; omega, by omega, ha0, hv2⟩, by omega, by omega, by omega⟩, sbF.tr hF2 ⟨Or.inl rfl, by rw [f12.1, f8.1]; omega, by rw [f12.1, f8.1]; omega, fun q h1 h2 h3 => (f12.2 q (by omega)).trans (f8.2 q (by omega))⟩⟩

set_option maxHeartbeats 4000000 in
set_option maxRecDepth 100000 in
theorem t_J4_append_cf468 {D : va_G} {aC : Nat → ClassId} {s0 : State} {l : Launch} (hF : m_F D aC s0) (hl : l.stackTraces = false) {fo ks vs : Nat → Nat} {fA sA dO dT : Nat} (hJ : m_J s0 fo ks vs fA sA dO dT) {a v n : Nat} {tx : List Int} {M : m_M} (hT : sbT s0.heap.size a v n tx M) {x : Int} (hx : 0 ≤ x ∧ x < 128) (hlen : tx.length + 1 ≤ 240) : m_Met D aC s0 l yJ4_append_cf468 cJ4_append_cf468 2 (some (.object "java/lang/StringBuilder")) 5 (k_cc n ((tx.length : Int) + 1)) (k_cs n ((tx.length : Int) + 1)) [.ref a, VI x] M (fun r M' => r = some (.ref a) ∧ ∃ v2 : Nat, sbT s0.heap.size a v2 (k_cap n ((tx.length : Int) + 1)) (tx ++ [x]) M' ∧ sbF a v M v2 M') m_nx := by
  refine m_entry (lv := [(0, .ref a), (1, VI x)]) (by decide +kernel) (Nat.le_of_ble_eq_true rfl) rfl hF hl ?_
  intro p e s m args below meth c hC hr hno hnm
  change m_C D aC s0 RJ4 _ _ _ _ _ _ _ _ _ at hC
  obtain ⟨ml9, f9, ⟨hS9, -⟩, -⟩ := id hT
  refine m_aload_n hC 0 dJ4_append_cf468_0 rfl rfl ?_
  refine m_iload_n hC 1 dJ4_append_cf468_1 rfl rfl ?_
  refine m_callP hC (t_J5_append_3fe6f hF hl hJ hT hx hlen) dJ4_append_cf468_2 kc_J5_append_3fe6f kP_J4_50 hS9 rfl rfl rfl (Nat.le_of_ble_eq_true rfl) ⟨Nat.le_of_ble_eq_true rfl, Nat.le_of_ble_eq_true rfl⟩ ⟨by show 0 + k_cc n ((tx.length : Int) + 1) ≤ k_cc n ((tx.length : Int) + 1); omega, by show 0 + k_cs n ((tx.length : Int) + 1) ≤ k_cs n ((tx.length : Int) + 1); omega⟩ m_nox (fun v9 M1 h9 => ?_)
  obtain ⟨rfl, hpost⟩ := h9
  refine m_pop hC dJ4_append_cf468_5 rfl ?_
  refine m_aload_n hC 0 dJ4_append_cf468_6 rfl rfl ?_
  exact m_aret hC dJ4_append_cf468_7 hr (Or.inl ⟨_, rfl⟩) (by show 0 + k_cc n ((tx.length : Int) + 1) ≤ k_cc n ((tx.length : Int) + 1); omega) (by show 0 + k_cs n ((tx.length : Int) + 1) ≤ k_cs n ((tx.length : Int) + 1); omega) (⟨rfl, hpost⟩)

set_option maxHeartbeats 4000000 in
set_option maxRecDepth 100000 in
theorem t_J5_length_8abf5 {D : va_G} {aC : Nat → ClassId} {s0 : State} {l : Launch} (hF : m_F D aC s0) (hl : l.stackTraces = false) {a v n : Nat} {tx : List Int} {M : m_M} (hT : sbT s0.heap.size a v n tx M) : m_Met D aC s0 l yJ5_length_8abf5 cJ5_length_8abf5 1 (some .int) 0 (0) (0) [.ref a] M (fun r M' => r = some (VI (tx.length : Int)) ∧ M' = M) m_nx := by
  refine m_entry (lv := [(0, .ref a)]) (by decide +kernel) (Nat.le_of_ble_eq_true rfl) rfl hF hl ?_
  intro p e s m args below meth c hC hr hno hnm
  change m_C D aC s0 RJ5 _ _ _ _ _ _ _ _ _ at hC
  obtain ⟨ml9, f9, ⟨hS9, -⟩, -⟩ := id hT
  refine m_aload_n hC 0 dJ5_length_8abf5_0 rfl rfl ?_
  refine m_getf hC dJ5_length_8abf5_1 kf_J5_79 hS9 rfl ?_
  exact m_iret hC dJ5_length_8abf5_4 hr (by decide) (by decide) (⟨rfl, rfl⟩)

set_option maxHeartbeats 4000000 in
set_option maxRecDepth 100000 in
theorem t_J4_length_8abf5 {D : va_G} {aC : Nat → ClassId} {s0 : State} {l : Launch} (hF : m_F D aC s0) (hl : l.stackTraces = false) {a v n : Nat} {tx : List Int} {M : m_M} (hT : sbT s0.heap.size a v n tx M) : m_Met D aC s0 l yJ4_length_8abf5 cJ4_length_8abf5 1 (some .int) 1 (0) (0) [.ref a] M (fun r M' => r = some (VI (tx.length : Int)) ∧ M' = M) m_nx := by
  refine m_entry (lv := [(0, .ref a)]) (by decide +kernel) (Nat.le_of_ble_eq_true rfl) rfl hF hl ?_
  intro p e s m args below meth c hC hr hno hnm
  change m_C D aC s0 RJ4 _ _ _ _ _ _ _ _ _ at hC
  obtain ⟨ml9, f9, ⟨hS9, -⟩, -⟩ := id hT
  refine m_aload_n hC 0 dJ4_length_8abf5_0 rfl rfl ?_
  refine m_callP hC (t_J5_length_8abf5 hF hl hT) dJ4_length_8abf5_1 kc_J5_length_8abf5 kP_J4_343 hS9 rfl rfl rfl (Nat.le_of_ble_eq_true rfl) (by decide) (by decide) m_nox (fun v9 M1 h9 => ?_)
  obtain ⟨rfl, h9⟩ := h9
  replace h9 := h9.symm
  subst h9
  exact m_iret hC dJ4_length_8abf5_4 hr (by decide) (by decide) (⟨rfl, rfl⟩)

set_option maxHeartbeats 4000000 in
set_option maxRecDepth 100000 in
theorem t_J5_setLength_d00df {D : va_G} {aC : Nat → ClassId} {s0 : State} {l : Launch} (hF : m_F D aC s0) (hl : l.stackTraces = false) {fo ks vs : Nat → Nat} {fA sA dO dT : Nat} (hJ : m_J s0 fo ks vs fA sA dO dT) {a v n : Nat} {tx : List Int} {M : m_M} (hT : sbT s0.heap.size a v n tx M) : m_Met D aC s0 l yJ5_setLength_d00df cJ5_setLength_d00df 2 none 4 (0) (0) [.ref a, VI 0] M (fun r M' => r = none ∧ ∃ v2 : Nat, sbT s0.heap.size a v2 n [] M' ∧ sbF a v M v2 M') m_nx := by
  refine m_entry (lv := [(0, .ref a), (1, VI 0)]) (by decide +kernel) (Nat.le_of_ble_eq_true rfl) rfl hF hl ?_
  intro p e s m args below meth c hC hr hno hnm
  change m_C D aC s0 RJ5 _ _ _ _ _ _ _ _ _ at hC
  obtain ⟨ml, f, hP, hf, hb, ⟨ha, hv, hne, ha0, hv0⟩, hn1, hn2, hn3⟩ := hT
  refine m_iload_n hC 1 dJ5_setLength_d00df_0 rfl rfl ?_
  refine m_if_ge (tgt := 13) hC dJ5_setLength_d00df_1 (by decide) (by first | omega | (simp [hs_at] <;> omega)) (fun c1 => ?_) (fun c1 => ?_)
  · refine m_aload_n hC 0 dJ5_setLength_d00df_13 rfl rfl ?_
    refine m_iload_n hC 1 dJ5_setLength_d00df_14 rfl rfl ?_
    have hcc : k_cc n 0 = 0 := if_pos (by omega)
    have hcs : k_cs n 0 = 0 := if_pos (by omega)
    have hcap : k_cap n 0 = n := if_pos (by omega)
    refine m_callU hC (t_J5_ensureCapacityInternal_d00df hF hl hJ hP hb ha hv ha0 hv0 (by omega) (x := 0) (by omega)) dJ5_setLength_d00df_15 kc_J5_ensureCapacityInternal_d00df (kU_J5_100 hJ) (m_obr (q := (RJ4, TJ4, 4)) hC hP.1 rfl) rfl rfl (Nat.le_of_ble_eq_true rfl) ⟨Nat.le_of_ble_eq_true rfl, Nat.le_of_ble_eq_true rfl⟩ ⟨by show 0 + k_cc n 0 ≤ 0; omega, by show 0 + k_cs n 0 ≤ 0; omega⟩ m_nox (fun v9 M2 h9 => ?_)
    obtain ⟨rfl, v2, f2, hP2, hfe, hb2, hF2⟩ := h9
    rw [hcap] at hP2
    obtain ⟨hF21, hF22, hF23, hF24⟩ := id hF2
    have hv2 : s0.heap.size ≤ v2 := by omega
    have hne2 : v2 ≠ a := by omega
    refine m_aload_n hC 0 dJ5_setLength_d00df_18 rfl rfl ?_
    refine m_getf hC dJ5_setLength_d00df_19 kf_J5_79 hP2.1 rfl ?_
    refine m_iload_n hC 1 dJ5_setLength_d00df_22 rfl rfl ?_
    refine m_icmp_ge (tgt := 63) hC dJ5_setLength_d00df_23 (by decide) (by first | omega | (simp [hs_at] <;> omega)) (fun c3 => ?_) (fun c3 => ?_)
    · refine m_aload_n hC 0 dJ5_setLength_d00df_63 rfl rfl ?_
      refine m_getf hC dJ5_setLength_d00df_64 kf_J5_79 hP2.1 rfl ?_
      refine m_iload_n hC 1 dJ5_setLength_d00df_67 rfl rfl ?_
      refine m_icmp_le (tgt := 76) hC dJ5_setLength_d00df_68 (by decide) (by first | omega | (simp [hs_at] <;> omega)) (fun c4 => ?_) (fun c4 => ?_)
      · refine m_aload_n hC 0 dJ5_setLength_d00df_76 rfl rfl ?_
        refine m_iload_n hC 1 dJ5_setLength_d00df_77 rfl rfl ?_
        refine m_gpf hC dJ5_setLength_d00df_78 kf_J5_79 kw_1_3 hP2.1 ha0 (Nat.le_of_ble_eq_true rfl) rfl rfl (fun M5 R6 f7 => ?_)
        change M5.2 _ = some (m_ob 1 [_, _, _, _]) at R6
        have R8 := (f7.2 _ (by omega)).trans hP2.2
        exact m_vret hC dJ5_setLength_d00df_81 hr (by show 0 + k_cc n 0 ≤ 0; omega) (by show 0 + k_cs n 0 ≤ 0; omega) (⟨rfl, v2, ⟨_, f2, ⟨R6, R8⟩, (fun i hi => absurd hi (Nat.not_lt_zero _)), hb2, ⟨by rw [f7.1]; omega, by rw [f7.1]; omega, by omega, ha0, hv2⟩, hn1, hn2, Nat.zero_le _⟩, sbF.tr hF2 ⟨Or.inl rfl, by rw [f7.1]; omega, by rw [f7.1]; omega, fun q h1 h2 h3 => (f7.2 q (by omega))⟩⟩)
      · refine m_aload_n hC 0 dJ5_setLength_d00df_71 rfl rfl ?_
        refine m_iconst hC dJ5_setLength_d00df_72 ?_
        refine m_gpf hC dJ5_setLength_d00df_73 kf_J5_73 kw_1_2 hP2.1 ha0 (Nat.le_of_ble_eq_true rfl) rfl rfl (fun M9 R10 f11 => ?_)
        change M9.2 _ = some (m_ob 1 [_, _, _, _]) at R10
        have R12 := (f11.2 _ (by omega)).trans hP2.2
        refine m_aload_n hC 0 dJ5_setLength_d00df_76 rfl rfl ?_
        refine m_iload_n hC 1 dJ5_setLength_d00df_77 rfl rfl ?_
        refine m_gpf hC dJ5_setLength_d00df_78 kf_J5_79 kw_1_3 R10 ha0 (Nat.le_of_ble_eq_true rfl) rfl rfl (fun M13 R14 f15 => ?_)
        change M13.2 _ = some (m_ob 1 [_, _, _, _]) at R14
        have R16 := (f15.2 _ (by omega)).trans R12
        exact m_vret hC dJ5_setLength_d00df_81 hr (by show 0 + k_cc n 0 ≤ 0; omega) (by show 0 + k_cs n 0 ≤ 0; omega) (⟨rfl, v2, ⟨_, f2, ⟨R14, R16⟩, (fun i hi => absurd hi (Nat.not_lt_zero _)), hb2, ⟨by rw [f15.1]; rw [f11.1]; omega, by rw [f15.1]; rw [f11.1]; omega, by omega, ha0, hv2⟩, hn1, hn2, Nat.zero_le _⟩, sbF.tr hF2 ⟨Or.inl rfl, by rw [f15.1]; rw [f11.1]; omega, by rw [f15.1]; rw [f11.1]; omega, fun q h1 h2 h3 => ((f15.2 q (by omega)).trans (f11.2 q (by omega)))⟩⟩)
    · omega
  · omega

set_option maxHeartbeats 4000000 in
set_option maxRecDepth 100000 in
theorem t_J4_setLength_d00df {D : va_G} {aC : Nat → ClassId} {s0 : State} {l : Launch} (hF : m_F D aC s0) (hl : l.stackTraces = false) {fo ks vs : Nat → Nat} {fA sA dO dT : Nat} (hJ : m_J s0 fo ks vs fA sA dO dT) {a v n : Nat} {tx : List Int} {M : m_M} (hT : sbT s0.heap.size a v n tx M) : m_Met D aC s0 l yJ4_setLength_d00df cJ4_setLength_d00df 2 none 5 (0) (0) [.ref a, VI 0] M (fun r M' => r = none ∧ ∃ v2 : Nat, sbT s0.heap.size a v2 n [] M' ∧ sbF a v M v2 M') m_nx := by
  refine m_entry (lv := [(0, .ref a), (1, VI 0)]) (by decide +kernel) (Nat.le_of_ble_eq_true rfl) rfl hF hl ?_
  intro p e s m args below meth c hC hr hno hnm
  change m_C D aC s0 RJ4 _ _ _ _ _ _ _ _ _ at hC
  obtain ⟨ml9, f9, ⟨hS9, -⟩, -⟩ := id hT
  refine m_aload_n hC 0 dJ4_setLength_d00df_0 rfl rfl ?_
  refine m_iload_n hC 1 dJ4_setLength_d00df_1 rfl rfl ?_
  refine m_callP hC (t_J5_setLength_d00df hF hl hJ hT) dJ4_setLength_d00df_2 kc_J5_setLength_d00df kP_J4_333 hS9 rfl rfl rfl (Nat.le_of_ble_eq_true rfl) (by decide) (by decide) m_nox (fun v9 M1 h9 => ?_)
  obtain ⟨rfl, hpost⟩ := h9
  exact m_vret hC dJ4_setLength_d00df_5 hr (by decide) (by decide) (⟨rfl, hpost⟩)

set_option maxHeartbeats 4000000 in
set_option maxRecDepth 100000 in
theorem t_J3_checkIndex_n {D : va_G} {aC : Nat → ClassId} {s0 : State} {l : Launch} (hF : m_F D aC s0) (hl : l.stackTraces = false) {i z : Int} {M : m_M} {q9 : Nat} (hi : 0 ≤ i ∧ i < z ∧ z < 100000) : m_Met D aC s0 l yJ3_checkIndex_8e157 cJ3_checkIndex_8e157 3 (some .int) 0 (0) (0) [VI i, VI z, .null] M (fun r M' => r = some (VI i) ∧ M' = M) m_nx := by
  refine m_entry (lv := [(0, VI i), (1, VI z), (2, .null)]) (by decide +kernel) (Nat.le_of_ble_eq_true rfl) rfl hF hl ?_
  intro p e s m args below meth c hC hr hno hnm
  change m_C D aC s0 RJ3 _ _ _ _ _ _ _ _ _ at hC
  refine m_iload_n hC 0 dJ3_checkIndex_8e157_0 rfl rfl ?_
  refine m_if_lt (tgt := 9) hC dJ3_checkIndex_8e157_1 (by decide) (by first | omega | (simp [hs_at] <;> omega)) (fun c1 => ?_) (fun c1 => ?_)
  · omega
  · refine m_iload_n hC 0 dJ3_checkIndex_8e157_4 rfl rfl ?_
    refine m_iload_n hC 1 dJ3_checkIndex_8e157_5 rfl rfl ?_
    refine m_icmp_lt (tgt := 16) hC dJ3_checkIndex_8e157_6 (by decide) (by first | omega | (simp [hs_at] <;> omega)) (fun c2 => ?_) (fun c2 => ?_)
    · refine m_iload_n hC 0 dJ3_checkIndex_8e157_16 rfl rfl ?_
      exact m_iret hC dJ3_checkIndex_8e157_17 hr (by decide) (by decide) (⟨rfl, rfl⟩)
    · omega

set_option maxHeartbeats 4000000 in
set_option maxRecDepth 100000 in
theorem t_J3_checkIndex_r {D : va_G} {aC : Nat → ClassId} {s0 : State} {l : Launch} (hF : m_F D aC s0) (hl : l.stackTraces = false) {i z : Int} {M : m_M} {q9 : Nat} (hi : 0 ≤ i ∧ i < z ∧ z < 100000) : m_Met D aC s0 l yJ3_checkIndex_8e157 cJ3_checkIndex_8e157 3 (some .int) 0 (0) (0) [VI i, VI z, .ref q9] M (fun r M' => r = some (VI i) ∧ M' = M) m_nx := by
  refine m_entry (lv := [(0, VI i), (1, VI z), (2, .ref q9)]) (by decide +kernel) (Nat.le_of_ble_eq_true rfl) rfl hF hl ?_
  intro p e s m args below meth c hC hr hno hnm
  change m_C D aC s0 RJ3 _ _ _ _ _ _ _ _ _ at hC
  refine m_iload_n hC 0 dJ3_checkIndex_8e157_0 rfl rfl ?_
  refine m_if_lt (tgt := 9) hC dJ3_checkIndex_8e157_1 (by decide) (by first | omega | (simp [hs_at] <;> omega)) (fun c1 => ?_) (fun c1 => ?_)
  · omega
  · refine m_iload_n hC 0 dJ3_checkIndex_8e157_4 rfl rfl ?_
    refine m_iload_n hC 1 dJ3_checkIndex_8e157_5 rfl rfl ?_
    refine m_icmp_lt (tgt := 16) hC dJ3_checkIndex_8e157_6 (by decide) (by first | omega | (simp [hs_at] <;> omega)) (fun c2 => ?_) (fun c2 => ?_)
    · refine m_iload_n hC 0 dJ3_checkIndex_8e157_16 rfl rfl ?_
      exact m_iret hC dJ3_checkIndex_8e157_17 hr (by decide) (by decide) (⟨rfl, rfl⟩)
    · omega

set_option maxHeartbeats 4000000 in
set_option maxRecDepth 100000 in
theorem t_J0_checkIndex_df160 {D : va_G} {aC : Nat → ClassId} {s0 : State} {l : Launch} (hF : m_F D aC s0) (hl : l.stackTraces = false) {fo ks vs : Nat → Nat} {fA sA dO dT : Nat} (hJ : m_J s0 fo ks vs fA sA dO dT) {i z : Int} {M : m_M} (hi : 0 ≤ i ∧ i < z ∧ z < 100000) : m_Met D aC s0 l yJ0_checkIndex_df160 cJ0_checkIndex_df160 2 none 1 (0) (0) [VI i, VI z] M (fun r M' => r = none ∧ M' = M) m_nx := by
  refine m_entry (lv := [(0, VI i), (1, VI z)]) (by decide +kernel) (Nat.le_of_ble_eq_true rfl) rfl hF hl ?_
  intro p e s m args below meth c hC hr hno hnm
  change m_C D aC s0 RJ0 _ _ _ _ _ _ _ _ _ at hC
  obtain ⟨v9, hv9, hZ9⟩ := hJ.pZ
  rcases hv9 with rfl | ⟨q9, rfl⟩
  · refine m_iload_n hC 0 dJ0_checkIndex_df160_0 rfl rfl ?_
    refine m_iload_n hC 1 dJ0_checkIndex_df160_1 rfl rfl ?_
    refine m_gets hC hZ9 kg_J0_1053 dJ0_checkIndex_df160_2 ?_
    refine m_callS hC (t_J3_checkIndex_n hF hl (q9 := 0) hi) dJ0_checkIndex_df160_5 kc_J3_checkIndex_8e157 kS_J0_1059 rfl rfl (Nat.le_of_ble_eq_true rfl) (by decide) (by decide) m_nox (fun v9 M1 h9 => ?_)
    obtain ⟨rfl, h9⟩ := h9
    replace h9 := h9.symm
    subst h9
    refine m_pop hC dJ0_checkIndex_df160_8 rfl ?_
    exact m_vret hC dJ0_checkIndex_df160_9 hr (by decide) (by decide) (⟨rfl, rfl⟩)
  · refine m_iload_n hC 0 dJ0_checkIndex_df160_0 rfl rfl ?_
    refine m_iload_n hC 1 dJ0_checkIndex_df160_1 rfl rfl ?_
    refine m_gets hC hZ9 kg_J0_1053 dJ0_checkIndex_df160_2 ?_
    refine m_callS hC (t_J3_checkIndex_r hF hl (q9 := q9) hi) dJ0_checkIndex_df160_5 kc_J3_checkIndex_8e157 kS_J0_1059 rfl rfl (Nat.le_of_ble_eq_true rfl) (by decide) (by decide) m_nox (fun v9 M1 h9 => ?_)
    obtain ⟨rfl, h9⟩ := h9
    replace h9 := h9.symm
    subst h9
    refine m_pop hC dJ0_checkIndex_df160_8 rfl ?_
    exact m_vret hC dJ0_checkIndex_df160_9 hr (by decide) (by decide) (⟨rfl, rfl⟩)

set_option maxHeartbeats 4000000 in
set_option maxRecDepth 100000 in
theorem t_J5_charAt_5068e {D : va_G} {aC : Nat → ClassId} {s0 : State} {l : Launch} (hF : m_F D aC s0) (hl : l.stackTraces = false) {fo ks vs : Nat → Nat} {fA sA dO dT : Nat} (hJ : m_J s0 fo ks vs fA sA dO dT) {a v n : Nat} {tx : List Int} {M : m_M} (hT : sbT s0.heap.size a v n tx M) {i : Int} (hi : 0 ≤ i ∧ i < (tx.length : Int)) : m_Met D aC s0 l yJ5_charAt_5068e cJ5_charAt_5068e 5 (some .char) 2 (0) (0) [.ref a, VI i] M (fun r M' => r = some (VI (tx.getD i.toNat 0)) ∧ M' = M) m_nx := by
  refine m_entry (lv := [(0, .ref a), (1, VI i)]) (by decide +kernel) (Nat.le_of_ble_eq_true rfl) rfl hF hl ?_
  intro p e s m args below meth c hC hr hno hnm
  change m_C D aC s0 RJ5 _ _ _ _ _ _ _ _ _ at hC
  obtain ⟨ml, f, hP, hf, hb, ⟨ha, hv, hne, ha0, hv0⟩, hn1, hn2, hn3⟩ := hT
  refine m_aload_n hC 0 dJ5_charAt_5068e_0 rfl rfl ?_
  refine m_getf hC dJ5_charAt_5068e_1 kf_J5_22 hP.1 rfl ?_
  refine m_istore_n hC dJ5_charAt_5068e_4 rfl (by decide) rfl ?_
  refine m_aload_n hC 1 dJ5_charAt_5068e_5 rfl rfl ?_
  refine m_getf hC dJ5_charAt_5068e_6 kf_J5_15 hP.1 rfl ?_
  refine m_astore_n hC dJ5_charAt_5068e_9 rfl (by decide) rfl ?_
  refine m_aload_n hC 2 dJ5_charAt_5068e_10 rfl rfl ?_
  refine m_getf hC dJ5_charAt_5068e_11 kf_J5_79 hP.1 rfl ?_
  refine m_aload_n hC 0 dJ5_charAt_5068e_14 rfl rfl ?_
  refine m_alen hC dJ5_charAt_5068e_15 hP.2 (by decide) ?_
  refine m_iload_n hC 1 dJ5_charAt_5068e_16 rfl rfl ?_
  refine m_ishr hC dJ5_charAt_5068e_17 (z := (n : Int)) (k_shr0 _) ?_
  refine m_mmin hC dJ5_charAt_5068e_18 kM_J5_138 (by first | omega | (simp [hs_at] <;> omega)) (by decide) (Nat.le_of_ble_eq_true rfl) (by decide) (by decide) ?_
  rw [show min (tx.length : Int) (n : Int) = (tx.length : Int) by omega]
  refine m_istore hC dJ5_charAt_5068e_21 (by decide) rfl ?_
  refine m_iload_n hC 4 dJ5_charAt_5068e_23 rfl rfl ?_
  refine m_iload hC 0 dJ5_charAt_5068e_24 rfl ?_
  refine m_callS hC (t_J0_checkIndex_df160 hF hl hJ (i := i) (z := (tx.length : Int)) (by omega)) dJ5_charAt_5068e_26 kc_J0_checkIndex_df160 kS_J5_144 rfl rfl (Nat.le_of_ble_eq_true rfl) (by decide) (by decide) m_nox (fun v9 M1 h9 => ?_)
  obtain ⟨rfl, h9⟩ := h9
  replace h9 := h9.symm
  subst h9
  refine m_iload_n hC 2 dJ5_charAt_5068e_29 rfl rfl ?_
  refine m_if_ne (tgt := 42) hC dJ5_charAt_5068e_30 (by decide) (by first | omega | (simp [hs_at] <;> omega)) (fun c2 => ?_) (fun c2 => ?_)
  · omega
  · refine m_aload_n hC 1 dJ5_charAt_5068e_33 rfl rfl ?_
    refine m_iload_n hC 4 dJ5_charAt_5068e_34 rfl rfl ?_
    refine m_bald hC dJ5_charAt_5068e_35 hP.2 (by omega) (by first | omega | (simp [hs_at] <;> omega)) ?_
    refine m_sipush hC dJ5_charAt_5068e_36 (by decide) ?_
    refine m_iand hC dJ5_charAt_5068e_39 (z := (f i)) (k_and255 (hb i)) ?_
    refine m_i2c hC dJ5_charAt_5068e_40 (by have := hb i; omega) ?_
    exact m_zret hC dJ5_charAt_5068e_41 hr (k_char (by have := hb i; omega)) (by decide) (by decide) (⟨by rw [← hf i.toNat (by omega), show ((i.toNat : Nat) : Int) = i by omega], rfl⟩)

set_option maxHeartbeats 4000000 in
set_option maxRecDepth 100000 in
theorem t_J4_charAt_5068e {D : va_G} {aC : Nat → ClassId} {s0 : State} {l : Launch} (hF : m_F D aC s0) (hl : l.stackTraces = false) {fo ks vs : Nat → Nat} {fA sA dO dT : Nat} (hJ : m_J s0 fo ks vs fA sA dO dT) {a v n : Nat} {tx : List Int} {M : m_M} (hT : sbT s0.heap.size a v n tx M) {i : Int} (hi : 0 ≤ i ∧ i < (tx.length : Int)) : m_Met D aC s0 l yJ4_charAt_5068e cJ4_charAt_5068e 2 (some .char) 3 (0) (0) [.ref a, VI i] M (fun r M' => r = some (VI (tx.getD i.toNat 0)) ∧ M' = M) m_nx := by
  refine m_entry (lv := [(0, .ref a), (1, VI i)]) (by decide +kernel) (Nat.le_of_ble_eq_true rfl) rfl hF hl ?_
  intro p e s m args below meth c hC hr hno hnm
  change m_C D aC s0 RJ4 _ _ _ _ _ _ _ _ _ at hC
  obtain ⟨ml9, f9, ⟨hS9, -⟩, hf9, hb9, -⟩ := id hT
  have hbb : 0 ≤ tx.getD i.toNat 0 ∧ tx.getD i.toNat 0 < 128 := by rw [← hf9 i.toNat (by omega)]; exact hb9 _
  refine m_aload_n hC 0 dJ4_charAt_5068e_0 rfl rfl ?_
  refine m_iload_n hC 1 dJ4_charAt_5068e_1 rfl rfl ?_
  refine m_callP hC (t_J5_charAt_5068e hF hl hJ hT hi) dJ4_charAt_5068e_2 kc_J5_charAt_5068e kP_J4_329 hS9 rfl rfl rfl (Nat.le_of_ble_eq_true rfl) (by decide) (by decide) m_nox (fun v9 M1 h9 => ?_)
  obtain ⟨rfl, h9⟩ := h9
  replace h9 := h9.symm
  subst h9
  exact m_zret hC dJ4_charAt_5068e_5 hr (k_char (by have := hbb; omega)) (by decide) (by decide) (⟨rfl, rfl⟩)

