theorem kM_J8_200 : Cond.constant RJ8 200 (Int32.ofInt 2147483639) ∈ lwg := by
  rw [show Int32.ofInt 2147483639 = (2147483639 : Int32) from by decide +kernel]
  exact (lwg_of (List.mem_append_right _ (List.mem_of_getElem? (i := 845) (by decide +kernel))) rfl)
theorem kM_J5_39 : Cond.constant RJ5 39 (Int32.ofInt 2147483647) ∈ lwg := by
  rw [show Int32.ofInt 2147483647 = (2147483647 : Int32) from by decide +kernel]
  exact (lwg_of (List.mem_append_right _ (List.mem_of_getElem? (i := 849) (by decide +kernel))) rfl)
theorem m_up_push {M : m_M} {e e2 : m_E} : m_up (m_push M e) M.1 e2 = m_push M e2 := by
  refine Prod.ext rfl (funext fun q => ?_)
  show (if q = M.1 then some e2 else (if q = M.1 then some e else M.2 q)) = if q = M.1 then some e2 else M.2 q
  split <;> rfl
/-- a StringBuilder at a, Latin-1, its bytes at v -/
def sbP (a v n : Nat) (ml len : Int) (f : Int → Int) (M : m_M) : Prop := M.2 a = some (m_ob 1 [.ref v, VI 0, VI ml, VI len]) ∧ M.2 v = some (m_ia 2 n f)
def sbF (a v : Nat) (M : m_M) (v2 : Nat) (M2 : m_M) : Prop := (v2 = v ∨ M.1 ≤ v2) ∧ v2 < M2.1 ∧ M.1 ≤ M2.1 ∧ ∀ q : Nat, q < M.1 → q ≠ a → q ≠ v → M2.2 q = M.2 q
theorem sbF.tr {a v v1 v2 : Nat} {M M1 M2 : m_M} (h : sbF a v M v1 M1) (h2 : sbF a v1 M1 v2 M2) : sbF a v M v2 M2 := by
  obtain ⟨a1, a2, a3, a4⟩ := h
  obtain ⟨b1, b2, b3, b4⟩ := h2
  refine ⟨by omega, b2, by omega, fun q h1 h2 h3 => ?_⟩
  rw [b4 q (by omega) h2 (by omega), a4 q h1 h2 h3]
def k_cap (n : Nat) (m : Int) : Nat := if m ≤ (n : Int) then n else 2 * n + 2
def k_cc (n : Nat) (m : Int) : Nat := if m ≤ (n : Int) then 0 else 1
def k_cs (n : Nat) (m : Int) : Nat := if m ≤ (n : Int) then 0 else 2 * n + 2
def hby (f : Int → Int) : Prop := ∀ i : Int, 0 ≤ f i ∧ f i < 128
theorem hby.ug {f : Int → Int} (h : hby f) {i v : Int} (hv : 0 ≤ v ∧ v < 128) : hby (m_ug f i v) := by
  intro j
  unfold m_ug
  split
  · exact hv
  · exact h j

set_option maxHeartbeats 4000000 in
set_option maxRecDepth 100000 in
theorem t_J5_isLatin1_aae02 {D : va_G} {aC : Nat → ClassId} {s0 : State} {l : Launch} (hF : m_F D aC s0) (hl : l.stackTraces = false) {fo ks vs : Nat → Nat} {fA sA dO dT : Nat} (hJ : m_J s0 fo ks vs fA sA dO dT) {a : Nat} {v : Value} {ml len : Int} {M : m_M} (hS : M.2 a = some (m_ob 1 [v, VI 0, VI ml, VI len])) : m_Met D aC s0 l yJ5_isLatin1_aae02 cJ5_isLatin1_aae02 1 (some .boolean) 0 (0) (0) [.ref a] M (fun r M' => r = some (VI 1) ∧ M' = M) m_nx := by
  refine m_entry (lv := [(0, .ref a)]) (by decide +kernel) (Nat.le_of_ble_eq_true rfl) rfl hF hl ?_
  intro p e s m args below meth c hC hr hno hnm
  change m_C D aC s0 RJ5 _ _ _ _ _ _ _ _ _ at hC
  refine m_gets hC hJ.cZ kg_J5_18 dJ5_isLatin1_aae02_0 ?_
  refine m_if_eq (tgt := 17) hC dJ5_isLatin1_aae02_3 (by decide) (by first | omega | (simp [hs_at] <;> omega)) (fun c1 => ?_) (fun c1 => ?_)
  · omega
  · refine m_aload_n hC 0 dJ5_isLatin1_aae02_6 rfl rfl ?_
    refine m_getf hC dJ5_isLatin1_aae02_7 kf_J5_22 hS rfl ?_
    refine m_if_ne (tgt := 17) hC dJ5_isLatin1_aae02_10 (by decide) (by first | omega | (simp [hs_at] <;> omega)) (fun c2 => ?_) (fun c2 => ?_)
    · omega
    · refine m_iconst hC dJ5_isLatin1_aae02_13 ?_
      refine m_goto (tgt := 18) hC dJ5_isLatin1_aae02_14 (by decide) ?_
      exact m_zret hC dJ5_isLatin1_aae02_18 hr (by rfl) (by decide) (by decide) (⟨rfl, rfl⟩)

set_option maxHeartbeats 4000000 in
set_option maxRecDepth 100000 in
theorem t_J1_canEncode_fc78d {D : va_G} {aC : Nat → ClassId} {s0 : State} {l : Launch} (hF : m_F D aC s0) (hl : l.stackTraces = false) {x : Int} {M : m_M} (hx : 0 ≤ x ∧ x < 128) : m_Met D aC s0 l yJ1_canEncode_fc78d cJ1_canEncode_fc78d 1 (some .boolean) 0 (0) (0) [VI x] M (fun r M' => r = some (VI 1) ∧ M' = M) m_nx := by
  refine m_entry (lv := [(0, VI x)]) (by decide +kernel) (Nat.le_of_ble_eq_true rfl) rfl hF hl ?_
  intro p e s m args below meth c hC hr hno hnm
  change m_C D aC s0 RJ1 _ _ _ _ _ _ _ _ _ at hC
  refine m_iload_n hC 0 dJ1_canEncode_fc78d_0 rfl rfl ?_
  refine m_sipush hC dJ1_canEncode_fc78d_1 (by decide) ?_
  refine m_icmp_gt (tgt := 11) hC dJ1_canEncode_fc78d_4 (by decide) (by first | omega | (simp [hs_at] <;> omega)) (fun c1 => ?_) (fun c1 => ?_)
  · omega
  · refine m_iconst hC dJ1_canEncode_fc78d_7 ?_
    refine m_goto (tgt := 12) hC dJ1_canEncode_fc78d_8 (by decide) ?_
    exact m_zret hC dJ1_canEncode_fc78d_12 hr (by rfl) (by decide) (by decide) (⟨rfl, rfl⟩)

set_option maxHeartbeats 4000000 in
set_option maxRecDepth 100000 in
theorem t_J8_newLength_cabcc {D : va_G} {aC : Nat → ClassId} {s0 : State} {l : Launch} (hF : m_F D aC s0) (hl : l.stackTraces = false) {a b z : Int} {M : m_M} (ha : 0 ≤ a ∧ a ≤ 100000) (hb : 1 ≤ b ∧ b ≤ 100000) (hz : 1 ≤ z ∧ z ≤ 100000) : m_Met D aC s0 l yJ8_newLength_cabcc cJ8_newLength_cabcc 4 (some .int) 1 (0) (0) [VI a, VI b, VI z] M (fun r M' => r = some (VI (a + max b z)) ∧ M' = M) m_nx := by
  refine m_entry (lv := [(0, VI a), (1, VI b), (2, VI z)]) (by decide +kernel) (Nat.le_of_ble_eq_true rfl) rfl hF hl ?_
  intro p e s m args below meth c hC hr hno hnm
  change m_C D aC s0 RJ8 _ _ _ _ _ _ _ _ _ at hC
  refine m_iload_n hC 0 dJ8_newLength_cabcc_0 rfl rfl ?_
  refine m_iload_n hC 1 dJ8_newLength_cabcc_1 rfl rfl ?_
  refine m_iload_n hC 2 dJ8_newLength_cabcc_2 rfl rfl ?_
  refine m_mmax hC dJ8_newLength_cabcc_3 kM_J8_194 (by first | omega | (simp [hs_at] <;> omega)) (by decide) (Nat.le_of_ble_eq_true rfl) (by decide) (by decide) ?_
  refine m_iadd hC dJ8_newLength_cabcc_6 ?_
  refine m_istore_n hC dJ8_newLength_cabcc_7 rfl (by decide) rfl ?_
  refine m_iconst hC dJ8_newLength_cabcc_8 ?_
  refine m_iload_n hC 0 dJ8_newLength_cabcc_9 rfl rfl ?_
  refine m_icmp_ge (tgt := 21) hC dJ8_newLength_cabcc_10 (by decide) (by first | omega | (simp [hs_at] <;> omega)) (fun c1 => ?_) (fun c1 => ?_)
  · omega
  · refine m_iload_n hC 0 dJ8_newLength_cabcc_13 rfl rfl ?_
    refine m_ldci hC dJ8_newLength_cabcc_14 kM_J8_200 ?_
    refine m_icmp_gt (tgt := 21) hC dJ8_newLength_cabcc_16 (by decide) (by first | omega | (simp [hs_at] <;> omega)) (fun c2 => ?_) (fun c2 => ?_)
    · omega
    · refine m_iload_n hC 0 dJ8_newLength_cabcc_19 rfl rfl ?_
      exact m_iret hC dJ8_newLength_cabcc_20 hr (by decide) (by decide) (⟨rfl, rfl⟩)

set_option maxHeartbeats 4000000 in
set_option maxRecDepth 100000 in
theorem t_J5_newCapacity_0f7a4 {D : va_G} {aC : Nat → ClassId} {s0 : State} {l : Launch} (hF : m_F D aC s0) (hl : l.stackTraces = false) {a v n : Nat} {ml len : Int} {f : Int → Int} {M : m_M} (hP : sbP a v n ml len f M) (hn : n ≤ 600) {x : Int} (hx : (n : Int) < x ∧ x ≤ 2 * (n : Int) + 2) : m_Met D aC s0 l yJ5_newCapacity_0f7a4 cJ5_newCapacity_0f7a4 6 (some .int) 2 (0) (0) [.ref a, VI x] M (fun r M' => r = some (VI ((2 * n + 2 : Nat) : Int)) ∧ M' = M) m_nx := by
  refine m_entry (lv := [(0, .ref a), (1, VI x)]) (by decide +kernel) (Nat.le_of_ble_eq_true rfl) rfl hF hl ?_
  intro p e s m args below meth c hC hr hno hnm
  change m_C D aC s0 RJ5 _ _ _ _ _ _ _ _ _ at hC
  refine m_aload_n hC 0 dJ5_newCapacity_0f7a4_0 rfl rfl ?_
  refine m_getf hC dJ5_newCapacity_0f7a4_1 kf_J5_15 hP.1 rfl ?_
  refine m_alen hC dJ5_newCapacity_0f7a4_4 hP.2 (by decide) ?_
  refine m_istore_n hC dJ5_newCapacity_0f7a4_5 rfl (by decide) rfl ?_
  refine m_iload_n hC 2 dJ5_newCapacity_0f7a4_6 rfl rfl ?_
  refine m_aload_n hC 1 dJ5_newCapacity_0f7a4_7 rfl rfl ?_
  refine m_getf hC dJ5_newCapacity_0f7a4_8 kf_J5_22 hP.1 rfl ?_
  refine m_ishl hC dJ5_newCapacity_0f7a4_11 (z := x) (k_shl0 x) ?_
  refine m_istore_n hC dJ5_newCapacity_0f7a4_12 rfl (by decide) rfl ?_
  refine m_iload_n hC 0 dJ5_newCapacity_0f7a4_13 rfl rfl ?_
  refine m_iload_n hC 1 dJ5_newCapacity_0f7a4_14 rfl rfl ?_
  refine m_isub hC dJ5_newCapacity_0f7a4_15 ?_
  refine m_istore hC dJ5_newCapacity_0f7a4_16 (by decide) rfl ?_
  refine m_iload_n hC 2 dJ5_newCapacity_0f7a4_18 rfl rfl ?_
  refine m_iload hC 0 dJ5_newCapacity_0f7a4_19 rfl ?_
  refine m_iload_n hC 2 dJ5_newCapacity_0f7a4_21 rfl rfl ?_
  refine m_iconst hC dJ5_newCapacity_0f7a4_22 ?_
  refine m_aload_n hC 3 dJ5_newCapacity_0f7a4_23 rfl rfl ?_
  refine m_getf hC dJ5_newCapacity_0f7a4_24 kf_J5_22 hP.1 rfl ?_
  refine m_ishl hC dJ5_newCapacity_0f7a4_27 (z := 2) (k_shl0 2) ?_
  refine m_iadd hC dJ5_newCapacity_0f7a4_28 ?_
  refine m_callS hC (t_J8_newLength_cabcc hF hl (a := (n : Int)) (b := x - (n : Int)) (z := (n : Int) + 2) (by omega) (by omega) (by omega)) dJ5_newCapacity_0f7a4_29 kc_J8_newLength_cabcc kS_J5_114 rfl rfl (Nat.le_of_ble_eq_true rfl) (by decide) (by decide) m_nox (fun v9 M1 h9 => ?_)
  obtain ⟨rfl, h9⟩ := h9
  replace h9 := h9.symm
  subst h9
  refine m_istore hC dJ5_newCapacity_0f7a4_32 (by decide) rfl ?_
  refine m_iload hC 0 dJ5_newCapacity_0f7a4_34 rfl ?_
  refine m_ldci hC dJ5_newCapacity_0f7a4_36 kM_J5_39 ?_
  refine m_icmp_ne (tgt := 51) hC dJ5_newCapacity_0f7a4_38 (by decide) (by first | omega | (simp [hs_at] <;> omega)) (fun c2 => ?_) (fun c2 => ?_)
  · refine m_iload hC 0 dJ5_newCapacity_0f7a4_51 rfl ?_
    refine m_aload_n hC 4 dJ5_newCapacity_0f7a4_53 rfl rfl ?_
    refine m_getf hC dJ5_newCapacity_0f7a4_54 kf_J5_22 hP.1 rfl ?_
    refine m_ishr hC dJ5_newCapacity_0f7a4_57 (z := ((n : Int) + max (x - (n : Int)) ((n : Int) + 2))) (k_shr0 _) ?_
    exact m_iret hC dJ5_newCapacity_0f7a4_58 hr (by decide) (by decide) (⟨by congr 2; omega, rfl⟩)
  · omega

set_option maxHeartbeats 4000000 in
set_option maxRecDepth 100000 in
theorem t_J7_copyOf_9075b {D : va_G} {aC : Nat → ClassId} {s0 : State} {l : Launch} (hF : m_F D aC s0) (hl : l.stackTraces = false) {v n n2 : Nat} {f : Int → Int} {M : m_M} (hV : M.2 v = some (m_ia 2 n f)) (hv : v < M.1) (hv0 : s0.heap.size ≤ v) (hf : hby f) (hn : n < n2 ∧ n2 < 60000) : m_Met D aC s0 l yJ7_copyOf_9075b cJ7_copyOf_9075b 3 (some (.array .byte)) 1 (1) (n2) [.ref v, VI (n2 : Int)] M (fun r M' => r = some (.ref M.1) ∧ M' = m_push M (m_ia 2 n2 (fun i => if 0 ≤ i ∧ i < (n : Int) then f i else 0))) m_nx := by
  refine m_entry (lv := [(0, .ref v), (1, VI (n2 : Int))]) (by decide +kernel) (Nat.le_of_ble_eq_true rfl) rfl hF hl ?_
  intro p e s m args below meth c hC hr hno hnm
  change m_C D aC s0 RJ7 _ _ _ _ _ _ _ _ _ at hC
  refine m_iload_n hC 1 dJ7_copyOf_9075b_0 rfl rfl ?_
  refine m_aload_n hC 0 dJ7_copyOf_9075b_1 rfl rfl ?_
  refine m_alen hC dJ7_copyOf_9075b_2 hV (by decide) ?_
  refine m_icmp_ne (tgt := 14) hC dJ7_copyOf_9075b_3 (by decide) (by first | omega | (simp [hs_at] <;> omega)) (fun c1 => ?_) (fun c1 => ?_)
  · refine m_iload_n hC 1 dJ7_copyOf_9075b_14 rfl rfl ?_
    refine m_newa (k := 2) (n := n2) hC dJ7_copyOf_9075b_15 (by decide) rfl rfl ka_byte (fun _ => Iff.rfl) rfl (by omega) (by decide) (Nat.le_of_ble_eq_true rfl) (by show 0 + n2 ≤ n2; omega) ?_
    have hV1 : (m_push M (m_ia 2 n2 (fun _ => 0))).2 v = some (m_ia 2 n f) := (m_push_ne (by omega)).trans hV
    refine m_astore_n hC dJ7_copyOf_9075b_17 rfl (by decide) rfl ?_
    refine m_aload_n hC 1 dJ7_copyOf_9075b_18 rfl rfl ?_
    refine m_iconst hC dJ7_copyOf_9075b_19 ?_
    refine m_aload_n hC 0 dJ7_copyOf_9075b_20 rfl rfl ?_
    refine m_iconst hC dJ7_copyOf_9075b_21 ?_
    refine m_aload_n hC 1 dJ7_copyOf_9075b_22 rfl rfl ?_
    refine m_alen hC dJ7_copyOf_9075b_23 hV1 (by decide) ?_
    refine m_iload_n hC 2 dJ7_copyOf_9075b_24 rfl rfl ?_
    refine m_mmin hC dJ7_copyOf_9075b_25 kM_J7_304 (by first | omega | (simp [hs_at] <;> omega)) (Nat.le_of_ble_eq_true rfl) (Nat.le_of_ble_eq_true rfl) (Nat.le_of_ble_eq_true rfl) (by show 0 + n2 ≤ n2; omega) ?_
    rw [show min (n : Int) (n2 : Int) = (n : Int) by omega]
    refine m_acopy hC dJ7_copyOf_9075b_28 kM_acopy hV1 m_push_eq (Nat.le_trans hv0 (Nat.le_of_lt hv)) (by omega) (fun i hi => (k_byte (hf i)).2) (Nat.le_of_ble_eq_true rfl) (Nat.le_of_ble_eq_true rfl) ?_
    rw [m_up_push]
    refine m_aload_n hC 0 dJ7_copyOf_9075b_31 rfl rfl ?_
    exact m_aret hC dJ7_copyOf_9075b_32 hr (Or.inr ⟨_, rfl⟩) (Nat.le_of_ble_eq_true rfl) (by show 0 + n2 ≤ n2; omega) ⟨rfl, rfl⟩
  · omega

set_option maxHeartbeats 4000000 in
set_option maxRecDepth 100000 in
theorem t_J5_ensureCapacityInternal_d00df {D : va_G} {aC : Nat → ClassId} {s0 : State} {l : Launch} (hF : m_F D aC s0) (hl : l.stackTraces = false) {fo ks vs : Nat → Nat} {fA sA dO dT : Nat} (hJ : m_J s0 fo ks vs fA sA dO dT) {a v n : Nat} {ml len : Int} {f : Int → Int} {M : m_M} (hP : sbP a v n ml len f M) (hf : hby f) (ha : a < M.1) (hv : v < M.1) (ha0 : s0.heap.size ≤ a) (hv0 : s0.heap.size ≤ v) (hn : n ≤ 600) {x : Int} (hx : 0 ≤ x ∧ x ≤ 2 * (n : Int) + 2) : m_Met D aC s0 l yJ5_ensureCapacityInternal_d00df cJ5_ensureCapacityInternal_d00df 3 none 3 (k_cc n x) (k_cs n x) [.ref a, VI x] M (fun r M' => r = none ∧ ∃ (v2 : Nat) (f2 : Int → Int), sbP a v2 (k_cap n x) ml len f2 M' ∧ (∀ i : Int, 0 ≤ i ∧ i < (n : Int) → f2 i = f i) ∧ hby f2 ∧ sbF a v M v2 M') m_nx := by
  refine m_entry (lv := [(0, .ref a), (1, VI x)]) (by decide +kernel) (Nat.le_of_ble_eq_true rfl) rfl hF hl ?_
  intro p e s m args below meth c hC hr hno hnm
  change m_C D aC s0 RJ5 _ _ _ _ _ _ _ _ _ at hC
  refine m_aload_n hC 0 dJ5_ensureCapacityInternal_d00df_0 rfl rfl ?_
  refine m_getf hC dJ5_ensureCapacityInternal_d00df_1 kf_J5_15 hP.1 rfl ?_
  refine m_alen hC dJ5_ensureCapacityInternal_d00df_4 hP.2 (by decide) ?_
  refine m_aload_n hC 0 dJ5_ensureCapacityInternal_d00df_5 rfl rfl ?_
  refine m_getf hC dJ5_ensureCapacityInternal_d00df_6 kf_J5_22 hP.1 rfl ?_
  refine m_ishr hC dJ5_ensureCapacityInternal_d00df_9 (z := (n : Int)) (k_shr0 _) ?_
  refine m_istore_n hC dJ5_ensureCapacityInternal_d00df_10 rfl (by decide) rfl ?_
  refine m_iload_n hC 2 dJ5_ensureCapacityInternal_d00df_11 rfl rfl ?_
  refine m_iload_n hC 0 dJ5_ensureCapacityInternal_d00df_12 rfl rfl ?_
  refine m_isub hC dJ5_ensureCapacityInternal_d00df_13 ?_
  refine m_if_le (tgt := 38) hC dJ5_ensureCapacityInternal_d00df_14 (by decide) (by first | omega | (simp [hs_at] <;> omega)) (fun c1 => ?_) (fun c1 => ?_)
  · exact m_vret hC dJ5_ensureCapacityInternal_d00df_38 hr (by show _ ≤ k_cc n x; omega) (by show _ ≤ k_cs n x; omega) (⟨rfl, v, f, by rw [show k_cap n x = n from if_pos (by omega)]; exact hP, fun _ _ => rfl, hf, Or.inl rfl, hv, Nat.le_refl _, fun _ _ _ _ => rfl⟩)
  · have hcc : k_cc n x = 1 := if_neg (by omega)
    have hcs : k_cs n x = 2 * n + 2 := if_neg (by omega)
    have hcap : k_cap n x = 2 * n + 2 := if_neg (by omega)
    refine m_aload_n hC 1 dJ5_ensureCapacityInternal_d00df_17 rfl rfl ?_
    refine m_aload_n hC 1 dJ5_ensureCapacityInternal_d00df_18 rfl rfl ?_
    refine m_getf hC dJ5_ensureCapacityInternal_d00df_19 kf_J5_15 hP.1 rfl ?_
    refine m_aload_n hC 1 dJ5_ensureCapacityInternal_d00df_22 rfl rfl ?_
    refine m_iload_n hC 2 dJ5_ensureCapacityInternal_d00df_23 rfl rfl ?_
    refine m_callU hC (t_J5_newCapacity_0f7a4 hF hl hP hn (x := x) (by omega)) dJ5_ensureCapacityInternal_d00df_24 kc_J5_newCapacity_0f7a4 (kU_J5_104 hJ) (m_obr (q := (RJ4, TJ4, 4)) hC hP.1 rfl) rfl rfl (Nat.le_of_ble_eq_true rfl) ⟨Nat.le_of_ble_eq_true rfl, Nat.le_of_ble_eq_true rfl⟩ ⟨Nat.zero_le _, Nat.zero_le _⟩ m_nox (fun v9 M2 h9 => ?_)
    obtain ⟨rfl, h9⟩ := h9
    replace h9 := h9.symm
    subst h9
    refine m_aload_n hC 1 dJ5_ensureCapacityInternal_d00df_27 rfl rfl ?_
    refine m_getf hC dJ5_ensureCapacityInternal_d00df_28 kf_J5_22 hP.1 rfl ?_
    refine m_ishl hC dJ5_ensureCapacityInternal_d00df_31 (z := ((2 * n + 2 : Nat) : Int)) (k_shl0 _) ?_
    refine m_callS hC (t_J7_copyOf_9075b hF hl hP.2 hv hv0 hf (n2 := 2 * n + 2) (by omega)) dJ5_ensureCapacityInternal_d00df_32 kc_J7_copyOf_9075b kS_J5_108 rfl rfl (Nat.le_of_ble_eq_true rfl) ⟨Nat.le_of_ble_eq_true rfl, Nat.le_of_ble_eq_true rfl⟩ ⟨by show 0 + 0 + 1 ≤ k_cc n x; omega, by show 0 + 0 + (2 * n + 2) ≤ k_cs n x; omega⟩ m_nox (fun v9 M8 h9 => ?_)
    obtain ⟨rfl, rfl⟩ := h9
    have hS8 : (m_push M (m_ia 2 (2 * n + 2) (fun i => if 0 ≤ i ∧ i < (n : Int) then f i else 0))).2 a = some (m_ob 1 [.ref v, VI 0, VI ml, VI len]) := (m_push_ne (by omega)).trans hP.1
    refine m_gpf hC dJ5_ensureCapacityInternal_d00df_35 kf_J5_15 kw_1_0 hS8 ha0 (Nat.le_of_ble_eq_true rfl) rfl rfl (fun M3 R4 f5 => ?_)
    change M3.2 _ = some (m_ob 1 [_, _, _, _]) at R4
    exact m_vret hC dJ5_ensureCapacityInternal_d00df_38 hr (by show _ ≤ k_cc n x; omega) (by show _ ≤ k_cs n x; omega) (⟨rfl, M.1, _, by rw [hcap]; exact ⟨R4, (f5.2 _ (by omega)).trans m_push_eq⟩, fun i hi => if_pos hi, (fun i => by show 0 ≤ (if 0 ≤ i ∧ i < (n : Int) then f i else 0) ∧ (if 0 ≤ i ∧ i < (n : Int) then f i else 0) < 128; split; exact hf i; omega), Or.inr (Nat.le_refl _), (by rw [f5.1]; exact Nat.lt_succ_self _), (by rw [f5.1]; exact Nat.le_succ _), fun q h1 h2 h3 => (f5.2 q (by omega)).trans (m_push_ne (by omega))⟩)

