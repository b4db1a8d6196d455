/-! strings, by their methods -/
section m_ST2
variable {D : va_G} {aC : Nat → ClassId} {s0 : State} {own : String} {cc : ByteArray} {nL : Nat} {p : Program} {l : Launch} {e : Env} {R : Room} {s : State} {m : MethodId} {args : Array Value} {below : List Frame} {meth : Method} {c : Code} {cells slots : Nat} {Q : State → Prop} {pc : Nat} {lv : List (Nat × Value)} {st : List Value} {M : m_M}
theorem m_ifnn (C : m_C D aC s0 own cc nL l p s m args meth c) {a tgt : Nat} {off : Int} (hd : decode cc pc = .ok (.ifnonnull off, 3)) (ht : (pc : Int) + off = (tgt : Int)) (kt : m_W D aC s0 nL p l e R s m args below meth c cells slots Q tgt lv st M) : m_W D aC s0 nL p l e R s m args below meth c cells slots Q pc lv (.ref a :: st) M := fun H locs ls h1 h2 h3 => lv_ifnonnull C.1 C.2.1 hd ht (kt H locs ls h1 h2 h3)
theorem m_null (C : m_C D aC s0 own cc nL l p s m args meth c) (hd : decode cc pc = .ok (.aconst_null, 1)) (kt : m_W D aC s0 nL p l e R s m args below meth c cells slots Q (pc + 1) lv (.null :: st) M) : m_W D aC s0 nL p l e R s m args below meth c cells slots Q pc lv st M := fun H locs ls h1 h2 h3 => lv_null C.1 C.2.1 hd (kt H locs ls h1 h2 h3)
end m_ST2

set_option maxHeartbeats 4000000 in
set_option maxRecDepth 100000 in
theorem t_J0_isLatin1_s {D : va_G} {aC : Nat → ClassId} {s0 : State} {l : Launch} (hF : m_F D aC s0) (hl : l.stackTraces = false) {fo ks vs : Nat → Nat} {fA sA dO dT : Nat} (hJ : m_J s0 fo ks vs fA sA dO dT) {q v : Nat} {z : List Int} {M : m_M} (hq : sQ s0 q v z M) : m_Met D aC s0 l yJ0_isLatin1_aae02 cJ0_isLatin1_aae02 1 (some .boolean) 0 (0) (0) [.ref q] M (fun r M' => r = some (VI 1) ∧ M' = M) m_nx := by
  refine m_entry (lv := [(0, .ref q)]) (by decide +kernel) (Nat.le_of_ble_eq_true rfl) rfl hF hl ?_
  intro p e s m args below meth c hC hr hno hnm
  change m_C D aC s0 RJ0 _ _ _ _ _ _ _ _ _ at hC
  refine m_gets hC hJ.cZ kg_J0_38 dJ0_isLatin1_aae02_0 ?_
  refine m_if_eq (tgt := 17) hC dJ0_isLatin1_aae02_3 (by decide) (by first | omega | (simp [hs_at] <;> omega)) (fun c1 => ?_) (fun c1 => ?_)
  · omega
  · refine m_aload_n hC 0 dJ0_isLatin1_aae02_6 rfl rfl ?_
    refine m_sgc hC hq dJ0_isLatin1_aae02_7 kg_J0_15 kf_J0_15 ?_
    refine m_if_ne (tgt := 17) hC dJ0_isLatin1_aae02_10 (by decide) (by first | omega | (simp [hs_at] <;> omega)) (fun c2 => ?_) (fun c2 => ?_)
    · omega
    · refine m_iconst hC dJ0_isLatin1_aae02_13 ?_
      refine m_goto (tgt := 18) hC dJ0_isLatin1_aae02_14 (by decide) ?_
      exact m_zret hC dJ0_isLatin1_aae02_18 hr (by rfl) (by decide) (by decide) (⟨rfl, rfl⟩)

set_option maxHeartbeats 4000000 in
set_option maxRecDepth 100000 in
theorem t_J0_coder_s {D : va_G} {aC : Nat → ClassId} {s0 : State} {l : Launch} (hF : m_F D aC s0) (hl : l.stackTraces = false) {fo ks vs : Nat → Nat} {fA sA dO dT : Nat} (hJ : m_J s0 fo ks vs fA sA dO dT) {q v : Nat} {z : List Int} {M : m_M} (hq : sQ s0 q v z M) : m_Met D aC s0 l yJ0_coder_7d493 cJ0_coder_7d493 1 (some .byte) 0 (0) (0) [.ref q] M (fun r M' => r = some (VI 0) ∧ M' = M) m_nx := by
  refine m_entry (lv := [(0, .ref q)]) (by decide +kernel) (Nat.le_of_ble_eq_true rfl) rfl hF hl ?_
  intro p e s m args below meth c hC hr hno hnm
  change m_C D aC s0 RJ0 _ _ _ _ _ _ _ _ _ at hC
  refine m_gets hC hJ.cZ kg_J0_38 dJ0_coder_7d493_0 ?_
  refine m_if_eq (tgt := 13) hC dJ0_coder_7d493_3 (by decide) (by first | omega | (simp [hs_at] <;> omega)) (fun c1 => ?_) (fun c1 => ?_)
  · omega
  · refine m_aload_n hC 0 dJ0_coder_7d493_6 rfl rfl ?_
    refine m_sgc hC hq dJ0_coder_7d493_7 kg_J0_15 kf_J0_15 ?_
    refine m_goto (tgt := 14) hC dJ0_coder_7d493_10 (by decide) ?_
    exact m_zret hC dJ0_coder_7d493_14 hr (by rfl) (by decide) (by decide) (⟨rfl, rfl⟩)

set_option maxHeartbeats 4000000 in
set_option maxRecDepth 100000 in
theorem t_J0_length_s {D : va_G} {aC : Nat → ClassId} {s0 : State} {l : Launch} (hF : m_F D aC s0) (hl : l.stackTraces = false) {fo ks vs : Nat → Nat} {fA sA dO dT : Nat} (hJ : m_J s0 fo ks vs fA sA dO dT) {q v : Nat} {z : List Int} {M : m_M} (hq : sQ s0 q v z M) : m_Met D aC s0 l yJ0_length_8abf5 cJ0_length_8abf5 1 (some .int) 1 (0) (0) [.ref q] M (fun r M' => r = some (VI (z.length : Int)) ∧ M' = M) m_nx := by
  refine m_entry (lv := [(0, .ref q)]) (by decide +kernel) (Nat.le_of_ble_eq_true rfl) rfl hF hl ?_
  intro p e s m args below meth c hC hr hno hnm
  change m_C D aC s0 RJ0 _ _ _ _ _ _ _ _ _ at hC
  refine m_aload_n hC 0 dJ0_length_8abf5_0 rfl rfl ?_
  refine m_sgv hC hq dJ0_length_8abf5_1 kg_J0_9 kf_J0_9 ?_
  refine m_sln hC hq dJ0_length_8abf5_4 ?_
  refine m_aload_n hC 0 dJ0_length_8abf5_5 rfl rfl ?_
  refine m_callVr hC (t_J0_coder_s hF hl hJ hq) dJ0_length_8abf5_6 kc_J0_coder_7d493 kV_J0_335 rfl (m_srv hC hq) rfl rfl (Nat.le_of_ble_eq_true rfl) (by decide) (by decide) m_nox (fun v9 M1 h9 => ?_)
  obtain ⟨rfl, h9⟩ := h9
  replace h9 := h9.symm
  subst h9
  refine m_ishr hC dJ0_length_8abf5_9 (z := (z.length : Int)) (k_shr0 _) ?_
  exact m_iret hC dJ0_length_8abf5_10 hr (by decide) (by decide) (⟨rfl, rfl⟩)

set_option maxHeartbeats 4000000 in
set_option maxRecDepth 100000 in
theorem t_J1_charAt_s {D : va_G} {aC : Nat → ClassId} {s0 : State} {l : Launch} (hF : m_F D aC s0) (hl : l.stackTraces = false) {fo ks vs : Nat → Nat} {fA sA dO dT : Nat} (hJ : m_J s0 fo ks vs fA sA dO dT) {q v : Nat} {z : List Int} {M : m_M} (hq : sQ s0 q v z M) {i : Int} (hi : 0 ≤ i ∧ i < (z.length : Int)) : m_Met D aC s0 l yJ1_charAt_3b067 cJ1_charAt_3b067 2 (some .char) 2 (0) (0) [.ref v, VI i] M (fun r M' => r = some (VI (z.getD i.toNat 0)) ∧ M' = M) m_nx := by
  refine m_entry (lv := [(0, .ref v), (1, VI i)]) (by decide +kernel) (Nat.le_of_ble_eq_true rfl) rfl hF hl ?_
  intro p e s m args below meth c hC hr hno hnm
  change m_C D aC s0 RJ1 _ _ _ _ _ _ _ _ _ at hC
  have hzz := hq.rg.1 i.toNat
  have hz3 := hq.rg.2
  refine m_iload_n hC 1 dJ1_charAt_3b067_0 rfl rfl ?_
  refine m_aload_n hC 0 dJ1_charAt_3b067_1 rfl rfl ?_
  refine m_sln hC hq dJ1_charAt_3b067_2 ?_
  refine m_callS hC (t_J0_checkIndex_df160 hF hl hJ (i := i) (z := (z.length : Int)) (by omega)) dJ1_charAt_3b067_3 kc_J0_checkIndex_df160 kS_J1_9 rfl rfl (Nat.le_of_ble_eq_true rfl) (by decide) (by decide) m_nox (fun v9 M1 h9 => ?_)
  obtain ⟨rfl, h9⟩ := h9
  replace h9 := h9.symm
  subst h9
  refine m_aload_n hC 0 dJ1_charAt_3b067_6 rfl rfl ?_
  refine m_iload_n hC 1 dJ1_charAt_3b067_7 rfl rfl ?_
  refine m_sbl hC hq dJ1_charAt_3b067_8 hi ?_
  refine m_sipush hC dJ1_charAt_3b067_9 (by decide) ?_
  refine m_iand hC dJ1_charAt_3b067_12 (z := (z.getD i.toNat 0)) (k_and255 hzz) ?_
  refine m_i2c hC dJ1_charAt_3b067_13 (by omega) ?_
  exact m_zret hC dJ1_charAt_3b067_14 hr (k_char (by omega)) (by decide) (by decide) (⟨rfl, rfl⟩)

set_option maxHeartbeats 4000000 in
set_option maxRecDepth 100000 in
theorem t_J0_charAt_s {D : va_G} {aC : Nat → ClassId} {s0 : State} {l : Launch} (hF : m_F D aC s0) (hl : l.stackTraces = false) {fo ks vs : Nat → Nat} {fA sA dO dT : Nat} (hJ : m_J s0 fo ks vs fA sA dO dT) {q v : Nat} {z : List Int} {M : m_M} (hq : sQ s0 q v z M) {i : Int} (hi : 0 ≤ i ∧ i < (z.length : Int)) : m_Met D aC s0 l yJ0_charAt_5068e cJ0_charAt_5068e 2 (some .char) 3 (0) (0) [.ref q, VI i] M (fun r M' => r = some (VI (z.getD i.toNat 0)) ∧ M' = M) m_nx := by
  refine m_entry (lv := [(0, .ref q), (1, VI i)]) (by decide +kernel) (Nat.le_of_ble_eq_true rfl) rfl hF hl ?_
  intro p e s m args below meth c hC hr hno hnm
  change m_C D aC s0 RJ0 _ _ _ _ _ _ _ _ _ at hC
  have hzz := hq.rg.1 i.toNat
  refine m_aload_n hC 0 dJ0_charAt_5068e_0 rfl rfl ?_
  refine m_callVr hC (t_J0_isLatin1_s hF hl hJ hq) dJ0_charAt_5068e_1 kc_J0_isLatin1_aae02 kV_J0_492 rfl (m_srv hC hq) rfl rfl (Nat.le_of_ble_eq_true rfl) (by decide) (by decide) m_nox (fun v9 M1 h9 => ?_)
  obtain ⟨rfl, h9⟩ := h9
  replace h9 := h9.symm
  subst h9
  refine m_if_eq (tgt := 16) hC dJ0_charAt_5068e_4 (by decide) (by first | omega | (simp [hs_at] <;> omega)) (fun c2 => by omega) (fun c2 => ?_)
  refine m_aload_n hC 0 dJ0_charAt_5068e_7 rfl rfl ?_
  refine m_sgv hC hq dJ0_charAt_5068e_8 kg_J0_9 kf_J0_9 ?_
  refine m_iload_n hC 1 dJ0_charAt_5068e_11 rfl rfl ?_
  refine m_callS hC (t_J1_charAt_s hF hl hJ hq hi) dJ0_charAt_5068e_12 kc_J1_charAt_3b067 kS_J0_495 rfl rfl (Nat.le_of_ble_eq_true rfl) (by decide) (by decide) m_nox (fun v9 M3 h9 => ?_)
  obtain ⟨rfl, h9⟩ := h9
  replace h9 := h9.symm
  subst h9
  exact m_zret hC dJ0_charAt_5068e_15 hr (k_char (by omega)) (by decide) (by decide) (⟨rfl, rfl⟩)

set_option maxHeartbeats 4000000 in
set_option maxRecDepth 100000 in
theorem t_J5_newCapacity_g {D : va_G} {aC : Nat → ClassId} {s0 : State} {l : Launch} (hF : m_F D aC s0) (hl : l.stackTraces = false) {a v n : Nat} {ml len : Int} {f : Int → Int} {M : m_M} (hP : sbP a v n ml len f M) (hn : n ≤ 600) {x : Int} (hx : (n : Int) < x ∧ x ≤ 600) : m_Met D aC s0 l yJ5_newCapacity_0f7a4 cJ5_newCapacity_0f7a4 6 (some .int) 2 (0) (0) [.ref a, VI x] M (fun r M' => r = some (VI (((max x.toNat (2 * n + 2)) : Nat) : Int)) ∧ M' = M) m_nx := by
  refine m_entry (lv := [(0, .ref a), (1, VI x)]) (by decide +kernel) (Nat.le_of_ble_eq_true rfl) rfl hF hl ?_
  intro p e s m args below meth c hC hr hno hnm
  change m_C D aC s0 RJ5 _ _ _ _ _ _ _ _ _ at hC
  refine m_aload_n hC 0 dJ5_newCapacity_0f7a4_0 rfl rfl ?_
  refine m_getf hC dJ5_newCapacity_0f7a4_1 kf_J5_15 hP.1 rfl ?_
  refine m_alen hC dJ5_newCapacity_0f7a4_4 hP.2 (by decide) ?_
  refine m_istore_n hC dJ5_newCapacity_0f7a4_5 rfl (by decide) rfl ?_
  refine m_iload_n hC 2 dJ5_newCapacity_0f7a4_6 rfl rfl ?_
  refine m_aload_n hC 1 dJ5_newCapacity_0f7a4_7 rfl rfl ?_
  refine m_getf hC dJ5_newCapacity_0f7a4_8 kf_J5_22 hP.1 rfl ?_
  refine m_ishl hC dJ5_newCapacity_0f7a4_11 (z := x) (k_shl0 x) ?_
  refine m_istore_n hC dJ5_newCapacity_0f7a4_12 rfl (by decide) rfl ?_
  refine m_iload_n hC 0 dJ5_newCapacity_0f7a4_13 rfl rfl ?_
  refine m_iload_n hC 1 dJ5_newCapacity_0f7a4_14 rfl rfl ?_
  refine m_isub hC dJ5_newCapacity_0f7a4_15 ?_
  refine m_istore hC dJ5_newCapacity_0f7a4_16 (by decide) rfl ?_
  refine m_iload_n hC 2 dJ5_newCapacity_0f7a4_18 rfl rfl ?_
  refine m_iload hC 0 dJ5_newCapacity_0f7a4_19 rfl ?_
  refine m_iload_n hC 2 dJ5_newCapacity_0f7a4_21 rfl rfl ?_
  refine m_iconst hC dJ5_newCapacity_0f7a4_22 ?_
  refine m_aload_n hC 3 dJ5_newCapacity_0f7a4_23 rfl rfl ?_
  refine m_getf hC dJ5_newCapacity_0f7a4_24 kf_J5_22 hP.1 rfl ?_
  refine m_ishl hC dJ5_newCapacity_0f7a4_27 (z := 2) (k_shl0 2) ?_
  refine m_iadd hC dJ5_newCapacity_0f7a4_28 ?_
  refine m_callS hC (t_J8_newLength_cabcc hF hl (a := (n : Int)) (b := x - (n : Int)) (z := (n : Int) + 2) (by omega) (by omega) (by omega)) dJ5_newCapacity_0f7a4_29 kc_J8_newLength_cabcc kS_J5_114 rfl rfl (Nat.le_of_ble_eq_true rfl) (by decide) (by decide) m_nox (fun v9 M1 h9 => ?_)
  obtain ⟨rfl, h9⟩ := h9
  replace h9 := h9.symm
  subst h9
  refine m_istore hC dJ5_newCapacity_0f7a4_32 (by decide) rfl ?_
  refine m_iload hC 0 dJ5_newCapacity_0f7a4_34 rfl ?_
  refine m_ldci hC dJ5_newCapacity_0f7a4_36 kM_J5_39 ?_
  refine m_icmp_ne (tgt := 51) hC dJ5_newCapacity_0f7a4_38 (by decide) (by first | omega | (simp [hs_at] <;> omega)) (fun c2 => ?_) (fun c2 => ?_)
  · refine m_iload hC 0 dJ5_newCapacity_0f7a4_51 rfl ?_
    refine m_aload_n hC 4 dJ5_newCapacity_0f7a4_53 rfl rfl ?_
    refine m_getf hC dJ5_newCapacity_0f7a4_54 kf_J5_22 hP.1 rfl ?_
    refine m_ishr hC dJ5_newCapacity_0f7a4_57 (z := ((n : Int) + max (x - (n : Int)) ((n : Int) + 2))) (k_shr0 _) ?_
    exact m_iret hC dJ5_newCapacity_0f7a4_58 hr (by decide) (by decide) (⟨by congr 2; omega, rfl⟩)
  · omega

set_option maxHeartbeats 4000000 in
set_option maxRecDepth 100000 in
theorem t_J5_ensure_g {D : va_G} {aC : Nat → ClassId} {s0 : State} {l : Launch} (hF : m_F D aC s0) (hl : l.stackTraces = false) {fo ks vs : Nat → Nat} {fA sA dO dT : Nat} (hJ : m_J s0 fo ks vs fA sA dO dT) {a v n : Nat} {ml len : Int} {f : Int → Int} {M : m_M} (hP : sbP a v n ml len f M) (hf : hby f) (ha : a < M.1) (hv : v < M.1) (ha0 : s0.heap.size ≤ a) (hv0 : s0.heap.size ≤ v) (hn : n ≤ 482) {x : Int} (hx : 0 ≤ x ∧ x ≤ 240) : m_Met D aC s0 l yJ5_ensureCapacityInternal_d00df cJ5_ensureCapacityInternal_d00df 3 none 3 (1) (482) [.ref a, VI x] M (fun r M' => r = none ∧ ∃ (v2 n2 : Nat) (f2 : Int → Int), sbP a v2 n2 ml len f2 M' ∧ (n ≤ n2 ∧ x ≤ (n2 : Int) ∧ n2 ≤ 482) ∧ (∀ i : Int, 0 ≤ i ∧ i < (n : Int) → f2 i = f i) ∧ hby f2 ∧ sbF a v M v2 M') m_nx := by
  refine m_entry (lv := [(0, .ref a), (1, VI x)]) (by decide +kernel) (Nat.le_of_ble_eq_true rfl) rfl hF hl ?_
  intro p e s m args below meth c hC hr hno hnm
  change m_C D aC s0 RJ5 _ _ _ _ _ _ _ _ _ at hC
  refine m_aload_n hC 0 dJ5_ensureCapacityInternal_d00df_0 rfl rfl ?_
  refine m_getf hC dJ5_ensureCapacityInternal_d00df_1 kf_J5_15 hP.1 rfl ?_
  refine m_alen hC dJ5_ensureCapacityInternal_d00df_4 hP.2 (by decide) ?_
  refine m_aload_n hC 0 dJ5_ensureCapacityInternal_d00df_5 rfl rfl ?_
  refine m_getf hC dJ5_ensureCapacityInternal_d00df_6 kf_J5_22 hP.1 rfl ?_
  refine m_ishr hC dJ5_ensureCapacityInternal_d00df_9 (z := (n : Int)) (k_shr0 _) ?_
  refine m_istore_n hC dJ5_ensureCapacityInternal_d00df_10 rfl (by decide) rfl ?_
  refine m_iload_n hC 2 dJ5_ensureCapacityInternal_d00df_11 rfl rfl ?_
  refine m_iload_n hC 0 dJ5_ensureCapacityInternal_d00df_12 rfl rfl ?_
  refine m_isub hC dJ5_ensureCapacityInternal_d00df_13 ?_
  refine m_if_le (tgt := 38) hC dJ5_ensureCapacityInternal_d00df_14 (by decide) (by first | omega | (simp [hs_at] <;> omega)) (fun c1 => ?_) (fun c1 => ?_)
  · exact m_vret hC dJ5_ensureCapacityInternal_d00df_38 hr (by show _ ≤ 1; omega) (by show _ ≤ 482; omega) (⟨rfl, v, n, f, hP, by omega, fun _ _ => rfl, hf, Or.inl rfl, hv, Nat.le_refl _, fun _ _ _ _ => rfl⟩)
  · refine m_aload_n hC 1 dJ5_ensureCapacityInternal_d00df_17 rfl rfl ?_
    refine m_aload_n hC 1 dJ5_ensureCapacityInternal_d00df_18 rfl rfl ?_
    refine m_getf hC dJ5_ensureCapacityInternal_d00df_19 kf_J5_15 hP.1 rfl ?_
    refine m_aload_n hC 1 dJ5_ensureCapacityInternal_d00df_22 rfl rfl ?_
    refine m_iload_n hC 2 dJ5_ensureCapacityInternal_d00df_23 rfl rfl ?_
    refine m_callU hC (t_J5_newCapacity_g hF hl hP (by omega) (x := x) (by omega)) dJ5_ensureCapacityInternal_d00df_24 kc_J5_newCapacity_0f7a4 (kU_J5_104 hJ) (m_obr (q := (RJ4, TJ4, 4)) hC hP.1 rfl) rfl rfl (Nat.le_of_ble_eq_true rfl) ⟨Nat.le_of_ble_eq_true rfl, Nat.le_of_ble_eq_true rfl⟩ ⟨Nat.zero_le _, Nat.zero_le _⟩ m_nox (fun v9 M2 h9 => ?_)
    obtain ⟨rfl, h9⟩ := h9
    replace h9 := h9.symm
    subst h9
    refine m_aload_n hC 1 dJ5_ensureCapacityInternal_d00df_27 rfl rfl ?_
    refine m_getf hC dJ5_ensureCapacityInternal_d00df_28 kf_J5_22 hP.1 rfl ?_
    refine m_ishl hC dJ5_ensureCapacityInternal_d00df_31 (z := (((max x.toNat (2 * n + 2)) : Nat) : Int)) (k_shl0 _) ?_
    refine m_callS hC (t_J7_copyOf_9075b hF hl hP.2 hv hv0 hf (n2 := (max x.toNat (2 * n + 2))) (by omega)) dJ5_ensureCapacityInternal_d00df_32 kc_J7_copyOf_9075b kS_J5_108 rfl rfl (Nat.le_of_ble_eq_true rfl) ⟨Nat.le_of_ble_eq_true rfl, Nat.le_of_ble_eq_true rfl⟩ ⟨by show 0 + 0 + 1 ≤ 1; omega, by show 0 + 0 + (max x.toNat (2 * n + 2)) ≤ 482; omega⟩ m_nox (fun v9 M8 h9 => ?_)
    obtain ⟨rfl, rfl⟩ := h9
    have hS8 : (m_push M (m_ia 2 (max x.toNat (2 * n + 2)) (fun i => if 0 ≤ i ∧ i < (n : Int) then f i else 0))).2 a = some (m_ob 1 [.ref v, VI 0, VI ml, VI len]) := (m_push_ne (by omega)).trans hP.1
    refine m_gpf hC dJ5_ensureCapacityInternal_d00df_35 kf_J5_15 kw_1_0 hS8 ha0 (Nat.le_of_ble_eq_true rfl) rfl rfl (fun M3 R4 f5 => ?_)
    change M3.2 _ = some (m_ob 1 [_, _, _, _]) at R4
    exact m_vret hC dJ5_ensureCapacityInternal_d00df_38 hr (by show _ ≤ 1; omega) (by show _ ≤ 482; omega) (⟨rfl, M.1, (max x.toNat (2 * n + 2)), _, ⟨R4, (f5.2 _ (by omega)).trans m_push_eq⟩, by omega, fun i hi => if_pos hi, (fun i => by show 0 ≤ (if 0 ≤ i ∧ i < (n : Int) then f i else 0) ∧ (if 0 ≤ i ∧ i < (n : Int) then f i else 0) < 128; split; exact hf i; omega), Or.inr (Nat.le_refl _), (by rw [f5.1]; exact Nat.lt_succ_self _), (by rw [f5.1]; exact Nat.le_succ _), fun q h1 h2 h3 => (f5.2 q (by omega)).trans (m_push_ne (by omega))⟩)

set_option maxHeartbeats 4000000 in
set_option maxRecDepth 100000 in
theorem t_J5_inflN {D : va_G} {aC : Nat → ClassId} {s0 : State} {l : Launch} (hF : m_F D aC s0) (hl : l.stackTraces = false) {fo ks vs : Nat → Nat} {fA sA dO dT : Nat} (hJ : m_J s0 fo ks vs fA sA dO dT) {a : Nat} {v0 : Value} {ml len : Int} {q v : Nat} {z : List Int} {M : m_M} (hS : M.2 a = some (m_ob 1 [v0, VI 0, VI ml, VI len])) (hq : sQ s0 q v z M) : m_Met D aC s0 l yJ5_inflateIfNeededFor_a7421 cJ5_inflateIfNeededFor_a7421 2 none 1 (0) (0) [.ref a, .ref q] M (fun r M' => r = none ∧ M' = M) m_nx := by
  refine m_entry (lv := [(0, .ref a), (1, .ref q)]) (by decide +kernel) (Nat.le_of_ble_eq_true rfl) rfl hF hl ?_
  intro p e s m args below meth c hC hr hno hnm
  change m_C D aC s0 RJ5 _ _ _ _ _ _ _ _ _ at hC
  refine m_gets hC hJ.cZ kg_J5_18 dJ5_inflateIfNeededFor_a7421_0 ?_
  refine m_if_eq (tgt := 21) hC dJ5_inflateIfNeededFor_a7421_3 (by decide) (by first | omega | (simp [hs_at] <;> omega)) (fun c1 => by omega) (fun c1 => ?_)
  refine m_aload_n hC 0 dJ5_inflateIfNeededFor_a7421_6 rfl rfl ?_
  refine m_getf hC dJ5_inflateIfNeededFor_a7421_7 kf_J5_22 hS rfl ?_
  refine m_aload_n hC 1 dJ5_inflateIfNeededFor_a7421_10 rfl rfl ?_
  refine m_callVr hC (t_J0_coder_s hF hl hJ hq) dJ5_inflateIfNeededFor_a7421_11 kc_J0_coder_7d493 kV_J5_40 rfl (m_srv hC hq) rfl rfl (Nat.le_of_ble_eq_true rfl) (by decide) (by decide) m_nox (fun v9 M2 h9 => ?_)
  obtain ⟨rfl, h9⟩ := h9
  replace h9 := h9.symm
  subst h9
  refine m_icmp_eq (tgt := 21) hC dJ5_inflateIfNeededFor_a7421_14 (by decide) (by first | omega | (simp [hs_at] <;> omega)) (fun c3 => ?_) (fun c3 => ?_)
  · exact m_vret hC dJ5_inflateIfNeededFor_a7421_21 hr (by decide) (by decide) (⟨rfl, rfl⟩)
  · omega

set_option maxHeartbeats 4000000 in
set_option maxRecDepth 100000 in
theorem t_J0_getBytes {D : va_G} {aC : Nat → ClassId} {s0 : State} {l : Launch} (hF : m_F D aC s0) (hl : l.stackTraces = false) {fo ks vs : Nat → Nat} {fA sA dO dT : Nat} (hJ : m_J s0 fo ks vs fA sA dO dT) {q v u n : Nat} {z : List Int} {f : Int → Int} {c9 : Int} {M : m_M} (hq : sQ s0 q v z M) (hV : M.2 u = some (m_ia 2 n f)) (hu0 : s0.heap.size ≤ u) (hc : 0 ≤ c9 ∧ c9 + (z.length : Int) ≤ (n : Int) ∧ n < 10000) : m_Met D aC s0 l yJ0_getBytes_840e7 cJ0_getBytes_840e7 4 none 1 (0) (0) [.ref q, .ref u, VI c9, VI 0] M (fun r M' => r = none ∧ M' = m_up M u (m_ia 2 n (fun i => if c9 ≤ i ∧ i < c9 + (z.length : Int) then z.getD (i - c9).toNat 0 else f i))) m_nx := by
  refine m_entry (lv := [(0, .ref q), (1, .ref u), (2, VI c9), (3, VI 0)]) (by decide +kernel) (Nat.le_of_ble_eq_true rfl) rfl hF hl ?_
  intro p e s m args below meth c hC hr hno hnm
  change m_C D aC s0 RJ0 _ _ _ _ _ _ _ _ _ at hC
  refine m_aload_n hC 0 dJ0_getBytes_840e7_0 rfl rfl ?_
  refine m_callVr hC (t_J0_coder_s hF hl hJ hq) dJ0_getBytes_840e7_1 kc_J0_coder_7d493 kV_J0_335 rfl (m_srv hC hq) rfl rfl (Nat.le_of_ble_eq_true rfl) (by decide) (by decide) m_nox (fun v9 M1 h9 => ?_)
  obtain ⟨rfl, h9⟩ := h9
  replace h9 := h9.symm
  subst h9
  refine m_iload_n hC 3 dJ0_getBytes_840e7_4 rfl rfl ?_
  refine m_icmp_ne (tgt := 28) hC dJ0_getBytes_840e7_5 (by decide) (by first | omega | (simp [hs_at] <;> omega)) (fun c2 => ?_) (fun c2 => ?_)
  · omega
  · refine m_aload_n hC 0 dJ0_getBytes_840e7_8 rfl rfl ?_
    refine m_sgv hC hq dJ0_getBytes_840e7_9 kg_J0_9 kf_J0_9 ?_
    refine m_iconst hC dJ0_getBytes_840e7_12 ?_
    refine m_aload_n hC 1 dJ0_getBytes_840e7_13 rfl rfl ?_
    refine m_iload_n hC 2 dJ0_getBytes_840e7_14 rfl rfl ?_
    refine m_iload_n hC 3 dJ0_getBytes_840e7_15 rfl rfl ?_
    refine m_ishl hC dJ0_getBytes_840e7_16 (z := c9) (k_shl0 c9) ?_
    refine m_aload_n hC 0 dJ0_getBytes_840e7_17 rfl rfl ?_
    refine m_sgv hC hq dJ0_getBytes_840e7_18 kg_J0_9 kf_J0_9 ?_
    refine m_sln hC hq dJ0_getBytes_840e7_21 ?_
    refine m_acopyg hC dJ0_getBytes_840e7_22 kM_acopy0 (fz := fun j => z.getD j 0) (n0 := z.length) (m_src hC hq) hV hu0 (by omega) (fun i hi => (k_byte (hq.rg.1 i)).2) (Nat.le_of_ble_eq_true rfl) (Nat.le_of_ble_eq_true rfl) ?_
    refine m_goto (tgt := 43) hC dJ0_getBytes_840e7_25 (by decide) ?_
    exact m_vret hC dJ0_getBytes_840e7_43 hr (by decide) (by decide) (⟨rfl, rfl⟩)

set_option maxHeartbeats 4000000 in
set_option maxRecDepth 100000 in
theorem t_J5_putStr {D : va_G} {aC : Nat → ClassId} {s0 : State} {l : Launch} (hF : m_F D aC s0) (hl : l.stackTraces = false) {fo ks vs : Nat → Nat} {fA sA dO dT : Nat} (hJ : m_J s0 fo ks vs fA sA dO dT) (hJS : m_JS s0) {a u n : Nat} {ml len : Int} {f : Int → Int} {q v : Nat} {z : List Int} {c9 : Int} {M : m_M} (hP : sbP a u n ml len f M) (hq : sQ s0 q v z M) (hu0 : s0.heap.size ≤ u) (hc : 0 ≤ c9 ∧ c9 + (z.length : Int) ≤ (n : Int) ∧ n < 10000) : m_Met D aC s0 l yJ5_putStringAt_47b60 cJ5_putStringAt_47b60 3 none 2 (0) (0) [.ref a, VI c9, .ref q] M (fun r M' => r = none ∧ M' = m_up M u (m_ia 2 n (fun i => if c9 ≤ i ∧ i < c9 + (z.length : Int) then z.getD (i - c9).toNat 0 else f i))) m_nx := by
  refine m_entry (lv := [(0, .ref a), (1, VI c9), (2, .ref q)]) (by decide +kernel) (Nat.le_of_ble_eq_true rfl) rfl hF hl ?_
  intro p e s m args below meth c hC hr hno hnm
  change m_C D aC s0 RJ5 _ _ _ _ _ _ _ _ _ at hC
  refine m_aload_n hC 0 dJ5_putStringAt_47b60_0 rfl rfl ?_
  refine m_aload_n hC 2 dJ5_putStringAt_47b60_1 rfl rfl ?_
  refine m_callU hC (t_J5_inflN hF hl hJ hP.1 hq) dJ5_putStringAt_47b60_2 kc_J5_inflateIfNeededFor_a7421 (kU_J5_397 hJS) (m_obr (q := (RJ4, TJ4, 4)) hC hP.1 rfl) rfl rfl (Nat.le_of_ble_eq_true rfl) (by decide) (by decide) m_nox (fun v9 M1 h9 => ?_)
  obtain ⟨rfl, h9⟩ := h9
  replace h9 := h9.symm
  subst h9
  refine m_aload_n hC 2 dJ5_putStringAt_47b60_5 rfl rfl ?_
  refine m_aload_n hC 0 dJ5_putStringAt_47b60_6 rfl rfl ?_
  refine m_getf hC dJ5_putStringAt_47b60_7 kf_J5_15 hP.1 rfl ?_
  refine m_iload_n hC 1 dJ5_putStringAt_47b60_10 rfl rfl ?_
  refine m_aload_n hC 0 dJ5_putStringAt_47b60_11 rfl rfl ?_
  refine m_getf hC dJ5_putStringAt_47b60_12 kf_J5_22 hP.1 rfl ?_
  refine m_callVr hC (t_J0_getBytes hF hl hJ hq hP.2 hu0 hc) dJ5_putStringAt_47b60_15 kc_J0_getBytes_840e7 kV_J5_399 rfl (m_srv hC hq) rfl rfl (Nat.le_of_ble_eq_true rfl) (by decide) (by decide) m_nox (fun v9 M2 h9 => ?_)
  obtain ⟨rfl, rfl⟩ := h9
  exact m_vret hC dJ5_putStringAt_47b60_18 hr (by decide) (by decide) (⟨rfl, rfl⟩)

set_option maxHeartbeats 4000000 in
set_option maxRecDepth 100000 in
theorem t_J5_appendS {D : va_G} {aC : Nat → ClassId} {s0 : State} {l : Launch} (hF : m_F D aC s0) (hl : l.stackTraces = false) {fo ks vs : Nat → Nat} {fA sA dO dT : Nat} (hJ : m_J s0 fo ks vs fA sA dO dT) {a v n : Nat} {tx : List Int} {M : m_M} (hT : sbT s0.heap.size a v n tx M) (hJS : m_JS s0) {q vq : Nat} {z : List Int} (hq : sQ s0 q vq z M) (hvq : vq ≠ v) (hlen : tx.length + z.length ≤ 240) : m_Met D aC s0 l yJ5_append_cf1ce cJ5_append_cf1ce 3 (some (.object "java/lang/AbstractStringBuilder")) 4 (1) (482) [.ref a, .ref q] M (fun r M' => r = some (.ref a) ∧ ∃ v2 n2 : Nat, sbT s0.heap.size a v2 n2 (tx ++ z) M' ∧ sbF a v M v2 M') m_nx := by
  refine m_entry (lv := [(0, .ref a), (1, .ref q)]) (by decide +kernel) (Nat.le_of_ble_eq_true rfl) rfl hF hl ?_
  intro p e s m args below meth c hC hr hno hnm
  change m_C D aC s0 RJ5 _ _ _ _ _ _ _ _ _ at hC
  obtain ⟨ml, f, hP, hf, hb, ⟨ha, hv, hne, ha0, hv0⟩, hn1, hn2, hn3⟩ := id hT
  refine m_aload_n hC 1 dJ5_append_cf1ce_0 rfl rfl ?_
  refine m_ifnn (tgt := 9) hC dJ5_append_cf1ce_1 (by decide) ?_
  refine m_aload_n hC 1 dJ5_append_cf1ce_9 rfl rfl ?_
  refine m_callVr hC (t_J0_length_s hF hl hJ hq) dJ5_append_cf1ce_10 kc_J0_length_8abf5 kV_J5_32 rfl (m_srv hC hq) rfl rfl (Nat.le_of_ble_eq_true rfl) ⟨Nat.le_of_ble_eq_true rfl, Nat.le_of_ble_eq_true rfl⟩ ⟨Nat.zero_le _, Nat.zero_le _⟩ m_nox (fun v9 M1 h9 => ?_)
  obtain ⟨rfl, h9⟩ := h9
  replace h9 := h9.symm
  subst h9
  refine m_istore_n hC dJ5_append_cf1ce_13 rfl (by decide) rfl ?_
  refine m_aload_n hC 1 dJ5_append_cf1ce_14 rfl rfl ?_
  refine m_aload_n hC 1 dJ5_append_cf1ce_15 rfl rfl ?_
  refine m_getf hC dJ5_append_cf1ce_16 kf_J5_79 hP.1 rfl ?_
  refine m_iload_n hC 0 dJ5_append_cf1ce_19 rfl rfl ?_
  refine m_iadd hC dJ5_append_cf1ce_20 ?_
  refine m_callU hC (t_J5_ensure_g hF hl hJ hP hb ha hv ha0 hv0 (by omega) (x := ((tx.length : Int) + (z.length : Int))) (by omega)) dJ5_append_cf1ce_21 kc_J5_ensureCapacityInternal_d00df (kU_J5_100 hJ) (m_obr (q := (RJ4, TJ4, 4)) hC hP.1 rfl) rfl rfl (Nat.le_of_ble_eq_true rfl) ⟨Nat.le_of_ble_eq_true rfl, Nat.le_of_ble_eq_true rfl⟩ ⟨by show _ ≤ 1; omega, by show _ ≤ 482; omega⟩ m_nox (fun v9 M2 h9 => ?_)
  obtain ⟨rfl, v2, n2, f2, hP2, hcp, hfe, hb2, hF2⟩ := h9
  obtain ⟨hF21, hF22, hF23, hF24⟩ := id hF2
  have hv2 : s0.heap.size ≤ v2 := by omega
  have hlt := hq.lt (by omega)
  have hna := hq.ne ha0 hP.1
  have hnv := hq.ne2 hv0 hP.2
  have hne2 : v2 ≠ a := by omega
  have hq2 := hq.keep (hF24 q hlt.1 hna.1 hnv) (hF24 vq hlt.2 hna.2 hvq) hF23
  have hzr := hq.rg.1
  refine m_aload_n hC 1 dJ5_append_cf1ce_24 rfl rfl ?_
  refine m_aload_n hC 1 dJ5_append_cf1ce_25 rfl rfl ?_
  refine m_getf hC dJ5_append_cf1ce_26 kf_J5_79 hP2.1 rfl ?_
  refine m_aload_n hC 2 dJ5_append_cf1ce_29 rfl rfl ?_
  refine m_callU hC (t_J5_putStr hF hl hJ hJS hP2 hq2 hv2 (c9 := (tx.length : Int)) (by omega)) dJ5_append_cf1ce_30 kc_J5_putStringAt_47b60 (kU_J5_208 hJS) (m_obr (q := (RJ4, TJ4, 4)) hC hP2.1 rfl) rfl rfl (Nat.le_of_ble_eq_true rfl) ⟨Nat.le_of_ble_eq_true rfl, Nat.le_of_ble_eq_true rfl⟩ ⟨by show _ ≤ 1; omega, by show _ ≤ 482; omega⟩ m_nox (fun v9 M3 h9 => ?_)
  obtain ⟨rfl, rfl⟩ := h9
  have hS3 := (m_up_ne (M := M2) (a := v2) (e := m_ia 2 n2 (fun i => if (tx.length : Int) ≤ i ∧ i < (tx.length : Int) + (z.length : Int) then z.getD (i - (tx.length : Int)).toNat 0 else f2 i)) (Ne.symm hne2)).trans hP2.1
  refine m_aload_n hC 1 dJ5_append_cf1ce_33 rfl rfl ?_
  refine m_dup hC dJ5_append_cf1ce_34 rfl ?_
  refine m_getf hC dJ5_append_cf1ce_35 kf_J5_79 hS3 rfl ?_
  refine m_iload_n hC 0 dJ5_append_cf1ce_38 rfl rfl ?_
  refine m_iadd hC dJ5_append_cf1ce_39 ?_
  refine m_gpf hC dJ5_append_cf1ce_40 kf_J5_79 kw_1_3 hS3 ha0 (Nat.le_of_ble_eq_true rfl) rfl rfl (fun M4 R5 f6 => ?_)
  change M4.2 _ = some (m_ob 1 [_, _, _, _]) at R5
  refine m_aload_n hC 1 dJ5_append_cf1ce_43 rfl rfl ?_
  have hll : ((tx ++ z).length : Int) = (tx.length : Int) + (z.length : Int) := by rw [List.length_append]; rfl
  have hV4 := (f6.2 v2 (by omega)).trans m_up_eq
  have hz4 := f6.1
  change _ = M2.1 at hz4
  refine m_aret hC dJ5_append_cf1ce_44 hr (Or.inl ⟨_, rfl⟩) (by show _ ≤ 1; omega) (by show _ ≤ 482; omega) ⟨rfl, v2, n2, ⟨ml, _, ⟨by rw [hll]; exact R5, hV4⟩, k_appd (f2 := fun i => if (tx.length : Int) ≤ i ∧ i < (tx.length : Int) + (z.length : Int) then z.getD (i - (tx.length : Int)).toNat 0 else f2 i) (D := z) hf (fun i hi => ?_) (fun j hj => ?_), ?_, ⟨by omega, by omega, by omega, ha0, hv2⟩, by omega, by omega, by omega⟩, hF2.tr ⟨Or.inl rfl, by omega, by omega, fun p9 h1 h2 h3 => (f6.2 p9 (by omega)).trans (m_up_ne h3)⟩⟩
  · show (if _ then _ else _) = _
    rw [if_neg (by omega)]
    exact hfe i (by omega)
  · show (if _ then _ else _) = _
    rw [if_pos (by omega)]
    congr 1
    omega
  · intro i
    by_cases hc9 : (tx.length : Int) ≤ i ∧ i < (tx.length : Int) + (z.length : Int)
    · dsimp only; rw [if_pos hc9]; exact hzr _
    · dsimp only; rw [if_neg hc9]; exact hb2 i

set_option maxHeartbeats 4000000 in
set_option maxRecDepth 100000 in
theorem t_J4_appendS {D : va_G} {aC : Nat → ClassId} {s0 : State} {l : Launch} (hF : m_F D aC s0) (hl : l.stackTraces = false) {fo ks vs : Nat → Nat} {fA sA dO dT : Nat} (hJ : m_J s0 fo ks vs fA sA dO dT) {a v n : Nat} {tx : List Int} {M : m_M} (hT : sbT s0.heap.size a v n tx M) (hJS : m_JS s0) {q vq : Nat} {z : List Int} (hq : sQ s0 q vq z M) (hvq : vq ≠ v) (hlen : tx.length + z.length ≤ 240) : m_Met D aC s0 l yJ4_append_15ec4 cJ4_append_15ec4 2 (some (.object "java/lang/StringBuilder")) 5 (1) (482) [.ref a, .ref q] M (fun r M' => r = some (.ref a) ∧ ∃ v2 n2 : Nat, sbT s0.heap.size a v2 n2 (tx ++ z) M' ∧ sbF a v M v2 M') m_nx := by
  refine m_entry (lv := [(0, .ref a), (1, .ref q)]) (by decide +kernel) (Nat.le_of_ble_eq_true rfl) rfl hF hl ?_
  intro p e s m args below meth c hC hr hno hnm
  change m_C D aC s0 RJ4 _ _ _ _ _ _ _ _ _ at hC
  obtain ⟨ml9, f9, ⟨hS9, -⟩, -⟩ := id hT
  refine m_aload_n hC 0 dJ4_append_15ec4_0 rfl rfl ?_
  refine m_aload_n hC 1 dJ4_append_15ec4_1 rfl rfl ?_
  refine m_callP hC (t_J5_appendS hF hl hJ hT hJS hq hvq hlen) dJ4_append_15ec4_2 kc_J5_append_cf1ce kP_J4_29 hS9 rfl rfl rfl (Nat.le_of_ble_eq_true rfl) ⟨Nat.le_of_ble_eq_true rfl, Nat.le_of_ble_eq_true rfl⟩ ⟨by show _ ≤ 1; omega, by show _ ≤ 482; omega⟩ m_nox (fun v9 M1 h9 => ?_)
  obtain ⟨rfl, hpost⟩ := h9
  refine m_pop hC dJ4_append_15ec4_5 rfl ?_
  refine m_aload_n hC 0 dJ4_append_15ec4_6 rfl rfl ?_
  exact m_aret hC dJ4_append_15ec4_7 hr (Or.inl ⟨_, rfl⟩) (by show _ ≤ 1; omega) (by show _ ≤ 482; omega) (⟨rfl, hpost⟩)

set_option maxHeartbeats 4000000 in
set_option maxRecDepth 100000 in
theorem t_J5_getValue {D : va_G} {aC : Nat → ClassId} {s0 : State} {l : Launch} (hF : m_F D aC s0) (hl : l.stackTraces = false) {a v n : Nat} {tx : List Int} {M : m_M} (hT : sbT s0.heap.size a v n tx M) : m_Met D aC s0 l yJ5_getValue_6d5f1 cJ5_getValue_6d5f1 1 (some (.array .byte)) 0 (0) (0) [.ref a] M (fun r M' => r = some (.ref v) ∧ M' = M) m_nx := by
  refine m_entry (lv := [(0, .ref a)]) (by decide +kernel) (Nat.le_of_ble_eq_true rfl) rfl hF hl ?_
  intro p e s m args below meth c hC hr hno hnm
  change m_C D aC s0 RJ5 _ _ _ _ _ _ _ _ _ at hC
  obtain ⟨ml9, f9, ⟨hS9, -⟩, -⟩ := id hT
  refine m_aload_n hC 0 dJ5_getValue_6d5f1_0 rfl rfl ?_
  refine m_getf hC dJ5_getValue_6d5f1_1 kf_J5_15 hS9 rfl ?_
  exact m_aret hC dJ5_getValue_6d5f1_4 hr (Or.inr ⟨_, rfl⟩) (Nat.le_of_ble_eq_true rfl) (Nat.le_of_ble_eq_true rfl) ⟨rfl, rfl⟩

set_option maxHeartbeats 4000000 in
set_option maxRecDepth 100000 in
theorem t_J7_checkLength {D : va_G} {aC : Nat → ClassId} {s0 : State} {l : Launch} (hF : m_F D aC s0) (hl : l.stackTraces = false) {i k : Int} {M : m_M} (h : 0 ≤ i ∧ i ≤ k ∧ k < 100000) : m_Met D aC s0 l yJ7_checkLength_df160 cJ7_checkLength_df160 2 none 0 (0) (0) [VI i, VI k] M (fun r M' => r = none ∧ M' = M) m_nx := by
  refine m_entry (lv := [(0, VI i), (1, VI k)]) (by decide +kernel) (Nat.le_of_ble_eq_true rfl) rfl hF hl ?_
  intro p e s m args below meth c hC hr hno hnm
  change m_C D aC s0 RJ7 _ _ _ _ _ _ _ _ _ at hC
  refine m_iload_n hC 1 dJ7_checkLength_df160_0 rfl rfl ?_
  refine m_iload_n hC 0 dJ7_checkLength_df160_1 rfl rfl ?_
  refine m_icmp_ge (tgt := 37) hC dJ7_checkLength_df160_2 (by decide) (by first | omega | (simp [hs_at] <;> omega)) (fun c1 => ?_) (fun c1 => ?_)
  · exact m_vret hC dJ7_checkLength_df160_37 hr (by decide) (by decide) (⟨rfl, rfl⟩)
  · omega

set_option maxHeartbeats 4000000 in
set_option maxRecDepth 100000 in
theorem t_J7_rangeB {D : va_G} {aC : Nat → ClassId} {s0 : State} {l : Launch} (hF : m_F D aC s0) (hl : l.stackTraces = false) {v n k : Nat} {f : Int → Int} {M : m_M} (hV : M.2 v = some (m_ia 2 n f)) (hvM : v < M.1) (hv0 : s0.heap.size ≤ v) (hf : hby f) (hn : k ≤ n ∧ n ≤ 482) : m_Met D aC s0 l yJ7_copyOfRangeByte_39247 cJ7_copyOfRangeByte_39247 5 (some (.array .byte)) 1 (1) (482) [.ref v, VI 0, VI (k : Int)] M (fun r M' => r = some (.ref M.1) ∧ ∃ f2 : Int → Int, M' = m_push M (m_ia 2 k f2) ∧ ∀ i : Int, 0 ≤ i ∧ i < (k : Int) → f2 i = f i) m_nx := by
  refine m_entry (lv := [(0, .ref v), (1, VI 0), (2, VI (k : Int))]) (by decide +kernel) (Nat.le_of_ble_eq_true rfl) rfl hF hl ?_
  intro p e s m args below meth c hC hr hno hnm
  change m_C D aC s0 RJ7 _ _ _ _ _ _ _ _ _ at hC
  refine m_iload_n hC 1 dJ7_copyOfRangeByte_39247_0 rfl rfl ?_
  refine m_iload_n hC 2 dJ7_copyOfRangeByte_39247_1 rfl rfl ?_
  refine m_callS hC (t_J7_checkLength hF hl (i := 0) (k := (k : Int)) (by omega)) dJ7_copyOfRangeByte_39247_2 kc_J7_checkLength_df160 kS_J7_343 rfl rfl (Nat.le_of_ble_eq_true rfl) ⟨Nat.le_of_ble_eq_true rfl, Nat.le_of_ble_eq_true rfl⟩ ⟨Nat.zero_le _, Nat.zero_le _⟩ m_nox (fun v9 M1 h9 => ?_)
  obtain ⟨rfl, h9⟩ := h9
  replace h9 := h9.symm
  subst h9
  refine m_iload_n hC 2 dJ7_copyOfRangeByte_39247_5 rfl rfl ?_
  refine m_iload_n hC 1 dJ7_copyOfRangeByte_39247_6 rfl rfl ?_
  refine m_isub hC dJ7_copyOfRangeByte_39247_7 ?_
  refine m_istore_n hC dJ7_copyOfRangeByte_39247_8 rfl (by decide) rfl ?_
  refine m_iload_n hC 0 dJ7_copyOfRangeByte_39247_9 rfl rfl ?_
  refine m_newa (k := 2) (n := k) hC dJ7_copyOfRangeByte_39247_10 (by decide) rfl rfl ka_byte (fun _ => Iff.rfl) (by omega) (by omega) (by decide) (by show _ ≤ 1; omega) (by show _ ≤ 482; omega) ?_
  have hV1 : (m_push M (m_ia 2 k (fun _ => 0))).2 v = some (m_ia 2 n f) := (m_push_ne (by omega)).trans hV
  refine m_astore hC dJ7_copyOfRangeByte_39247_12 (by decide) rfl ?_
  refine m_aload_n hC 2 dJ7_copyOfRangeByte_39247_14 rfl rfl ?_
  refine m_iload_n hC 3 dJ7_copyOfRangeByte_39247_15 rfl rfl ?_
  refine m_aload hC 0 dJ7_copyOfRangeByte_39247_16 rfl ?_
  refine m_iconst hC dJ7_copyOfRangeByte_39247_18 ?_
  refine m_aload_n hC 2 dJ7_copyOfRangeByte_39247_19 rfl rfl ?_
  refine m_alen hC dJ7_copyOfRangeByte_39247_20 hV1 (by decide) ?_
  refine m_iload_n hC 3 dJ7_copyOfRangeByte_39247_21 rfl rfl ?_
  refine m_isub hC dJ7_copyOfRangeByte_39247_22 ?_
  refine m_iload_n hC 1 dJ7_copyOfRangeByte_39247_23 rfl rfl ?_
  refine m_mmin hC dJ7_copyOfRangeByte_39247_24 kM_J7_304 (by first | omega | (simp [hs_at] <;> omega)) (Nat.le_of_ble_eq_true rfl) (Nat.le_of_ble_eq_true rfl) (by show _ ≤ 1; omega) (by show _ ≤ 482; omega) ?_
  rw [show min ((n : Int) - 0) ((k : Int) - 0) = (k : Int) by omega]
  refine m_acopy hC dJ7_copyOfRangeByte_39247_27 kM_acopy hV1 m_push_eq (Nat.le_trans hv0 (Nat.le_of_lt hvM)) (by omega) (fun i hi => (k_byte (hf i)).2) (Nat.le_of_ble_eq_true rfl) (Nat.le_of_ble_eq_true rfl) ?_
  rw [m_up_push]
  refine m_aload hC 0 dJ7_copyOfRangeByte_39247_30 rfl ?_
  exact m_aret hC dJ7_copyOfRangeByte_39247_32 hr (Or.inr ⟨_, rfl⟩) (by show _ ≤ 1; omega) (by show _ ≤ 482; omega) ⟨rfl, _, rfl, fun i hi => if_pos hi⟩

set_option maxHeartbeats 4000000 in
set_option maxRecDepth 100000 in
theorem t_J7_range {D : va_G} {aC : Nat → ClassId} {s0 : State} {l : Launch} (hF : m_F D aC s0) (hl : l.stackTraces = false) {fo ks vs : Nat → Nat} {fA sA dO dT : Nat} (hJ : m_J s0 fo ks vs fA sA dO dT) (hJS : m_JS s0) {v n k : Nat} {f : Int → Int} {M : m_M} (hV : M.2 v = some (m_ia 2 n f)) (hvM : v < M.1) (hv0 : s0.heap.size ≤ v) (hf : hby f) (hn : k ≤ n ∧ n ≤ 482) : m_Met D aC s0 l yJ7_copyOfRange_39247 cJ7_copyOfRange_39247 3 (some (.array .byte)) 2 (1) (482) [.ref v, VI 0, VI (k : Int)] M (fun r M' => r = some (.ref M.1) ∧ ∃ f2 : Int → Int, M' = m_push M (m_ia 2 k f2) ∧ ∀ i : Int, 0 ≤ i ∧ i < (k : Int) → f2 i = f i) m_nx := by
  refine m_entry (lv := [(0, .ref v), (1, VI 0), (2, VI (k : Int))]) (by decide +kernel) (Nat.le_of_ble_eq_true rfl) rfl hF hl ?_
  intro p e s m args below meth c hC hr hno hnm
  change m_C D aC s0 RJ7 _ _ _ _ _ _ _ _ _ at hC
  refine m_iload_n hC 1 dJ7_copyOfRange_39247_0 rfl rfl ?_
  refine m_if_ne (tgt := 10) hC dJ7_copyOfRange_39247_1 (by decide) (by first | omega | (simp [hs_at] <;> omega)) (fun c1 => by omega) (fun c1 => ?_)
  refine m_iload_n hC 2 dJ7_copyOfRange_39247_4 rfl rfl ?_
  refine m_aload_n hC 0 dJ7_copyOfRange_39247_5 rfl rfl ?_
  refine m_alen hC dJ7_copyOfRange_39247_6 hV (by decide) ?_
  refine m_icmp_eq (tgt := 17) hC dJ7_copyOfRange_39247_7 (by decide) (by first | omega | (simp [hs_at] <;> omega)) (fun c2 => ?_) (fun c2 => ?_)
  · refine m_aload_n hC 0 dJ7_copyOfRange_39247_17 rfl rfl ?_
    refine m_clone hC hJS dJ7_copyOfRange_39247_18 hV hf (Nat.le_of_ble_eq_true rfl) (Nat.le_of_ble_eq_true rfl) (by show _ ≤ 1; omega) (by show _ ≤ 482; omega) ?_
    refine m_castB hC dJ7_copyOfRange_39247_21 m_push_eq ?_
    have hkn : n = k := by omega
    exact m_aret hC dJ7_copyOfRange_39247_24 hr (Or.inr ⟨_, rfl⟩) (by show _ ≤ 1; omega) (by show _ ≤ 482; omega) ⟨rfl, f, by rw [hkn], fun _ _ => rfl⟩
  · refine m_aload_n hC 0 dJ7_copyOfRange_39247_10 rfl rfl ?_
    refine m_iload_n hC 1 dJ7_copyOfRange_39247_11 rfl rfl ?_
    refine m_iload_n hC 2 dJ7_copyOfRange_39247_12 rfl rfl ?_
    refine m_callS hC (t_J7_rangeB hF hl hV hvM hv0 hf hn) dJ7_copyOfRange_39247_13 kc_J7_copyOfRangeByte_39247 kS_J7_339 rfl rfl (Nat.le_of_ble_eq_true rfl) ⟨Nat.le_of_ble_eq_true rfl, Nat.le_of_ble_eq_true rfl⟩ ⟨by show _ ≤ 1; omega, by show _ ≤ 482; omega⟩ m_nox (fun v9 M8 h9 => ?_)
    obtain ⟨rfl, h9⟩ := h9
    exact m_aret hC dJ7_copyOfRange_39247_16 hr (Or.inr ⟨_, rfl⟩) (by show _ ≤ 1; omega) (by show _ ≤ 482; omega) ⟨rfl, h9⟩

set_option maxHeartbeats 4000000 in
set_option maxRecDepth 100000 in
theorem t_J0_init2 {D : va_G} {aC : Nat → ClassId} {s0 : State} {l : Launch} (hF : m_F D aC s0) (hl : l.stackTraces = false) {fo ks vs : Nat → Nat} {fA sA dO dT : Nat} (hJ : m_J s0 fo ks vs fA sA dO dT) (hJS : m_JS s0) {a v n : Nat} {tx : List Int} {M : m_M} (hT : sbT s0.heap.size a v n tx M) {q : Nat} (hM : M.2 q = some (m_ob 0 [.null, VI 0, VI 0, VI 0])) (hq0 : s0.heap.size ≤ q) (hqM : q < M.1) (hl2 : tx.length ≤ 240) : m_Met D aC s0 l yJ0_init_db425 cJ0_init_db425 5 none 3 (1) (482) [.ref q, .ref a, .null] M (fun r M' => r = none ∧ sN q M.1 tx M' ∧ M'.1 = M.1 + 1 ∧ ∀ p : Nat, p ≠ q → p ≠ M.1 → M'.2 p = M.2 p) m_nx := by
  refine m_entry (lv := [(0, .ref q), (1, .ref a), (2, .null)]) (by decide +kernel) (Nat.le_of_ble_eq_true rfl) rfl hF hl ?_
  intro p e s m args below meth c hC hr hno hnm
  change m_C D aC s0 RJ0 _ _ _ _ _ _ _ _ _ at hC
  obtain ⟨ml, f, hP, hf, hb, ⟨ha, hv, hne, ha0, hv0⟩, hn1, hn2, hn3⟩ := id hT
  have hvq : v ≠ q := fun e => by have h1 := hP.2; rw [e, hM] at h1; cases h1
  have htr : ∀ j : Nat, 0 ≤ tx.getD j 0 ∧ tx.getD j 0 < 128 := fun j => by
    by_cases hj : j < tx.length
    · rw [← hf j hj]; exact hb _
    · rw [List.getD_eq_getElem?_getD, List.getElem?_eq_none (by omega)]; exact ⟨Int.le_refl _, by decide⟩
  refine m_aload_n hC 0 dJ0_init_db425_0 rfl rfl ?_
  refine m_obji hC dJ0_init_db425_1 ko_J0_1 ko_inst ko_code (Nat.le_of_ble_eq_true rfl) (Nat.le_of_ble_eq_true rfl) ?_
  refine m_aload_n hC 1 dJ0_init_db425_4 rfl rfl ?_
  refine m_callU hC (t_J5_getValue hF hl hT) dJ0_init_db425_5 kc_J5_getValue_6d5f1 kU_J0_552 (m_obr (q := (RJ4, TJ4, 4)) hC hP.1 rfl) rfl rfl (Nat.le_of_ble_eq_true rfl) ⟨Nat.le_of_ble_eq_true rfl, Nat.le_of_ble_eq_true rfl⟩ ⟨Nat.zero_le _, Nat.zero_le _⟩ m_nox (fun v9 M1 h9 => ?_)
  obtain ⟨rfl, h9⟩ := h9
  replace h9 := h9.symm
  subst h9
  refine m_astore_n hC dJ0_init_db425_8 rfl (by decide) rfl ?_
  refine m_aload_n hC 2 dJ0_init_db425_9 rfl rfl ?_
  refine m_callO hC (t_J4_length_8abf5 hF hl hT) dJ0_init_db425_10 kc_J4_length_8abf5 kO_549 kO_same kO_in0 kO_sel kO_in1 kc_J5_length_8abf5.1 rfl ⟨by decide, by decide⟩ (m_obr (q := (RJ4, TJ4, 4)) hC hP.1 rfl) rfl rfl (Nat.le_of_ble_eq_true rfl) ⟨Nat.le_of_ble_eq_true rfl, Nat.le_of_ble_eq_true rfl⟩ ⟨Nat.zero_le _, Nat.zero_le _⟩ m_nox (fun v9 M1 h9 => ?_)
  obtain ⟨rfl, h9⟩ := h9
  replace h9 := h9.symm
  subst h9
  refine m_istore hC dJ0_init_db425_13 (by decide) rfl ?_
  refine m_aload_n hC 3 dJ0_init_db425_15 rfl rfl ?_
  refine m_callU hC (t_J5_isLatin1_aae02 hF hl hJ hP.1) dJ0_init_db425_16 kc_J5_isLatin1_aae02 kU_J0_1047 (m_obr (q := (RJ4, TJ4, 4)) hC hP.1 rfl) rfl rfl (Nat.le_of_ble_eq_true rfl) ⟨Nat.le_of_ble_eq_true rfl, Nat.le_of_ble_eq_true rfl⟩ ⟨Nat.zero_le _, Nat.zero_le _⟩ m_nox (fun v9 M1 h9 => ?_)
  obtain ⟨rfl, h9⟩ := h9
  replace h9 := h9.symm
  subst h9
  refine m_if_eq (tgt := 41) hC dJ0_init_db425_19 (by decide) (by first | omega | (simp [hs_at] <;> omega)) (fun c1 => by omega) (fun c1 => ?_)
  refine m_aload_n hC 2 dJ0_init_db425_22 rfl rfl ?_
  refine m_iconst hC dJ0_init_db425_23 ?_
  refine m_putF hC dJ0_init_db425_24 kf_J0_15 kw_0_1 hnm hM hq0 (by decide) (k_byte (by omega)).1 (k_byte (by omega)).2 ?_
  have hV1 := (m_up_ne (M := M) (a := q) (e := m_ob 0 ([Value.null, VI 0, VI 0, VI 0].set 1 (VI 0))) hvq).trans hP.2
  refine m_aload_n hC 2 dJ0_init_db425_27 rfl rfl ?_
  refine m_aload_n hC 1 dJ0_init_db425_28 rfl rfl ?_
  refine m_iconst hC dJ0_init_db425_29 ?_
  refine m_iload hC 0 dJ0_init_db425_30 rfl ?_
  refine m_callS hC (t_J7_range hF hl hJ hJS hV1 hv hv0 hb (k := tx.length) (by omega)) dJ0_init_db425_32 kc_J7_copyOfRange_39247 kS_J0_54 rfl rfl (Nat.le_of_ble_eq_true rfl) ⟨Nat.le_of_ble_eq_true rfl, Nat.le_of_ble_eq_true rfl⟩ ⟨by show _ ≤ 1; omega, by show _ ≤ 482; omega⟩ m_nox (fun v9 M8 h9 => ?_)
  obtain ⟨rfl, f2, rfl, hf2⟩ := h9
  have hM2 := (m_push_ne (M := m_up M q (m_ob 0 ([Value.null, VI 0, VI 0, VI 0].set 1 (VI 0)))) (e := m_ia 2 tx.length f2) (q := q) (Nat.ne_of_lt hqM)).trans m_up_eq
  refine m_putF hC dJ0_init_db425_35 kf_J0_9 kw_0_0 hnm hM2 hq0 (by decide) rfl rfl ?_
  refine m_goto (tgt := 97) hC dJ0_init_db425_38 (by decide) ?_
  refine m_vret hC dJ0_init_db425_97 hr (by show _ ≤ 1; omega) (by show _ ≤ 482; omega) ⟨rfl, ⟨f2, m_up_eq, (m_up_ne (by show M.1 ≠ q; omega)).trans m_push_eq, fun i hi => (hf2 i (by omega)).trans (hf i hi), htr, by omega, by show q < M.1 + 1; omega, by show M.1 < M.1 + 1; omega⟩, rfl, fun p9 h1 h2 => (m_up_ne h1).trans ((m_push_ne (M := m_up M q (m_ob 0 ([Value.null, VI 0, VI 0, VI 0].set 1 (VI 0)))) h2).trans (m_up_ne h1))⟩

set_option maxHeartbeats 4000000 in
set_option maxRecDepth 100000 in
theorem t_J0_init1 {D : va_G} {aC : Nat → ClassId} {s0 : State} {l : Launch} (hF : m_F D aC s0) (hl : l.stackTraces = false) {fo ks vs : Nat → Nat} {fA sA dO dT : Nat} (hJ : m_J s0 fo ks vs fA sA dO dT) (hJS : m_JS s0) {a v n : Nat} {tx : List Int} {M : m_M} (hT : sbT s0.heap.size a v n tx M) {q : Nat} (hM : M.2 q = some (m_ob 0 [.null, VI 0, VI 0, VI 0])) (hq0 : s0.heap.size ≤ q) (hqM : q < M.1) (hl2 : tx.length ≤ 240) : m_Met D aC s0 l yJ0_init_81219 cJ0_init_81219 2 none 4 (1) (482) [.ref q, .ref a] M (fun r M' => r = none ∧ sN q M.1 tx M' ∧ M'.1 = M.1 + 1 ∧ ∀ p : Nat, p ≠ q → p ≠ M.1 → M'.2 p = M.2 p) m_nx := by
  refine m_entry (lv := [(0, .ref q), (1, .ref a)]) (by decide +kernel) (Nat.le_of_ble_eq_true rfl) rfl hF hl ?_
  intro p e s m args below meth c hC hr hno hnm
  change m_C D aC s0 RJ0 _ _ _ _ _ _ _ _ _ at hC
  refine m_aload_n hC 0 dJ0_init_81219_0 rfl rfl ?_
  refine m_aload_n hC 1 dJ0_init_81219_1 rfl rfl ?_
  refine m_null hC dJ0_init_81219_2 ?_
  refine m_callI hC (t_J0_init2 hF hl hJ hJS hT hM hq0 hqM hl2) dJ0_init_81219_3 kc_J0_init_db425 kI_J0_489 rfl rfl (Nat.le_of_ble_eq_true rfl) ⟨Nat.le_of_ble_eq_true rfl, Nat.le_of_ble_eq_true rfl⟩ ⟨by show _ ≤ 1; omega, by show _ ≤ 482; omega⟩ m_nox (fun v9 M8 h9 => ?_)
  obtain ⟨rfl, h9⟩ := h9
  exact m_vret hC dJ0_init_81219_6 hr (by show _ ≤ 1; omega) (by show _ ≤ 482; omega) (⟨rfl, h9⟩)

set_option maxHeartbeats 4000000 in
set_option maxRecDepth 100000 in
theorem t_J4_toString {D : va_G} {aC : Nat → ClassId} {s0 : State} {l : Launch} (hF : m_F D aC s0) (hl : l.stackTraces = false) {fo ks vs : Nat → Nat} {fA sA dO dT : Nat} (hJ : m_J s0 fo ks vs fA sA dO dT) (hJS : m_JS s0) {a v n : Nat} {tx : List Int} {M : m_M} (hT : sbT s0.heap.size a v n tx M) (hl2 : tx.length ≤ 240) : m_Met D aC s0 l yJ4_toString_0e30d cJ4_toString_0e30d 1 (some (.object "java/lang/String")) 5 (2) (486) [.ref a] M (fun r M' => r = some (.ref M.1) ∧ sN M.1 (M.1 + 1) tx M' ∧ M'.1 = M.1 + 2 ∧ ∀ p : Nat, p < M.1 → M'.2 p = M.2 p) m_nx := by
  refine m_entry (lv := [(0, .ref a)]) (by decide +kernel) (Nat.le_of_ble_eq_true rfl) rfl hF hl ?_
  intro p e s m args below meth c hC hr hno hnm
  change m_C D aC s0 RJ4 _ _ _ _ _ _ _ _ _ at hC
  have hz0 : s0.heap.size ≤ M.1 := by obtain ⟨ml, f, hP, hf, hb, ⟨ha, hv, hne, ha0, hv0⟩, -⟩ := id hT; omega
  refine n_new (a := M.1) (ci := 0) (fs := [.null, VI 0, VI 0, VI 0]) hC dJ4_toString_0e30d_0 rfl tyJ0_ok inJ0 kk_J4_18 kn_J0 ki_J0 (fun j hj => match j, hj with | 0, _ => rfl | 1, _ => rfl | 2, _ => rfl | 3, _ => rfl | _ + 4, h => absurd h (by omega)) (Nat.le_of_ble_eq_true rfl) (Nat.le_of_ble_eq_true rfl) rfl (fun M1 zM1 hM1 fM1 => ?_)
  have av := hT.av
  have hT1 : sbT s0.heap.size a v n tx M1 := hT.kp (fM1 a (by omega)) (fM1 v (by omega)) (by omega)
  refine m_dup hC dJ4_toString_0e30d_3 rfl ?_
  refine m_aload_n hC 0 dJ4_toString_0e30d_4 rfl rfl ?_
  refine m_callI hC (t_J0_init1 hF hl hJ hJS hT1 hM1 (by omega) (by omega) hl2) dJ4_toString_0e30d_5 kc_J0_init_81219 kI_J4_137 rfl rfl (Nat.le_of_ble_eq_true rfl) ⟨Nat.le_of_ble_eq_true rfl, Nat.le_of_ble_eq_true rfl⟩ ⟨Nat.le_of_ble_eq_true rfl, Nat.le_of_ble_eq_true rfl⟩ m_nox (fun v9 M8 h9 => ?_)
  obtain ⟨rfl, h8, h7, h6⟩ := h9
  rw [zM1] at h8
  exact m_aret hC dJ4_toString_0e30d_8 hr (Or.inl ⟨_, rfl⟩) (Nat.le_of_ble_eq_true rfl) (Nat.le_of_ble_eq_true rfl) ⟨rfl, h8, by rw [h7, zM1], fun p9 h => (h6 p9 (by omega) (by omega)).trans (fM1 p9 (by omega))⟩

