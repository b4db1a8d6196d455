/-! the output text, with its own frame -/
section
variable {D : va_G} {aC : Nat → ClassId} {s0 : State} {cc : ByteArray} {nL : Nat} {p : Program} {l : Launch} {e : Env} {s : State} {m : MethodId} {args : Array Value} {below : List Frame} {meth : Method} {c : Code} {cells slots : Nat} {Q : State → Prop} {pc : Nat} {lv : List (Nat × Value)} {st : List Value} {M : m_M}
theorem m_apcs (C : m_C D aC s0 RX9 cc nL l p s m args meth c) {fo ks vs : Nat → Nat} {fA sA dO dT : Nat} (hJ : m_J s0 fo ks vs fA sA dO dT) {x w v n : Nat} {g sg : h_T} {L : Nat → h_T} {q : Int → Int} {tx ot : List Int} {z : Int} (hX : gX s0.heap.size fo x w g sg L q tx v M) (hT : sbT s0.heap.size (x + 235) v n ot M) (hd : decode cc pc = .ok (.invokevirtual 316, 3)) (hz : 0 ≤ z ∧ z < 128) (hlen : ot.length + 1 ≤ 240) (hW : (st.map fun v => v.category).sum ≤ 8)
    (kk : ∀ (v' n' : Nat) (M' : m_M), gX s0.heap.size fo x w g sg L q tx v' M' → sbT s0.heap.size (x + 235) v' n' (ot ++ [z]) M' → sbF (x + 235) v M v' M' → m_W D aC s0 nL p l e (m_R 12 470 940) s m args below meth c (n' - 15) (2 * n' - 26) Q (pc + 3) lv (.ref (x + 235) :: st) M') : m_W D aC s0 nL p l e (m_R 12 470 940) s m args below meth c (n - 15) (2 * n - 26) Q pc lv (VI z :: .ref (x + 235) :: st) M := by
  have hn := hT.av.2.2.2
  have hcl := k_cc_le (n := n) (x := (ot.length : Int) + 1)
  have hcap := k_cap_le (n := n) (x := (ot.length : Int) + 1) (by omega)
  have hcg := k_cap_ge (n := n) (x := (ot.length : Int) + 1) (by omega)
  refine m_callVr C (t_J4_append_cf468 C.2.2.2.2.2.2.2.1 C.2.2.2.2.2.2.2.2 hJ hT hz hlen) hd kc_J4_append_cf468 kV_X9_316 rfl (m_sbr C hT) rfl rfl hW (by decide) ⟨show n - 15 + k_cc n ((ot.length : Int) + 1) ≤ 470 by omega, show 2 * n - 26 + k_cs n ((ot.length : Int) + 1) ≤ 940 by omega⟩ m_nox (fun v9 M' h9 => ?_)
  obtain ⟨rfl, v2, hT2, hF⟩ := h9
  have h2 := hX.app hF
  exact m_wd (by omega) (by omega) (kk v2 _ M' h2.1 hT2 hF)
theorem m_apis (C : m_C D aC s0 RX9 cc nL l p s m args meth c) {fo ks vs : Nat → Nat} {fA sA dO dT : Nat} (hJ : m_J s0 fo ks vs fA sA dO dT) {x w v n : Nat} {g sg : h_T} {L : Nat → h_T} {q : Int → Int} {tx ot : List Int} {z : Int} (hX : gX s0.heap.size fo x w g sg L q tx v M) (hT : sbT s0.heap.size (x + 235) v n ot M) (hd : decode cc pc = .ok (.invokevirtual 312, 3)) (hz : 0 ≤ z ∧ z < 1000000000) (hlen : ot.length + (S_dig z.toNat).length ≤ 240) (hW : (st.map fun v => v.category).sum ≤ 8)
    (kk : ∀ (v' n' : Nat) (M' : m_M), gX s0.heap.size fo x w g sg L q tx v' M' → sbT s0.heap.size (x + 235) v' n' (ot ++ S_dig z.toNat) M' → sbF (x + 235) v M v' M' → m_W D aC s0 nL p l e (m_R 12 470 940) s m args below meth c (n' - 15) (2 * n' - 26) Q (pc + 3) lv (.ref (x + 235) :: st) M') : m_W D aC s0 nL p l e (m_R 12 470 940) s m args below meth c (n - 15) (2 * n - 26) Q pc lv (VI z :: .ref (x + 235) :: st) M := by
  obtain ⟨k, rfl⟩ := Int.eq_ofNat_of_zero_le hz.1
  have hk : ((k : Int)).toNat = k := rfl
  rw [hk] at hlen kk
  have hn := hT.av.2.2.2
  have hd10 := S_dig_le (z := k) (by omega)
  have hcl := k_cc_le (n := n) (x := (ot.length : Int) + ((S_dig k).length : Int))
  have hcap := k_cap_le (n := n) (x := (ot.length : Int) + ((S_dig k).length : Int)) (by omega)
  have hcg := k_cap_ge (n := n) (x := (ot.length : Int) + ((S_dig k).length : Int)) (by omega)
  refine m_callVr C (t_J4_append_bf812 C.2.2.2.2.2.2.2.1 C.2.2.2.2.2.2.2.2 hJ hT (by omega) hlen) hd kc_J4_append_bf812 kV_X9_312 rfl (m_sbr C hT) rfl rfl hW (by decide) ⟨show n - 15 + k_cc n ((ot.length : Int) + ((S_dig k).length : Int)) ≤ 470 by omega, show 2 * n - 26 + k_cs n ((ot.length : Int) + ((S_dig k).length : Int)) ≤ 940 by omega⟩ m_nox (fun v9 M' h9 => ?_)
  obtain ⟨rfl, v2, hT2, hF⟩ := h9
  have h2 := hX.app hF
  exact m_wd (by omega) (by omega) (kk v2 _ M' h2.1 hT2 hF)
theorem m_set0s (C : m_C D aC s0 RX9 cc nL l p s m args meth c) {fo ks vs : Nat → Nat} {fA sA dO dT : Nat} (hJ : m_J s0 fo ks vs fA sA dO dT) {x w v n : Nat} {g sg : h_T} {L : Nat → h_T} {q : Int → Int} {tx ot : List Int} (hX : gX s0.heap.size fo x w g sg L q tx v M) (hT : sbT s0.heap.size (x + 235) v n ot M) (hd : decode cc pc = .ok (.invokevirtual 309, 3)) (hc : cells ≤ n - 15) (hs : slots ≤ 2 * n - 26) (hW : (st.map fun v => v.category).sum ≤ 8)
    (kk : ∀ (v' : Nat) (M' : m_M), gX s0.heap.size fo x w g sg L q tx v' M' → sbT s0.heap.size (x + 235) v' n [] M' → sbF (x + 235) v M v' M' → m_W D aC s0 nL p l e (m_R 12 470 940) s m args below meth c (n - 15) (2 * n - 26) Q (pc + 3) lv st M') : m_W D aC s0 nL p l e (m_R 12 470 940) s m args below meth c cells slots Q pc lv (VI 0 :: .ref (x + 235) :: st) M := by
  have hn := hT.av.2.2.2
  refine m_callVr C (t_J4_setLength_d00df C.2.2.2.2.2.2.2.1 C.2.2.2.2.2.2.2.2 hJ hT) hd kc_J4_setLength_d00df kV_X9_309 rfl (m_sbr C hT) rfl rfl hW (by decide) ⟨show cells + 0 ≤ 470 by omega, show slots + 0 ≤ 940 by omega⟩ m_nox (fun v9 M' h9 => ?_)
  obtain ⟨rfl, v2, hT2, hF⟩ := h9
  have h2 := hX.app hF
  exact m_wd (by omega) (by omega) (kk v2 M' h2.1 hT2 hF)
end

set_option maxHeartbeats 4000000 in
set_option maxRecDepth 100000 in
theorem t_X9_renderGoblin_s {D : va_G} {aC : Nat → ClassId} {s0 : State} {l : Launch} (hF : m_F D aC s0) (hl : l.stackTraces = false) {x w : Nat} {g sg : h_T} {L : Nat → h_T} {q : Int → Int} {tx ot : List Int} {M : m_M} {K : Int} {fo ks vs : Nat → Nat} {fA sA dO dT : Nat} (hJ : m_J s0 fo ks vs fA sA dO dT) (hX : m_TH s0) {v0 n0 : Nat} (X0 : gX s0.heap.size fo x w g sg L q tx v0 M) (T0 : sbT s0.heap.size (x + 235) v0 n0 ot M) (hB : h_BK K g) (hK : K ≤ 80000000) (hc : 0 ≤ q 0 ∧ q 0 ≤ 8) {y : Int} (hy : -2147483648 ≤ y ∧ y < 2147483648) (hyg : 0 ≤ y ∧ y < g 0 9) : m_Met D aC s0 l yX9_renderGoblin cX9_renderGoblin 3 (some .int) 12 (470) (940) [.ref x, VI y] M (fun v M' => v = some (VI ((R_gob g y).length : Int)) ∧ ∃ v3 n3 : Nat, gX s0.heap.size fo x w g sg L q tx v3 M' ∧ sbT s0.heap.size (x + 235) v3 n3 (R_gob g y) M' ∧ sbF (x + 235) v0 M v3 M') m_nx := by
  refine m_entry (lv := [(0, .ref x), (1, VI y)]) (by decide +kernel) (Nat.le_of_ble_eq_true rfl) rfl hF hl ?_
  intro p e s m args below meth c hC hr hno hnm
  change m_C D aC s0 RX9 _ _ _ _ _ _ _ _ _ at hC
  obtain ⟨a1, hO, hR, -⟩ := id X0
  have hx := a1.2.2
  have hB0 := hB.toB (by omega)
  have n8 := hB.n8
  have n9 := hB.n9
  have n11 := hB.n11
  refine m_aload_n hC 0 dX9_renderGoblin_0 rfl rfl ?_
  refine m_iload_n hC 1 dX9_renderGoblin_1 rfl rfl ?_
  refine m_callV hC (t_X9_checkGoblin_y hF hl hX hO hR hB0 hy hyg) dX9_renderGoblin_2 kc_X9_checkGoblin kV_X9_177 hO rfl rfl rfl rfl (Nat.le_of_ble_eq_true rfl) (by decide) ⟨Nat.le_of_ble_eq_true rfl, Nat.le_of_ble_eq_true rfl⟩ m_nox (fun v9 M1 h9 => ?_)
  obtain ⟨rfl, h9⟩ := h9
  replace h9 := h9.symm
  subst h9
  have hgo := hB.go hyg
  have e1 := S_dig1 (z := y) (by omega)
  have e2 := S_dig1 (z := g 4 y) (by omega)
  have e3 := S_dig10 (z := g 5 y) (by omega)
  have e4 := S_dig10 (z := g 6 y) (by omega)
  refine m_aload_n hC 0 dX9_renderGoblin_5 rfl rfl ?_
  refine m_getf hC dX9_renderGoblin_6 kf_X9_12 hO rfl ?_
  refine m_getf hC dX9_renderGoblin_9 kf_X9_170 hR.ob rfl ?_
  refine m_astore_n hC dX9_renderGoblin_12 rfl (by decide) rfl ?_
  refine m_aload_n hC 1 dX9_renderGoblin_13 rfl rfl ?_
  refine m_getf hC dX9_renderGoblin_14 kf_X9_39 hO rfl ?_
  refine m_iconst hC dX9_renderGoblin_17 ?_
  have av0 := T0.av
  refine m_set0s hC hJ X0 T0 dX9_renderGoblin_18 (by omega) (by omega) (Nat.le_of_ble_eq_true rfl) (fun v1 M1 X1 T1 F1 => ?_)
  refine m_aload_n hC 1 dX9_renderGoblin_21 rfl rfl ?_
  refine m_getf hC dX9_renderGoblin_22 kf_X9_39 X1.2.1 rfl ?_
  refine m_iload_n hC 2 dX9_renderGoblin_25 rfl rfl ?_
  refine m_apis hC hJ X1 T1 dX9_renderGoblin_26 (by omega) (by (try simp only [List.length_append, List.length_cons, List.length_nil]); omega) (Nat.le_of_ble_eq_true rfl) (fun v2 n2 M2 X2 T2 F2 => ?_)
  refine m_pop hC dX9_renderGoblin_29 rfl ?_
  refine m_aload_n hC 1 dX9_renderGoblin_30 rfl rfl ?_
  refine m_getf hC dX9_renderGoblin_31 kf_X9_39 X2.2.1 rfl ?_
  refine m_bipush hC dX9_renderGoblin_34 (by decide) ?_
  refine m_apcs hC hJ X2 T2 dX9_renderGoblin_36 (by decide) (by (try simp only [List.length_append, List.length_cons, List.length_nil]); omega) (Nat.le_of_ble_eq_true rfl) (fun v3 n3 M3 X3 T3 F3 => ?_)
  refine m_aload_n hC 0 dX9_renderGoblin_39 rfl rfl ?_
  refine m_getf hC dX9_renderGoblin_40 kf_X9_180 X3.2.2.1.go rfl ?_
  refine m_iload_n hC 2 dX9_renderGoblin_43 rfl rfl ?_
  refine m_ld4 hC X3.2.2.1 dX9_renderGoblin_44 (by first | omega | (simp [hs_at] <;> omega)) (by first | omega | (simp [hs_at] <;> omega)) ?_
  refine m_apis hC hJ X3 T3 dX9_renderGoblin_45 (by omega) (by (try simp only [List.length_append, List.length_cons, List.length_nil]); omega) (Nat.le_of_ble_eq_true rfl) (fun v4 n4 M4 X4 T4 F4 => ?_)
  refine m_pop hC dX9_renderGoblin_48 rfl ?_
  refine m_aload_n hC 1 dX9_renderGoblin_49 rfl rfl ?_
  refine m_getf hC dX9_renderGoblin_50 kf_X9_39 X4.2.1 rfl ?_
  refine m_bipush hC dX9_renderGoblin_53 (by decide) ?_
  refine m_apcs hC hJ X4 T4 dX9_renderGoblin_55 (by decide) (by (try simp only [List.length_append, List.length_cons, List.length_nil]); omega) (Nat.le_of_ble_eq_true rfl) (fun v5 n5 M5 X5 T5 F5 => ?_)
  refine m_aload_n hC 0 dX9_renderGoblin_58 rfl rfl ?_
  refine m_getf hC dX9_renderGoblin_59 kf_X9_183 X5.2.2.1.go rfl ?_
  refine m_iload_n hC 2 dX9_renderGoblin_62 rfl rfl ?_
  refine m_ld5 hC X5.2.2.1 dX9_renderGoblin_63 (by first | omega | (simp [hs_at] <;> omega)) (by first | omega | (simp [hs_at] <;> omega)) ?_
  refine m_apis hC hJ X5 T5 dX9_renderGoblin_64 (by omega) (by (try simp only [List.length_append, List.length_cons, List.length_nil]); omega) (Nat.le_of_ble_eq_true rfl) (fun v6 n6 M6 X6 T6 F6 => ?_)
  refine m_pop hC dX9_renderGoblin_67 rfl ?_
  refine m_aload_n hC 0 dX9_renderGoblin_68 rfl rfl ?_
  refine m_getf hC dX9_renderGoblin_69 kf_X9_186 X6.2.2.1.go rfl ?_
  refine m_iload_n hC 2 dX9_renderGoblin_72 rfl rfl ?_
  refine m_ld6 hC X6.2.2.1 dX9_renderGoblin_73 (by first | omega | (simp [hs_at] <;> omega)) (by first | omega | (simp [hs_at] <;> omega)) ?_
  refine m_if_eq (tgt := 96) hC dX9_renderGoblin_74 (by decide) (by first | omega | (simp [hs_at] <;> omega)) (fun c6 => ?_) (fun c6 => ?_)
  · refine m_aload_n hC 0 dX9_renderGoblin_96 rfl rfl ?_
    refine m_getf hC dX9_renderGoblin_97 kf_X9_192 X6.2.2.1.go rfl ?_
    refine m_iload_n hC 2 dX9_renderGoblin_100 rfl rfl ?_
    refine m_ld8 hC X6.2.2.1 dX9_renderGoblin_101 (by first | omega | (simp [hs_at] <;> omega)) (by first | omega | (simp [hs_at] <;> omega)) ?_
    refine m_if_eq (tgt := 115) hC dX9_renderGoblin_102 (by decide) (by first | omega | (simp [hs_at] <;> omega)) (fun c8 => ?_) (fun c8 => ?_)
    · refine m_aload_n hC 1 dX9_renderGoblin_115 rfl rfl ?_
      refine m_getf hC dX9_renderGoblin_116 kf_X9_39 X6.2.1 rfl ?_
      have av9 := T6.av
      refine m_callVr hC (t_J4_length_8abf5 hF hl T6) dX9_renderGoblin_119 kc_J4_length_8abf5 kV_X9_319 rfl (m_sbr hC T6) rfl rfl (Nat.le_of_ble_eq_true rfl) (by decide) ⟨by show _ ≤ 470; omega, by show _ ≤ 940; omega⟩ m_nox (fun v9 M9 h9 => ?_)
      obtain ⟨rfl, h9⟩ := h9
      replace h9 := h9.symm
      subst h9
      exact m_iret hC dX9_renderGoblin_122 hr (by have := av9; omega) (by have := av9; omega) ((by rw [show R_gob g y = _ from by first | exact R_gob_00 c6 c8 | exact R_gob_01 c6 c8 | exact R_gob_10 c6 c8 | exact R_gob_11 c6 c8]; exact ⟨rfl, _, _, X6, T6, (((((F1.tr F2).tr F3).tr F4).tr F5).tr F6)⟩))
    · refine m_aload_n hC 1 dX9_renderGoblin_105 rfl rfl ?_
      refine m_getf hC dX9_renderGoblin_106 kf_X9_39 X6.2.1 rfl ?_
      refine m_bipush hC dX9_renderGoblin_109 (by decide) ?_
      refine m_apcs hC hJ X6 T6 dX9_renderGoblin_111 (by decide) (by (try simp only [List.length_append, List.length_cons, List.length_nil]); omega) (Nat.le_of_ble_eq_true rfl) (fun v7 n7 M7 X7 T7 F7 => ?_)
      refine m_pop hC dX9_renderGoblin_114 rfl ?_
      refine m_aload_n hC 1 dX9_renderGoblin_115 rfl rfl ?_
      refine m_getf hC dX9_renderGoblin_116 kf_X9_39 X7.2.1 rfl ?_
      have av9 := T7.av
      refine m_callVr hC (t_J4_length_8abf5 hF hl T7) dX9_renderGoblin_119 kc_J4_length_8abf5 kV_X9_319 rfl (m_sbr hC T7) rfl rfl (Nat.le_of_ble_eq_true rfl) (by decide) ⟨by show _ ≤ 470; omega, by show _ ≤ 940; omega⟩ m_nox (fun v9 M9 h9 => ?_)
      obtain ⟨rfl, h9⟩ := h9
      replace h9 := h9.symm
      subst h9
      exact m_iret hC dX9_renderGoblin_122 hr (by have := av9; omega) (by have := av9; omega) ((by rw [show R_gob g y = _ from by first | exact R_gob_00 c6 c8 | exact R_gob_01 c6 c8 | exact R_gob_10 c6 c8 | exact R_gob_11 c6 c8]; exact ⟨rfl, _, _, X7, T7, ((((((F1.tr F2).tr F3).tr F4).tr F5).tr F6).tr F7)⟩))
  · refine m_aload_n hC 1 dX9_renderGoblin_77 rfl rfl ?_
    refine m_getf hC dX9_renderGoblin_78 kf_X9_39 X6.2.1 rfl ?_
    refine m_bipush hC dX9_renderGoblin_81 (by decide) ?_
    refine m_apcs hC hJ X6 T6 dX9_renderGoblin_83 (by decide) (by (try simp only [List.length_append, List.length_cons, List.length_nil]); omega) (Nat.le_of_ble_eq_true rfl) (fun v8 n8 M8 X8 T8 F8 => ?_)
    refine m_aload_n hC 0 dX9_renderGoblin_86 rfl rfl ?_
    refine m_getf hC dX9_renderGoblin_87 kf_X9_186 X8.2.2.1.go rfl ?_
    refine m_iload_n hC 2 dX9_renderGoblin_90 rfl rfl ?_
    refine m_ld6 hC X8.2.2.1 dX9_renderGoblin_91 (by first | omega | (simp [hs_at] <;> omega)) (by first | omega | (simp [hs_at] <;> omega)) ?_
    refine m_apis hC hJ X8 T8 dX9_renderGoblin_92 (by omega) (by (try simp only [List.length_append, List.length_cons, List.length_nil]); omega) (Nat.le_of_ble_eq_true rfl) (fun v9 n9 M9 X9 T9 F9 => ?_)
    refine m_pop hC dX9_renderGoblin_95 rfl ?_
    refine m_aload_n hC 0 dX9_renderGoblin_96 rfl rfl ?_
    refine m_getf hC dX9_renderGoblin_97 kf_X9_192 X9.2.2.1.go rfl ?_
    refine m_iload_n hC 2 dX9_renderGoblin_100 rfl rfl ?_
    refine m_ld8 hC X9.2.2.1 dX9_renderGoblin_101 (by first | omega | (simp [hs_at] <;> omega)) (by first | omega | (simp [hs_at] <;> omega)) ?_
    refine m_if_eq (tgt := 115) hC dX9_renderGoblin_102 (by decide) (by first | omega | (simp [hs_at] <;> omega)) (fun c8 => ?_) (fun c8 => ?_)
    · refine m_aload_n hC 1 dX9_renderGoblin_115 rfl rfl ?_
      refine m_getf hC dX9_renderGoblin_116 kf_X9_39 X9.2.1 rfl ?_
      have av9 := T9.av
      refine m_callVr hC (t_J4_length_8abf5 hF hl T9) dX9_renderGoblin_119 kc_J4_length_8abf5 kV_X9_319 rfl (m_sbr hC T9) rfl rfl (Nat.le_of_ble_eq_true rfl) (by decide) ⟨by show _ ≤ 470; omega, by show _ ≤ 940; omega⟩ m_nox (fun v9 M9 h9 => ?_)
      obtain ⟨rfl, h9⟩ := h9
      replace h9 := h9.symm
      subst h9
      exact m_iret hC dX9_renderGoblin_122 hr (by have := av9; omega) (by have := av9; omega) ((by rw [show R_gob g y = _ from by first | exact R_gob_00 c6 c8 | exact R_gob_01 c6 c8 | exact R_gob_10 c6 c8 | exact R_gob_11 c6 c8]; exact ⟨rfl, _, _, X9, T9, (((((((F1.tr F2).tr F3).tr F4).tr F5).tr F6).tr F8).tr F9)⟩))
    · refine m_aload_n hC 1 dX9_renderGoblin_105 rfl rfl ?_
      refine m_getf hC dX9_renderGoblin_106 kf_X9_39 X9.2.1 rfl ?_
      refine m_bipush hC dX9_renderGoblin_109 (by decide) ?_
      refine m_apcs hC hJ X9 T9 dX9_renderGoblin_111 (by decide) (by (try simp only [List.length_append, List.length_cons, List.length_nil]); omega) (Nat.le_of_ble_eq_true rfl) (fun v10 n10 M10 X10 T10 F10 => ?_)
      refine m_pop hC dX9_renderGoblin_114 rfl ?_
      refine m_aload_n hC 1 dX9_renderGoblin_115 rfl rfl ?_
      refine m_getf hC dX9_renderGoblin_116 kf_X9_39 X10.2.1 rfl ?_
      have av9 := T10.av
      refine m_callVr hC (t_J4_length_8abf5 hF hl T10) dX9_renderGoblin_119 kc_J4_length_8abf5 kV_X9_319 rfl (m_sbr hC T10) rfl rfl (Nat.le_of_ble_eq_true rfl) (by decide) ⟨by show _ ≤ 470; omega, by show _ ≤ 940; omega⟩ m_nox (fun v9 M9 h9 => ?_)
      obtain ⟨rfl, h9⟩ := h9
      replace h9 := h9.symm
      subst h9
      exact m_iret hC dX9_renderGoblin_122 hr (by have := av9; omega) (by have := av9; omega) ((by rw [show R_gob g y = _ from by first | exact R_gob_00 c6 c8 | exact R_gob_01 c6 c8 | exact R_gob_10 c6 c8 | exact R_gob_11 c6 c8]; exact ⟨rfl, _, _, X10, T10, ((((((((F1.tr F2).tr F3).tr F4).tr F5).tr F6).tr F8).tr F9).tr F10)⟩))

set_option maxHeartbeats 4000000 in
set_option maxRecDepth 100000 in
theorem t_X9_renderContracts_s {D : va_G} {aC : Nat → ClassId} {s0 : State} {l : Launch} (hF : m_F D aC s0) (hl : l.stackTraces = false) {x w : Nat} {g sg : h_T} {L : Nat → h_T} {q : Int → Int} {tx ot : List Int} {M : m_M} {K : Int} {fo ks vs : Nat → Nat} {fA sA dO dT : Nat} (hJ : m_J s0 fo ks vs fA sA dO dT) (hX : m_TH s0) {v0 n0 : Nat} (X0 : gX s0.heap.size fo x w g sg L q tx v0 M) (T0 : sbT s0.heap.size (x + 235) v0 n0 ot M) (hB : h_BK K g) (hK : K ≤ 80000000) (hc : 0 ≤ q 0 ∧ q 0 ≤ 8)   : m_Met D aC s0 l yX9_renderContracts cX9_renderContracts 3 (some .int) 12 (470) (940) [.ref x] M (fun v M' => v = some (VI ((R_con g (g 0 11).toNat).length : Int)) ∧ ∃ v3 n3 : Nat, gX s0.heap.size fo x w g sg L q tx v3 M' ∧ sbT s0.heap.size (x + 235) v3 n3 (R_con g (g 0 11).toNat) M' ∧ sbF (x + 235) v0 M v3 M') m_nx := by
  refine m_entry (lv := [(0, .ref x)]) (by decide +kernel) (Nat.le_of_ble_eq_true rfl) rfl hF hl ?_
  intro p e s m args below meth c hC hr hno hnm
  change m_C D aC s0 RX9 _ _ _ _ _ _ _ _ _ at hC
  obtain ⟨a1, hO, hR, -⟩ := id X0
  have hx := a1.2.2
  have hB0 := hB.toB (by omega)
  have n8 := hB.n8
  have n9 := hB.n9
  have n11 := hB.n11
  refine m_aload_n hC 0 dX9_renderContracts_0 rfl rfl ?_
  refine m_getf hC dX9_renderContracts_1 kf_X9_12 hO rfl ?_
  refine m_getf hC dX9_renderContracts_4 kf_X9_201 hR.ob rfl ?_
  refine m_astore_n hC dX9_renderContracts_7 rfl (by decide) rfl ?_
  refine m_aload_n hC 1 dX9_renderContracts_8 rfl rfl ?_
  refine m_getf hC dX9_renderContracts_9 kf_X9_39 hO rfl ?_
  refine m_iconst hC dX9_renderContracts_12 ?_
  have av0 := T0.av
  refine m_set0s hC hJ X0 T0 dX9_renderContracts_13 (by omega) (by omega) (Nat.le_of_ble_eq_true rfl) (fun v1 M1 X1 T1 F1 => ?_)
  refine m_iconst hC dX9_renderContracts_16 ?_
  refine m_istore_n hC dX9_renderContracts_17 rfl (by decide) rfl ?_
  have LL : ∀ (n9 : Nat) (i : Int) (v n1 : Nat) (M1 : m_M), g 0 11 - i < (n9 : Int) → 0 ≤ i → i ≤ g 0 11 → gX s0.heap.size fo x w g sg L q tx v M1 → sbT s0.heap.size (x + 235) v n1 (R_con g i.toNat) M1 → sbF (x + 235) v0 M v M1 → m_W D aC s0 3 p l e (m_R 12 (470) (940)) s m args below meth c (n1 - 15) (2 * n1 - 26) (m_Q D aC s0 below (fun v M' => v = some (VI ((R_con g (g 0 11).toNat).length : Int)) ∧ ∃ v3 n3 : Nat, gX s0.heap.size fo x w g sg L q tx v3 M' ∧ sbT s0.heap.size (x + 235) v3 n3 (R_con g (g 0 11).toNat) M' ∧ sbF (x + 235) v0 M v3 M') m_nx args s (470) (940)) 18 [(2, VI i), (1, .ref (x + 1 + 11)), (0, .ref x)] [] M1 := by
    intro n9
    induction n9 with
    | zero =>
      intro i v n1 M1 hn h0 h1 XX TT FF
      omega
    | succ n9 ih =>
      intro i v n1 M1 hn h0 h1 XX TT FF
      have hl9 := R_con_len hB0 i.toNat (by omega)
      refine m_iload_n hC 0 dX9_renderContracts_18 rfl rfl ?_
      refine m_aload_n hC 1 dX9_renderContracts_19 rfl rfl ?_
      refine m_getf hC dX9_renderContracts_20 kf_X9_217 XX.2.2.1.co rfl ?_
      refine m_icmp_ge (tgt := 136) hC dX9_renderContracts_23 (by decide) (by first | omega | (simp [hs_at] <;> omega)) (fun c1 => ?_) (fun c1 => ?_)
      · refine m_aload_n hC 2 dX9_renderContracts_136 rfl rfl ?_
        refine m_getf hC dX9_renderContracts_137 kf_X9_39 XX.2.1 rfl ?_
        have av9 := TT.av
        refine m_callVr hC (t_J4_length_8abf5 hF hl TT) dX9_renderContracts_140 kc_J4_length_8abf5 kV_X9_319 rfl (m_sbr hC TT) rfl rfl (Nat.le_of_ble_eq_true rfl) (by decide) ⟨by show _ ≤ 470; omega, by show _ ≤ 940; omega⟩ m_nox (fun v9 M9 h9 => ?_)
        obtain ⟨rfl, h9⟩ := h9
        replace h9 := h9.symm
        subst h9
        exact m_iret hC dX9_renderContracts_143 hr (by have := av9; omega) (by have := av9; omega) ((by have ei : i = g 0 11 := (by omega); rw [ei] at TT; rw [ei]; exact ⟨rfl, _, _, XX, TT, FF⟩))
      · have hco := hB0.co (i := i) (by omega)
        have e1 := S_dig10 (z := g 9 i) (by omega)
        have e2 := S_dig1 (z := g 10 i) (by omega)
        have e3 := S_dig1 (z := g 11 i) (by omega)
        have e4 := S_dig2 (z := g 12 i) (by omega)
        have e5 := S_dig2 (z := g 13 i) (by omega)
        refine m_iload_n hC 0 dX9_renderContracts_26 rfl rfl ?_
        refine m_if_le (tgt := 40) hC dX9_renderContracts_27 (by decide) (by first | omega | (simp [hs_at] <;> omega)) (fun c2 => ?_) (fun c2 => ?_)
        · refine m_aload_n hC 2 dX9_renderContracts_40 rfl rfl ?_
          refine m_getf hC dX9_renderContracts_41 kf_X9_39 XX.2.1 rfl ?_
          refine m_aload_n hC 1 dX9_renderContracts_44 rfl rfl ?_
          refine m_getf hC dX9_renderContracts_45 kf_X9_220 XX.2.2.1.co rfl ?_
          refine m_iload_n hC 0 dX9_renderContracts_48 rfl rfl ?_
          refine m_ld9 hC XX.2.2.1 dX9_renderContracts_49 (by first | omega | (simp [hs_at] <;> omega)) (by first | omega | (simp [hs_at] <;> omega)) ?_
          refine m_apis hC hJ XX TT dX9_renderContracts_50 (by omega) (by (try simp only [List.length_append, List.length_cons, List.length_nil]); omega) (Nat.le_of_ble_eq_true rfl) (fun v2 n2 M2 X2 T2 F2 => ?_)
          refine m_pop hC dX9_renderContracts_53 rfl ?_
          refine m_aload_n hC 2 dX9_renderContracts_54 rfl rfl ?_
          refine m_getf hC dX9_renderContracts_55 kf_X9_39 X2.2.1 rfl ?_
          refine m_bipush hC dX9_renderContracts_58 (by decide) ?_
          refine m_apcs hC hJ X2 T2 dX9_renderContracts_60 (by decide) (by (try simp only [List.length_append, List.length_cons, List.length_nil]); omega) (Nat.le_of_ble_eq_true rfl) (fun v3 n3 M3 X3 T3 F3 => ?_)
          refine m_aload_n hC 1 dX9_renderContracts_63 rfl rfl ?_
          refine m_getf hC dX9_renderContracts_64 kf_X9_223 X3.2.2.1.co rfl ?_
          refine m_iload_n hC 0 dX9_renderContracts_67 rfl rfl ?_
          refine m_ld10 hC X3.2.2.1 dX9_renderContracts_68 (by first | omega | (simp [hs_at] <;> omega)) (by first | omega | (simp [hs_at] <;> omega)) ?_
          refine m_apis hC hJ X3 T3 dX9_renderContracts_69 (by omega) (by (try simp only [List.length_append, List.length_cons, List.length_nil]); omega) (Nat.le_of_ble_eq_true rfl) (fun v4 n4 M4 X4 T4 F4 => ?_)
          refine m_pop hC dX9_renderContracts_72 rfl ?_
          refine m_aload_n hC 2 dX9_renderContracts_73 rfl rfl ?_
          refine m_getf hC dX9_renderContracts_74 kf_X9_39 X4.2.1 rfl ?_
          refine m_bipush hC dX9_renderContracts_77 (by decide) ?_
          refine m_apcs hC hJ X4 T4 dX9_renderContracts_79 (by decide) (by (try simp only [List.length_append, List.length_cons, List.length_nil]); omega) (Nat.le_of_ble_eq_true rfl) (fun v5 n5 M5 X5 T5 F5 => ?_)
          refine m_aload_n hC 1 dX9_renderContracts_82 rfl rfl ?_
          refine m_getf hC dX9_renderContracts_83 kf_X9_228 X5.2.2.1.co rfl ?_
          refine m_iload_n hC 0 dX9_renderContracts_86 rfl rfl ?_
          refine m_ld11 hC X5.2.2.1 dX9_renderContracts_87 (by first | omega | (simp [hs_at] <;> omega)) (by first | omega | (simp [hs_at] <;> omega)) ?_
          refine m_apis hC hJ X5 T5 dX9_renderContracts_88 (by omega) (by (try simp only [List.length_append, List.length_cons, List.length_nil]); omega) (Nat.le_of_ble_eq_true rfl) (fun v6 n6 M6 X6 T6 F6 => ?_)
          refine m_pop hC dX9_renderContracts_91 rfl ?_
          refine m_aload_n hC 2 dX9_renderContracts_92 rfl rfl ?_
          refine m_getf hC dX9_renderContracts_93 kf_X9_39 X6.2.1 rfl ?_
          refine m_bipush hC dX9_renderContracts_96 (by decide) ?_
          refine m_apcs hC hJ X6 T6 dX9_renderContracts_98 (by decide) (by (try simp only [List.length_append, List.length_cons, List.length_nil]); omega) (Nat.le_of_ble_eq_true rfl) (fun v7 n7 M7 X7 T7 F7 => ?_)
          refine m_aload_n hC 1 dX9_renderContracts_101 rfl rfl ?_
          refine m_getf hC dX9_renderContracts_102 kf_X9_231 X7.2.2.1.co rfl ?_
          refine m_iload_n hC 0 dX9_renderContracts_105 rfl rfl ?_
          refine m_ld12 hC X7.2.2.1 dX9_renderContracts_106 (by first | omega | (simp [hs_at] <;> omega)) (by first | omega | (simp [hs_at] <;> omega)) ?_
          refine m_apis hC hJ X7 T7 dX9_renderContracts_107 (by omega) (by (try simp only [List.length_append, List.length_cons, List.length_nil]); omega) (Nat.le_of_ble_eq_true rfl) (fun v8 n8 M8 X8 T8 F8 => ?_)
          refine m_pop hC dX9_renderContracts_110 rfl ?_
          refine m_aload_n hC 2 dX9_renderContracts_111 rfl rfl ?_
          refine m_getf hC dX9_renderContracts_112 kf_X9_39 X8.2.1 rfl ?_
          refine m_bipush hC dX9_renderContracts_115 (by decide) ?_
          refine m_apcs hC hJ X8 T8 dX9_renderContracts_117 (by decide) (by (try simp only [List.length_append, List.length_cons, List.length_nil]); omega) (Nat.le_of_ble_eq_true rfl) (fun v9 n9 M9 X9 T9 F9 => ?_)
          refine m_aload_n hC 1 dX9_renderContracts_120 rfl rfl ?_
          refine m_getf hC dX9_renderContracts_121 kf_X9_234 X9.2.2.1.co rfl ?_
          refine m_iload_n hC 0 dX9_renderContracts_124 rfl rfl ?_
          refine m_ld13 hC X9.2.2.1 dX9_renderContracts_125 (by first | omega | (simp [hs_at] <;> omega)) (by first | omega | (simp [hs_at] <;> omega)) ?_
          refine m_apis hC hJ X9 T9 dX9_renderContracts_126 (by omega) (by (try simp only [List.length_append, List.length_cons, List.length_nil]); omega) (Nat.le_of_ble_eq_true rfl) (fun v10 n10 M10 X10 T10 F10 => ?_)
          refine m_pop hC dX9_renderContracts_129 rfl ?_
          refine m_iinc hC 0 dX9_renderContracts_130 rfl (by decide) rfl ?_
          refine m_goto (tgt := 18) hC dX9_renderContracts_133 (by decide) ?_
          refine m_lvs [0, 1, 2] rfl (ih (i + 1) _ _ M10 (by omega) (by omega) (by omega) X10 (by rw [R_con_s h0]; first | (rw [if_pos (by omega)]; exact T10) | (rw [if_neg (by omega)]; exact T10)) (((((((((FF.tr F2).tr F3).tr F4).tr F5).tr F6).tr F7).tr F8).tr F9).tr F10))
        · refine m_aload_n hC 2 dX9_renderContracts_30 rfl rfl ?_
          refine m_getf hC dX9_renderContracts_31 kf_X9_39 XX.2.1 rfl ?_
          refine m_bipush hC dX9_renderContracts_34 (by decide) ?_
          refine m_apcs hC hJ XX TT dX9_renderContracts_36 (by decide) (by (try simp only [List.length_append, List.length_cons, List.length_nil]); omega) (Nat.le_of_ble_eq_true rfl) (fun v11 n11 M11 X11 T11 F11 => ?_)
          refine m_pop hC dX9_renderContracts_39 rfl ?_
          refine m_aload_n hC 2 dX9_renderContracts_40 rfl rfl ?_
          refine m_getf hC dX9_renderContracts_41 kf_X9_39 X11.2.1 rfl ?_
          refine m_aload_n hC 1 dX9_renderContracts_44 rfl rfl ?_
          refine m_getf hC dX9_renderContracts_45 kf_X9_220 X11.2.2.1.co rfl ?_
          refine m_iload_n hC 0 dX9_renderContracts_48 rfl rfl ?_
          refine m_ld9 hC X11.2.2.1 dX9_renderContracts_49 (by first | omega | (simp [hs_at] <;> omega)) (by first | omega | (simp [hs_at] <;> omega)) ?_
          refine m_apis hC hJ X11 T11 dX9_renderContracts_50 (by omega) (by (try simp only [List.length_append, List.length_cons, List.length_nil]); omega) (Nat.le_of_ble_eq_true rfl) (fun v12 n12 M12 X12 T12 F12 => ?_)
          refine m_pop hC dX9_renderContracts_53 rfl ?_
          refine m_aload_n hC 2 dX9_renderContracts_54 rfl rfl ?_
          refine m_getf hC dX9_renderContracts_55 kf_X9_39 X12.2.1 rfl ?_
          refine m_bipush hC dX9_renderContracts_58 (by decide) ?_
          refine m_apcs hC hJ X12 T12 dX9_renderContracts_60 (by decide) (by (try simp only [List.length_append, List.length_cons, List.length_nil]); omega) (Nat.le_of_ble_eq_true rfl) (fun v13 n13 M13 X13 T13 F13 => ?_)
          refine m_aload_n hC 1 dX9_renderContracts_63 rfl rfl ?_
          refine m_getf hC dX9_renderContracts_64 kf_X9_223 X13.2.2.1.co rfl ?_
          refine m_iload_n hC 0 dX9_renderContracts_67 rfl rfl ?_
          refine m_ld10 hC X13.2.2.1 dX9_renderContracts_68 (by first | omega | (simp [hs_at] <;> omega)) (by first | omega | (simp [hs_at] <;> omega)) ?_
          refine m_apis hC hJ X13 T13 dX9_renderContracts_69 (by omega) (by (try simp only [List.length_append, List.length_cons, List.length_nil]); omega) (Nat.le_of_ble_eq_true rfl) (fun v14 n14 M14 X14 T14 F14 => ?_)
          refine m_pop hC dX9_renderContracts_72 rfl ?_
          refine m_aload_n hC 2 dX9_renderContracts_73 rfl rfl ?_
          refine m_getf hC dX9_renderContracts_74 kf_X9_39 X14.2.1 rfl ?_
          refine m_bipush hC dX9_renderContracts_77 (by decide) ?_
          refine m_apcs hC hJ X14 T14 dX9_renderContracts_79 (by decide) (by (try simp only [List.length_append, List.length_cons, List.length_nil]); omega) (Nat.le_of_ble_eq_true rfl) (fun v15 n15 M15 X15 T15 F15 => ?_)
          refine m_aload_n hC 1 dX9_renderContracts_82 rfl rfl ?_
          refine m_getf hC dX9_renderContracts_83 kf_X9_228 X15.2.2.1.co rfl ?_
          refine m_iload_n hC 0 dX9_renderContracts_86 rfl rfl ?_
          refine m_ld11 hC X15.2.2.1 dX9_renderContracts_87 (by first | omega | (simp [hs_at] <;> omega)) (by first | omega | (simp [hs_at] <;> omega)) ?_
          refine m_apis hC hJ X15 T15 dX9_renderContracts_88 (by omega) (by (try simp only [List.length_append, List.length_cons, List.length_nil]); omega) (Nat.le_of_ble_eq_true rfl) (fun v16 n16 M16 X16 T16 F16 => ?_)
          refine m_pop hC dX9_renderContracts_91 rfl ?_
          refine m_aload_n hC 2 dX9_renderContracts_92 rfl rfl ?_
          refine m_getf hC dX9_renderContracts_93 kf_X9_39 X16.2.1 rfl ?_
          refine m_bipush hC dX9_renderContracts_96 (by decide) ?_
          refine m_apcs hC hJ X16 T16 dX9_renderContracts_98 (by decide) (by (try simp only [List.length_append, List.length_cons, List.length_nil]); omega) (Nat.le_of_ble_eq_true rfl) (fun v17 n17 M17 X17 T17 F17 => ?_)
          refine m_aload_n hC 1 dX9_renderContracts_101 rfl rfl ?_
          refine m_getf hC dX9_renderContracts_102 kf_X9_231 X17.2.2.1.co rfl ?_
          refine m_iload_n hC 0 dX9_renderContracts_105 rfl rfl ?_
          refine m_ld12 hC X17.2.2.1 dX9_renderContracts_106 (by first | omega | (simp [hs_at] <;> omega)) (by first | omega | (simp [hs_at] <;> omega)) ?_
          refine m_apis hC hJ X17 T17 dX9_renderContracts_107 (by omega) (by (try simp only [List.length_append, List.length_cons, List.length_nil]); omega) (Nat.le_of_ble_eq_true rfl) (fun v18 n18 M18 X18 T18 F18 => ?_)
          refine m_pop hC dX9_renderContracts_110 rfl ?_
          refine m_aload_n hC 2 dX9_renderContracts_111 rfl rfl ?_
          refine m_getf hC dX9_renderContracts_112 kf_X9_39 X18.2.1 rfl ?_
          refine m_bipush hC dX9_renderContracts_115 (by decide) ?_
          refine m_apcs hC hJ X18 T18 dX9_renderContracts_117 (by decide) (by (try simp only [List.length_append, List.length_cons, List.length_nil]); omega) (Nat.le_of_ble_eq_true rfl) (fun v19 n19 M19 X19 T19 F19 => ?_)
          refine m_aload_n hC 1 dX9_renderContracts_120 rfl rfl ?_
          refine m_getf hC dX9_renderContracts_121 kf_X9_234 X19.2.2.1.co rfl ?_
          refine m_iload_n hC 0 dX9_renderContracts_124 rfl rfl ?_
          refine m_ld13 hC X19.2.2.1 dX9_renderContracts_125 (by first | omega | (simp [hs_at] <;> omega)) (by first | omega | (simp [hs_at] <;> omega)) ?_
          refine m_apis hC hJ X19 T19 dX9_renderContracts_126 (by omega) (by (try simp only [List.length_append, List.length_cons, List.length_nil]); omega) (Nat.le_of_ble_eq_true rfl) (fun v20 n20 M20 X20 T20 F20 => ?_)
          refine m_pop hC dX9_renderContracts_129 rfl ?_
          refine m_iinc hC 0 dX9_renderContracts_130 rfl (by decide) rfl ?_
          refine m_goto (tgt := 18) hC dX9_renderContracts_133 (by decide) ?_
          refine m_lvs [0, 1, 2] rfl (ih (i + 1) _ _ M20 (by omega) (by omega) (by omega) X20 (by rw [R_con_s h0]; first | (rw [if_pos (by omega)]; exact T20) | (rw [if_neg (by omega)]; exact T20)) ((((((((((FF.tr F11).tr F12).tr F13).tr F14).tr F15).tr F16).tr F17).tr F18).tr F19).tr F20))
  refine m_lvs [0, 1, 2] rfl (LL ((g 0 11 - 0).toNat + 1) 0 _ _ M1 (by omega) (by omega) (by omega) X1 T1 F1)

set_option maxHeartbeats 4000000 in
set_option maxRecDepth 100000 in
theorem t_X9_outputAt_y {D : va_G} {aC : Nat → ClassId} {s0 : State} {l : Launch} (hF : m_F D aC s0) (hl : l.stackTraces = false) {x w : Nat} {g sg : h_T} {L : Nat → h_T} {q : Int → Int} {tx ot : List Int} {M : m_M} {K : Int} {fo ks vs : Nat → Nat} {fA sA dO dT : Nat} (hJ : m_J s0 fo ks vs fA sA dO dT) (hX : m_TH s0) {v0 n0 : Nat} (X0 : gX s0.heap.size fo x w g sg L q tx v0 M) (T0 : sbT s0.heap.size (x + 235) v0 n0 ot M) (hB : h_BK K g) (hK : K ≤ 80000000) (hc : 0 ≤ q 0 ∧ q 0 ≤ 8) {y : Int} (hy : 0 ≤ y ∧ y < (ot.length : Int)) : m_Met D aC s0 l yX9_outputAt cX9_outputAt 2 (some .char) 12 (470) (940) [.ref x, VI y] M (qM (VI (ot.getD y.toNat 0)) M) m_nx := by
  refine m_entry (lv := [(0, .ref x), (1, VI y)]) (by decide +kernel) (Nat.le_of_ble_eq_true rfl) rfl hF hl ?_
  intro p e s m args below meth c hC hr hno hnm
  change m_C D aC s0 RX9 _ _ _ _ _ _ _ _ _ at hC
  obtain ⟨a1, hO, hR, -⟩ := id X0
  have hx := a1.2.2
  have hB0 := hB.toB (by omega)
  have n8 := hB.n8
  have n9 := hB.n9
  have n11 := hB.n11
  have av9 := T0.av
  refine m_iload_n hC 1 dX9_outputAt_0 rfl rfl ?_
  refine m_if_lt (tgt := 15) hC dX9_outputAt_1 (by decide) (by first | omega | (simp [hs_at] <;> omega)) (fun c1 => by omega) (fun c1 => ?_)
  refine m_iload_n hC 1 dX9_outputAt_4 rfl rfl ?_
  refine m_aload_n hC 0 dX9_outputAt_5 rfl rfl ?_
  refine m_getf hC dX9_outputAt_6 kf_X9_39 hO rfl ?_
  refine m_callVr hC (t_J4_length_8abf5 hF hl T0) dX9_outputAt_9 kc_J4_length_8abf5 kV_X9_319 rfl (m_sbr hC T0) rfl rfl (Nat.le_of_ble_eq_true rfl) (by decide) ⟨Nat.le_of_ble_eq_true rfl, Nat.le_of_ble_eq_true rfl⟩ m_nox (fun v9 M9 h9 => ?_)
  obtain ⟨rfl, h9⟩ := h9
  replace h9 := h9.symm
  subst h9
  refine m_icmp_lt (tgt := 26) hC dX9_outputAt_12 (by decide) (by first | omega | (simp [hs_at] <;> omega)) (fun c2 => ?_) (fun c2 => by omega)
  refine m_aload_n hC 0 dX9_outputAt_26 rfl rfl ?_
  refine m_getf hC dX9_outputAt_27 kf_X9_39 hO rfl ?_
  refine m_iload_n hC 1 dX9_outputAt_30 rfl rfl ?_
  refine m_callVr hC (t_J4_charAt_5068e hF hl hJ T0 (i := y) (by omega)) dX9_outputAt_31 kc_J4_charAt_5068e kV_X9_324 rfl (m_sbr hC T0) rfl rfl (Nat.le_of_ble_eq_true rfl) (by decide) ⟨Nat.le_of_ble_eq_true rfl, Nat.le_of_ble_eq_true rfl⟩ m_nox (fun v9 M9 h9 => ?_)
  obtain ⟨rfl, h9⟩ := h9
  replace h9 := h9.symm
  subst h9
  have hch := T0.ch y (by omega)
  exact m_zret hC dX9_outputAt_34 hr (k_char (by omega)) (by have := av9; omega) (by have := av9; omega) (⟨rfl, rfl⟩)

