/-! what is predicted is what happens -/
theorem gIn.wr {z0 : Nat} {fo : Nat → Nat} {x w a n : Nat} {f9 : Int → Int} {W : gW} {M M2 : m_M} (h : gIn z0 fo x w W M) (hA : M.2 a = some (m_ia 0 n f9)) (ha : x + 238 ≤ a) (hf : m_fr a 1 M M2) : gIn z0 fo x w W M2 := by
  obtain ⟨a1, a2, a3, ⟨f9, a4⟩, ⟨s9, a5, c5⟩, ⟨L9, a6, c6⟩, ⟨bf, a7⟩, v, n, v2, n2, cnt, fur, CM, hS, hO, h1, h2, h3⟩ := h
  have k : ∀ p : Nat, p ≠ a → M2.2 p = M.2 p := fun p hp => hf.2 p (by omega)
  have hz := hf.1
  have hv : v ≠ a := fun e => by
    obtain ⟨ml, f, ⟨p1, p2⟩, -⟩ := hS.2.1
    rw [e, hA] at p2
    cases p2
  have hv2 : v2 ≠ a := fun e => by
    obtain ⟨ml, f, ⟨p1, p2⟩, -⟩ := hO
    rw [e, hA] at p2
    cases p2
  exact ⟨by omega, (k _ (by omega)).trans a2, a3.keep (fun p _ _ => k p (by omega)), ⟨f9, a4.keep (fun p _ _ => k p (by omega))⟩, ⟨s9, a5.keep (fun p _ _ => k p (by omega)), c5⟩, ⟨L9, a6.keep (fun p _ _ => k p (by omega)), c6⟩, ⟨bf, (k _ (by omega)).trans a7⟩, v, n, v2, n2, cnt, fur, CM, hS.kp (fun p _ _ => k p (by omega)) (k v hv) (by omega), hO.kp (k _ (by omega)) (k v2 hv2) (by omega), h1, h2, h3⟩
def pQ (z0 : Nat) (fo : Nat → Nat) (x w : Nat) (W : gW) (z : Int) (M : m_M) : Option Value → m_M → Prop := fun v M' => v = some (VI z) ∧ gIn z0 fo x w W M' ∧ gFr x w M M'
theorem cU.in_ {D : va_G} {aC : Nat → ClassId} {s0 : State} {l : Launch} {fo : Nat → Nat} {x w : Nat} {y : MethodName} {cc : ByteArray} {nL : Nat} {ret : Option FieldType} {d : Nat} {As : List Value} {M : m_M} {Es : List String} {r : Int × Int} {W2 W3 : gW} {z : Int} (h : cU D aC s0 l fo x w y cc nL ret d As M Es r W2) (e : r = (0, z)) (e3 : W2 = W3) : m_Met D aC s0 l y cc nL ret d 470 940 As M (pQ s0.heap.size fo x w W3 z M) m_nx := by
  subst e
  subst e3
  exact m_Met.mono h (fun v M' h => ⟨h.2.1, h.2.2⟩) (fun E M' h => absurd (show (1 : Int) ≤ 0 from h.1.1) (by decide))
section m_PRE
variable {D : va_G} {aC : Nat → ClassId} {s0 : State} {own : String} {cc : ByteArray} {nL : Nat} {p : Program} {l : Launch} {e : Env} {R : Room} {s : State} {m : MethodId} {args : Array Value} {below : List Frame} {meth : Method} {c : Code} {cells slots : Nat} {Q : State → Prop} {pc : Nat} {lv : List (Nat × Value)} {st : List Value} {M : m_M}
theorem m_icne_same (C : m_C D aC s0 own cc nL l p s m args meth c) {v : Int32} {off : Int} {tgt : Nat} (hd : decode cc pc = .ok (.if_icmp .ne off, 3)) (ht : (pc : Int) + off = (tgt : Int)) (kf : m_W D aC s0 nL p l e R s m args below meth c cells slots Q (pc + 3) lv st M) : m_W D aC s0 nL p l e R s m args below meth c cells slots Q pc lv (.int v :: .int v :: st) M := fun H locs ls h1 h2 h3 => lv_icmp_ne C.1 C.2.1 hd ht (fun n => absurd rfl n) (fun _ => kf H locs ls h1 h2 h3)
end m_PRE
/-- the night told of a contract's row -/
def nTo (g : h_T) (i : Int) : Int := ansC [eN, eS] (G_nud g (g 9 i))
theorem nTo_eq {g : h_T} (hx : nX g) {i : Int} (hi : 0 ≤ i ∧ i < g 0 11) : nTo g i = if g 8 (g 10 i) ≠ 0 then -20005 else if S_nud g (g 9 i) = -1 then -20005 else S_nud g (g 9 i) := by
  have hp := hx.pos hi
  have h5 : ansC [eN, eS] (2, 0) = -20005 := by decide +kernel
  unfold nTo G_nud
  rw [hp, if_neg (by omega)]
  by_cases c : g 8 (g 10 i) ≠ 0
  · rw [if_pos c, if_pos c]; exact h5
  · rw [if_neg c, if_neg c]
    by_cases c2 : S_nud g (g 9 i) = -1
    · rw [if_pos c2, if_pos c2]; exact h5
    · rw [if_neg c2, if_neg c2]; exact ansC_0 rfl
theorem nTo_rg {g : h_T} (hx : nX g) {i : Int} (hi : 0 ≤ i ∧ i < g 0 11) : nTo g i = -20005 ∨ (1 ≤ nTo g i ∧ nTo g i ≤ 60) := by
  rw [nTo_eq hx hi]
  have := S_nud_rg g (g 9 i)
  split
  · exact Or.inl rfl
  · split
    · exact Or.inl rfl
    · omega
theorem nTo_in {K : Int} {g : h_T} (hI : h_I K g) {i N : Int} (hi : 0 ≤ i ∧ i < g 0 11) (hN : 1 ≤ N ∧ N ≤ 60) (h : 0 < nTo g i ∧ nTo g i ≤ N) : g 8 (g 10 i) = 0 ∧ S_pos (S_nights g N.toNat) (g 9 i) = -1 := by
  rw [nTo_eq hI.2.2.2.1 hi] at h
  by_cases c : g 8 (g 10 i) ≠ 0
  · rw [if_pos c] at h; omega
  · rw [if_neg c] at h
    by_cases c2 : S_nud g (g 9 i) = -1
    · rw [if_pos c2] at h; omega
    · rw [if_neg c2] at h
      exact ⟨Decidable.not_not.mp c, (nFore hI hN).mp ⟨c2, h.2⟩⟩
theorem nTo_out {K : Int} {g : h_T} (hI : h_I K g) {i N : Int} (hi : 0 ≤ i ∧ i < g 0 11) (hN : 1 ≤ N ∧ N ≤ 60) (h : ¬ (0 < nTo g i ∧ nTo g i ≤ N)) : ¬ (g 8 (g 10 i) = 0 ∧ S_pos (S_nights g N.toNat) (g 9 i) = -1) := by
  rintro ⟨h1, h2⟩
  have h3 := (nFore hI hN).mpr h2
  have hr := S_nud_rg g (g 9 i)
  rw [nTo_eq hI.2.2.2.1 hi, if_neg (fun z => z h1), if_neg h3.1] at h
  omega
theorem nTo_late {K : Int} {g : h_T} (hI : h_I K g) {i N : Int} (hi : 0 ≤ i ∧ i < g 0 11) (hN : 1 ≤ N ∧ N ≤ 60) (h : N < nTo g i) : S_pos (S_nights g N.toNat) (g 9 i) ≠ -1 := by
  rw [nTo_eq hI.2.2.2.1 hi] at h
  by_cases c : g 8 (g 10 i) ≠ 0
  · rw [if_pos c] at h; omega
  · rw [if_neg c] at h
    by_cases c2 : S_nud g (g 9 i) = -1
    · rw [if_pos c2] at h; omega
    · rw [if_neg c2] at h
      intro h2
      have := ((nFore hI hN).mpr h2).2
      omega
theorem kW_1 {S : Int × h_T} {W : gW} : (kW S (wSave W)).1 = S.2 ∧ (kW S (wSave W)).2.1 = W.1 ∧ (kW S (wSave W)).2.2.2.1 1 = 1 := by
  refine ⟨rfl, rfl, ?_⟩
  show (if S.1 < 0 then m_ug W.2.2.2.1 1 1 else c_q (m_ug W.2.2.2.1 1 1)) 1 = 1
  split
  · exact ug_s
  · unfold c_q
    rw [ug_n (by decide)]
    exact ug_s

set_option maxHeartbeats 4000000 in
set_option maxRecDepth 100000 in
theorem t_L_arePredictionsRight {D : va_G} {aC : Nat → ClassId} {s0 : State} {l : Launch} (hF : m_F D aC s0) (hl : l.stackTraces = false) {fo ks vs : Nat → Nat} {fA sA dO dT : Nat} (hJ : m_J s0 fo ks vs fA sA dO dT) (hX : m_TH s0) (hN : m_NC s0) {x w : Nat} {W : gW} {M : m_M} {K : Int} (hG : gIn s0.heap.size fo x w W M) (hI : lI K W) (hK : K ≤ 70000000) {N : Int} (hNn : 1 ≤ N ∧ N ≤ 60) : m_Met D aC s0 l yL_arePredictionsRight cL_arePredictionsRight 16 (some .boolean) 16 (16000) (33000) [.ref x, VI N] M (fun v M' => v = some (VI 1) ∧ ∃ W' : gW, gIn s0.heap.size fo x w W' M' ∧ lI (K + 5300) W') m_nx := by
  refine m_entry (lv := [(0, .ref x), (1, VI N)]) (by decide +kernel) (Nat.le_of_ble_eq_true rfl) rfl hF hl ?_
  intro p e s m args below meth c hC hr hno hnm
  change m_C D aC s0 RL _ _ _ _ _ _ _ _ _ at hC
  have hB := hI.B (by omega)
  have n8 := hB.n8
  have n9 := hB.n9
  have n11 := hB.n11
  have hx : nX W.1 := hI.1.2.2.2.1
  have hxw := hG.1
  have hst1 : 0 ≤ W.1 0 1 ∧ W.1 0 1 ≤ 100000000 := hB.s 1 (by omega)
  have hBn := (hI.1.1.nights3 N.toNat (by omega)).toB (by omega)
  have hsn1 := hBn.s 1 (by omega)
  have hsn4 := hBn.s 4 (by omega)
  refine m_aload_n hC 0 dL_arePredictionsRight_0 rfl rfl ?_
  refine m_qS hC (t_L_looks hF hl hX hG.2.1 hG.2.2.1 hB hx) dL_arePredictionsRight_1 kc_L_looks kS_L_279 rfl rfl (Nat.le_of_ble_eq_true rfl) ⟨Nat.le_of_ble_eq_true rfl, Nat.le_of_ble_eq_true rfl⟩ ⟨by show _ ≤ 16000; omega, by show _ ≤ 33000; omega⟩ ?_
  refine m_istore_n hC dL_arePredictionsRight_4 rfl (by decide) rfl ?_
  refine m_aload_n hC 1 dL_arePredictionsRight_5 rfl rfl ?_
  refine m_qV hC (Q_goblinCount hF hl hX hG.2.1 hG.2.2.1 hB) dL_arePredictionsRight_6 kc_X9_goblinCount kV_L_124 hG.2.1 rfl rfl rfl rfl (Nat.le_of_ble_eq_true rfl) ⟨Nat.le_of_ble_eq_true rfl, Nat.le_of_ble_eq_true rfl⟩ ⟨by show _ ≤ 16000; omega, by show _ ≤ 33000; omega⟩ ?_
  refine m_istore_n hC dL_arePredictionsRight_9 rfl (by decide) rfl ?_
  refine m_aload_n hC 2 dL_arePredictionsRight_10 rfl rfl ?_
  refine m_qV hC (Q_openContracts hF hl hX hG.2.1 hG.2.2.1 hB) dL_arePredictionsRight_11 kc_X9_openContracts kV_L_135 hG.2.1 rfl rfl rfl rfl (Nat.le_of_ble_eq_true rfl) ⟨Nat.le_of_ble_eq_true rfl, Nat.le_of_ble_eq_true rfl⟩ ⟨by show _ ≤ 16000; omega, by show _ ≤ 33000; omega⟩ ?_
  refine m_istore hC dL_arePredictionsRight_14 (by decide) rfl ?_
  refine m_aload_n hC 3 dL_arePredictionsRight_16 rfl rfl ?_
  refine m_iload_n hC 4 dL_arePredictionsRight_17 rfl rfl ?_
  refine m_callV hC (cU.in_ (z := S_nights W.1 N.toNat 0 1) (C_chestAfter hF hl hJ hX hG hI (by omega) (y1 := N) (by omega)) (G_if.t (by omega)) rfl) dL_arePredictionsRight_18 kc_X9_chestAfter kV_L_98 hG.2.1 rfl rfl rfl rfl (Nat.le_of_ble_eq_true rfl) ⟨Nat.le_of_ble_eq_true rfl, Nat.le_of_ble_eq_true rfl⟩ ⟨by show _ ≤ 16000; omega, by show _ ≤ 33000; omega⟩ m_nox (fun v9 M1 h9 => ?_)
  obtain ⟨rfl, hG2, hf3⟩ := h9
  have hz4 := hf3.1
  refine m_istore hC dL_arePredictionsRight_21 (by decide) rfl ?_
  refine m_iload_n hC 2 dL_arePredictionsRight_23 rfl rfl ?_
  obtain ⟨a6, ha6⟩ : ∃ a6 : Nat, a6 = M1.1 := ⟨_, rfl⟩
  refine n_newa (k := 0) (n := (W.1 0 9).toNat) (a := a6) hC dL_arePredictionsRight_24 (by decide) rfl rfl ka_int (fun _ => Iff.rfl) (by omega) (by omega) (by decide) (by show _ ≤ 16000; omega) (by show _ ≤ 33000; omega) ha6.symm (fun M5 hz6 A7 hg8 => ?_)
  have hG9 := hG2.kK (M2 := M5) ⟨by omega, fun p9 hp => hg8 p9 (by omega)⟩
  refine m_astore hC dL_arePredictionsRight_26 (by decide) rfl ?_
  refine m_iload hC 2 dL_arePredictionsRight_28 rfl ?_
  obtain ⟨a7, ha7⟩ : ∃ a7 : Nat, a7 = M5.1 := ⟨_, rfl⟩
  refine n_newa (k := 0) (n := (W.1 0 11).toNat) (a := a7) hC dL_arePredictionsRight_30 (by decide) rfl rfl ka_int (fun _ => Iff.rfl) (by omega) (by omega) (by decide) (by show _ ≤ 16000; omega) (by show _ ≤ 33000; omega) ha7.symm (fun M10 hz11 A12 hg13 => ?_)
  have hG14 := hG9.kK (M2 := M10) ⟨by omega, fun p9 hp => hg13 p9 (by omega)⟩
  have A15 := (hg13 a6 (by omega)).trans A7
  refine m_astore hC dL_arePredictionsRight_32 (by decide) rfl ?_
  refine m_iload hC 3 dL_arePredictionsRight_34 rfl ?_
  obtain ⟨a8, ha8⟩ : ∃ a8 : Nat, a8 = M10.1 := ⟨_, rfl⟩
  refine n_newa (k := 0) (n := (W.1 0 11).toNat) (a := a8) hC dL_arePredictionsRight_36 (by decide) rfl rfl ka_int (fun _ => Iff.rfl) (by omega) (by omega) (by decide) (by show _ ≤ 16000; omega) (by show _ ≤ 33000; omega) ha8.symm (fun M16 hz17 A18 hg19 => ?_)
  have hG20 := hG14.kK (M2 := M16) ⟨by omega, fun p9 hp => hg19 p9 (by omega)⟩
  have A21 := (hg19 a6 (by omega)).trans A15
  have A22 := (hg19 a7 (by omega)).trans A12
  refine m_astore hC dL_arePredictionsRight_38 (by decide) rfl ?_
  refine m_aload_n hC 7 dL_arePredictionsRight_40 rfl rfl ?_
  refine m_bipush hC dL_arePredictionsRight_41 (by decide) ?_
  refine m_bipush hC dL_arePredictionsRight_43 (by decide) ?_
  refine m_iconst hC dL_arePredictionsRight_45 ?_
  refine m_callSW hC (a_chestAfter hF hl hJ hX hN hG20 hI (by omega) ⟨by omega, by omega⟩ (G_if.f (by omega)) (z := (-20003 : Int)) (by decide +kernel)) dL_arePredictionsRight_46 kw_L_ask kS_L_194 rfl rfl (Nat.le_of_ble_eq_true rfl) ⟨Nat.le_of_ble_eq_true rfl, Nat.le_of_ble_eq_true rfl⟩ ⟨by show _ ≤ 16000; omega, by show _ ≤ 33000; omega⟩ (fun v9 M23 h9 => ?_)
  obtain ⟨rfl, hG24, hf25⟩ := h9
  have A26 := (hf25.2 a6 (Or.inr (by omega))).trans A21
  have A27 := (hf25.2 a7 (Or.inr (by omega))).trans A22
  have A28 := (hf25.2 a8 (Or.inr (by omega))).trans A18
  have hz29 := hf25.1
  refine m_sipush hC dL_arePredictionsRight_49 (by decide) ?_
  refine m_icmp_ne (tgt := 118) hC dL_arePredictionsRight_52 (by decide) (by first | omega | (simp [hs_at] <;> omega)) (fun c30 => by omega) (fun c30 => ?_)
  refine m_aload_n hC 7 dL_arePredictionsRight_55 rfl rfl ?_
  refine m_bipush hC dL_arePredictionsRight_56 (by decide) ?_
  refine m_iconst hC dL_arePredictionsRight_58 ?_
  refine m_iconst hC dL_arePredictionsRight_59 ?_
  refine m_callSW hC (a_chestAfter hF hl hJ hX hN hG24 hI (by omega) ⟨by omega, by omega⟩ (G_if.f (by omega)) (z := (-20003 : Int)) (by decide +kernel)) dL_arePredictionsRight_60 kw_L_ask kS_L_194 rfl rfl (Nat.le_of_ble_eq_true rfl) ⟨Nat.le_of_ble_eq_true rfl, Nat.le_of_ble_eq_true rfl⟩ ⟨by show _ ≤ 16000; omega, by show _ ≤ 33000; omega⟩ (fun v9 M31 h9 => ?_)
  obtain ⟨rfl, hG32, hf33⟩ := h9
  have A34 := (hf33.2 a6 (Or.inr (by omega))).trans A26
  have A35 := (hf33.2 a7 (Or.inr (by omega))).trans A27
  have A36 := (hf33.2 a8 (Or.inr (by omega))).trans A28
  have hz37 := hf33.1
  refine m_sipush hC dL_arePredictionsRight_63 (by decide) ?_
  refine m_icmp_ne (tgt := 118) hC dL_arePredictionsRight_66 (by decide) (by first | omega | (simp [hs_at] <;> omega)) (fun c38 => by omega) (fun c38 => ?_)
  refine m_aload_n hC 7 dL_arePredictionsRight_69 rfl rfl ?_
  refine m_iconst hC dL_arePredictionsRight_70 ?_
  refine m_callV hC (cU.in_ (z := W.1 0 1) (C_chestAfter hF hl hJ hX hG32 hI (by omega) (y1 := 0) (by omega)) (G_if.t (by omega)) rfl) dL_arePredictionsRight_71 kc_X9_chestAfter kV_L_98 hG32.2.1 rfl rfl rfl rfl (Nat.le_of_ble_eq_true rfl) ⟨Nat.le_of_ble_eq_true rfl, Nat.le_of_ble_eq_true rfl⟩ ⟨by show _ ≤ 16000; omega, by show _ ≤ 33000; omega⟩ m_nox (fun v9 M39 h9 => ?_)
  obtain ⟨rfl, hG40, hf41⟩ := h9
  have A42 := (hf41.2 a6 (Or.inr (by omega))).trans A34
  have A43 := (hf41.2 a7 (Or.inr (by omega))).trans A35
  have A44 := (hf41.2 a8 (Or.inr (by omega))).trans A36
  have hz45 := hf41.1
  refine m_aload_n hC 7 dL_arePredictionsRight_74 rfl rfl ?_
  refine m_qV hC (Q_chest hF hl hX hG40.2.1 hG40.2.2.1 hB) dL_arePredictionsRight_75 kc_X9_chest kV_L_141 hG40.2.1 rfl rfl rfl rfl (Nat.le_of_ble_eq_true rfl) ⟨Nat.le_of_ble_eq_true rfl, Nat.le_of_ble_eq_true rfl⟩ ⟨by show _ ≤ 16000; omega, by show _ ≤ 33000; omega⟩ ?_
  refine m_icmp_ne (tgt := 118) hC dL_arePredictionsRight_78 (by decide) (by first | omega | (simp [hs_at] <;> omega)) (fun c46 => by omega) (fun c46 => ?_)
  refine m_aload_n hC 7 dL_arePredictionsRight_81 rfl rfl ?_
  refine m_bipush hC dL_arePredictionsRight_82 (by decide) ?_
  refine m_iload_n hC 5 dL_arePredictionsRight_84 rfl rfl ?_
  refine m_iconst hC dL_arePredictionsRight_85 ?_
  refine m_callSW hC (a_debtAfter hF hl hJ hX hN hG40 hI (by omega) ⟨by omega, by omega⟩ ⟨by omega, by omega⟩ (if_pos (by omega)) (z := (-20002 : Int)) (by decide +kernel)) dL_arePredictionsRight_86 kw_L_ask kS_L_194 rfl rfl (Nat.le_of_ble_eq_true rfl) ⟨Nat.le_of_ble_eq_true rfl, Nat.le_of_ble_eq_true rfl⟩ ⟨by show _ ≤ 16000; omega, by show _ ≤ 33000; omega⟩ (fun v9 M47 h9 => ?_)
  obtain ⟨rfl, hG48, hf49⟩ := h9
  have A50 := (hf49.2 a6 (Or.inr (by omega))).trans A42
  have A51 := (hf49.2 a7 (Or.inr (by omega))).trans A43
  have A52 := (hf49.2 a8 (Or.inr (by omega))).trans A44
  have hz53 := hf49.1
  refine m_sipush hC dL_arePredictionsRight_89 (by decide) ?_
  refine m_icmp_ne (tgt := 118) hC dL_arePredictionsRight_92 (by decide) (by first | omega | (simp [hs_at] <;> omega)) (fun c54 => by omega) (fun c54 => ?_)
  have REST : ∀ (M5 : m_M) (c5 s5 : Nat), c5 ≤ 3300 → s5 ≤ 6700 → gIn s0.heap.size fo x w W M5 → M5.2 a6 = some (m_ia 0 (W.1 0 9).toNat (fun _ => 0)) → M5.2 a7 = some (m_ia 0 (W.1 0 11).toNat (fun _ => 0)) → M5.2 a8 = some (m_ia 0 (W.1 0 11).toNat (fun _ => 0)) → m_W D aC s0 16 p l e (m_R 16 (16000) (33000)) s m args below meth c (c5) (s5) (m_Q D aC s0 below (fun v M' => v = some (VI 1) ∧ ∃ W' : gW, gIn s0.heap.size fo x w W' M' ∧ lI (K + 5300) W') m_nx args s (16000) (33000)) 114 [(8, .ref a8), (7, .ref a7), (6, .ref a6), (5, VI (S_nights W.1 N.toNat 0 1)), (4, VI (W.1 0 11)), (3, VI (W.1 0 9)), (2, VI (S_looks W.1)), (1, VI N), (0, .ref x)] [] M5 := by
    intro M5 c5 s5 hc5 hs5 hG5 B6 B7 B8
    refine m_iconst hC dL_arePredictionsRight_114 ?_
    refine m_goto (tgt := 119) hC dL_arePredictionsRight_115 (by decide) ?_
    refine m_istore hC dL_arePredictionsRight_119 (by decide) rfl ?_
    refine m_iconst hC dL_arePredictionsRight_121 ?_
    refine m_istore hC dL_arePredictionsRight_122 (by decide) rfl ?_
    have L1 : ∀ (n : Nat) (i : Int) (c9 s9 : Nat) (f6 : Int → Int) (M1 : m_M), W.1 0 9 - i < (n : Int) → 0 ≤ i → i ≤ W.1 0 9 → gIn s0.heap.size fo x w W M1 → M1.2 a6 = some (m_ia 0 (W.1 0 9).toNat f6) → M1.2 a7 = some (m_ia 0 (W.1 0 11).toNat (fun _ => 0)) → M1.2 a8 = some (m_ia 0 (W.1 0 11).toNat (fun _ => 0)) → (∀ j : Int, 0 ≤ j → j < i → f6 j = S_nights W.1 N.toNat 6 j) → (c9 : Int) ≤ 3300 + 470 * i → (s9 : Int) ≤ 6700 + 940 * i → m_W D aC s0 16 p l e (m_R 16 (16000) (33000)) s m args below meth c (c9) (s9) (m_Q D aC s0 below (fun v M' => v = some (VI 1) ∧ ∃ W' : gW, gIn s0.heap.size fo x w W' M' ∧ lI (K + 5300) W') m_nx args s (16000) (33000)) 124 [(10, VI i), (9, VI 1), (8, .ref a8), (7, .ref a7), (6, .ref a6), (5, VI (S_nights W.1 N.toNat 0 1)), (4, VI (W.1 0 11)), (3, VI (W.1 0 9)), (2, VI (S_looks W.1)), (1, VI N), (0, .ref x)] [] M1 := by
      intro n
      induction n with
      | zero =>
        intro i c9 s9 f6 M1 hn h0 h1 hG1 B6 B7 B8 hf6 hc9 hs9
        omega
      | succ n ih =>
        intro i c9 s9 f6 M1 hn h0 h1 hG1 B6 B7 B8 hf6 hc9 hs9
        refine m_iload hC 0 dL_arePredictionsRight_124 rfl ?_
        refine m_iload_n hC 7 dL_arePredictionsRight_126 rfl rfl ?_
        refine m_icmp_ge (tgt := 148) hC dL_arePredictionsRight_127 (by decide) (by first | omega | (simp [hs_at] <;> omega)) (fun c55 => ?_) (fun c55 => ?_)
        · refine m_iconst hC dL_arePredictionsRight_148 ?_
          refine m_istore hC dL_arePredictionsRight_149 (by decide) rfl ?_
          have hf6 : ∀ j : Int, 0 ≤ j → j < W.1 0 9 → f6 j = S_nights W.1 N.toNat 6 j := fun j a b => hf6 j a (by omega)
          have hcb : c9 ≤ 5650 := by omega
          have hsb : s9 ≤ 11400 := by omega
          have L2 : ∀ (n : Nat) (i : Int) (c8 s8 : Nat) (f7 f8 : Int → Int) (M2 : m_M), W.1 0 11 - i < (n : Int) → 0 ≤ i → i ≤ W.1 0 11 → gIn s0.heap.size fo x w W M2 → M2.2 a6 = some (m_ia 0 (W.1 0 9).toNat f6) → M2.2 a7 = some (m_ia 0 (W.1 0 11).toNat f7) → M2.2 a8 = some (m_ia 0 (W.1 0 11).toNat f8) → (∀ j : Int, 0 ≤ j → j < i → f7 j = W.1 9 j) → (∀ j : Int, 0 ≤ j → j < i → f8 j = nTo W.1 j) → (c8 : Int) ≤ 5650 + 470 * i → (s8 : Int) ≤ 11400 + 940 * i → m_W D aC s0 16 p l e (m_R 16 (16000) (33000)) s m args below meth c (c8) (s8) (m_Q D aC s0 below (fun v M' => v = some (VI 1) ∧ ∃ W' : gW, gIn s0.heap.size fo x w W' M' ∧ lI (K + 5300) W') m_nx args s (16000) (33000)) 151 [(10, VI i), (9, VI 1), (8, .ref a8), (7, .ref a7), (6, .ref a6), (5, VI (S_nights W.1 N.toNat 0 1)), (4, VI (W.1 0 11)), (3, VI (W.1 0 9)), (2, VI (S_looks W.1)), (1, VI N), (0, .ref x)] [] M2 := by
            intro n
            induction n with
            | zero =>
              intro i c8 s8 f7 f8 M2 hn h0 h1 hG2 B6 B7 B8 hf7 hf8 hc8 hs8
              omega
            | succ n ih =>
              intro i c8 s8 f7 f8 M2 hn h0 h1 hG2 B6 B7 B8 hf7 hf8 hc8 hs8
              refine m_iload hC 0 dL_arePredictionsRight_151 rfl ?_
              refine m_iload hC 6 dL_arePredictionsRight_153 rfl ?_
              refine m_icmp_ge (tgt := 192) hC dL_arePredictionsRight_155 (by decide) (by first | omega | (simp [hs_at] <;> omega)) (fun c56 => ?_) (fun c56 => ?_)
              · have hf7 : ∀ j : Int, 0 ≤ j → j < W.1 0 11 → f7 j = W.1 9 j := fun j a b => hf7 j a (by omega)
                have hf8 : ∀ j : Int, 0 ≤ j → j < W.1 0 11 → f8 j = nTo W.1 j := fun j a b => hf8 j a (by omega)
                have hcb8 : c8 ≤ 9410 := by omega
                have hsb8 : s8 ≤ 18920 := by omega
                refine m_aload_n hC 10 dL_arePredictionsRight_192 rfl rfl ?_
                refine m_callV hC (cU.in_ (z := W.1 0 11) (C_save hF hl hJ hX hG2 hI (by omega)) rfl rfl) dL_arePredictionsRight_193 kc_X9_save kV_L_283 hG2.2.1 rfl rfl rfl rfl (Nat.le_of_ble_eq_true rfl) ⟨Nat.le_of_ble_eq_true rfl, Nat.le_of_ble_eq_true rfl⟩ ⟨by show _ ≤ 16000; omega, by show _ ≤ 33000; omega⟩ m_nox (fun v9 M57 h9 => ?_)
                obtain ⟨rfl, hG58, hf59⟩ := h9
                have A60 := (hf59.2 a6 (Or.inr (by omega))).trans B6
                have A61 := (hf59.2 a7 (Or.inr (by omega))).trans B7
                have A62 := (hf59.2 a8 (Or.inr (by omega))).trans B8
                have hz63 := hf59.1
                have hIs := hI.save
                refine m_istore hC dL_arePredictionsRight_196 (by decide) rfl ?_
                refine m_aload_n hC 10 dL_arePredictionsRight_198 rfl rfl ?_
                refine m_qV hC (Q_doneTotal hF hl hX hG58.2.1 (show hhR (x + 1) W.1 M57 from hG58.2.2.1) hB) dL_arePredictionsRight_199 kc_X9_doneTotal kV_L_144 hG58.2.1 rfl rfl rfl rfl (Nat.le_of_ble_eq_true rfl) ⟨Nat.le_of_ble_eq_true rfl, Nat.le_of_ble_eq_true rfl⟩ ⟨by show _ ≤ 16000; omega, by show _ ≤ 33000; omega⟩ ?_
                refine m_istore hC dL_arePredictionsRight_202 (by decide) rfl ?_
                refine m_aload_n hC 11 dL_arePredictionsRight_204 rfl rfl ?_
                refine m_iload_n hC 10 dL_arePredictionsRight_205 rfl rfl ?_
                have hdn := S_nights_done W.1 N.toNat
                have eS : S_pass W.1 N = (S_nights W.1 N.toNat 0 4 - W.1 0 4, S_nights W.1 N.toNat) := if_neg (by omega)
                have eK : kS [-2] (S_pass (wSave W).1 N) = (0, S_nights W.1 N.toNat 0 4 - W.1 0 4) := by show kS [-2] (S_pass W.1 N) = _; rw [eS]; unfold kS o_th; rw [if_pos (by dsimp only; omega)]
                have hk3 := kW_1 (S := S_pass W.1 N) (W := W)
                have e3 : (kW (S_pass W.1 N) (wSave W)).1 = S_nights W.1 N.toNat := by rw [hk3.1, eS]
                have hI3 := lI.ch (cs := [-2]) hIs (S_pass_I hIs.1 N) (S_pass_ok hIs.1.1 (by omega) N)
                change lI (K + 5300) (kW (S_pass W.1 N) (wSave W)) at hI3
                have nN : ∀ M9 : m_M, gIn s0.heap.size fo x w (kW (S_pass W.1 N) (wSave W)) M9 → hhR (x + 1) (S_nights W.1 N.toNat) M9 := fun M9 hh => by rw [← e3]; exact hh.2.2.1
                have hB3 : h_B (S_nights W.1 N.toNat) := by have := hI3.B (by omega); rw [e3] at this; exact this
                have h93 : S_nights W.1 N.toNat 0 9 = W.1 0 9 := (hI.1.1.nights N.toNat).2.1
                have hY := yI.nights hI.1.1 hx N.toNat
                have hYd := hY.1
                refine m_callV hC (cU.in_ (W3 := kW (S_pass W.1 N) (wSave W)) (z := S_nights W.1 N.toNat 0 4 - W.1 0 4) (C_passNights hF hl hJ hX hG58 hIs (by omega) (y1 := N) (by omega)) eK rfl) dL_arePredictionsRight_206 kc_X9_passNights kV_L_53 hG58.2.1 rfl rfl rfl rfl (Nat.le_of_ble_eq_true rfl) ⟨Nat.le_of_ble_eq_true rfl, Nat.le_of_ble_eq_true rfl⟩ ⟨by show _ ≤ 16000; omega, by show _ ≤ 33000; omega⟩ m_nox (fun v9 M64 h9 => ?_)
                obtain ⟨rfl, hG65, hf66⟩ := h9
                have A67 := (hf66.2 a6 (Or.inr (by omega))).trans A60
                have A68 := (hf66.2 a7 (Or.inr (by omega))).trans A61
                have A69 := (hf66.2 a8 (Or.inr (by omega))).trans A62
                have hz70 := hf66.1
                refine m_istore hC dL_arePredictionsRight_209 (by decide) rfl ?_
                refine m_iconst hC dL_arePredictionsRight_211 ?_
                refine m_istore hC dL_arePredictionsRight_212 (by decide) rfl ?_
                refine m_iconst hC dL_arePredictionsRight_214 ?_
                refine m_istore hC dL_arePredictionsRight_215 (by decide) rfl ?_
                have L3 : ∀ (n : Nat) (i d9 : Int) (c7 s7 : Nat) (M3 : m_M), W.1 0 11 - i < (n : Int) → 0 ≤ i → i ≤ W.1 0 11 → gIn s0.heap.size fo x w (kW (S_pass W.1 N) (wSave W)) M3 → M3.2 a6 = some (m_ia 0 (W.1 0 9).toNat f6) → M3.2 a7 = some (m_ia 0 (W.1 0 11).toNat f7) → M3.2 a8 = some (m_ia 0 (W.1 0 11).toNat f8) → d9 = (h_sum (nF W.1 (S_nights W.1 N.toNat)) i.toNat) → 0 ≤ d9 ∧ d9 ≤ i → (c7 : Int) ≤ 10350 + 470 * i → (s7 : Int) ≤ 20800 + 940 * i → m_W D aC s0 16 p l e (m_R 16 (16000) (33000)) s m args below meth c (c7) (s7) (m_Q D aC s0 below (fun v M' => v = some (VI 1) ∧ ∃ W' : gW, gIn s0.heap.size fo x w W' M' ∧ lI (K + 5300) W') m_nx args s (16000) (33000)) 217 [(14, VI i), (13, VI d9), (12, VI (S_nights W.1 N.toNat 0 4 - W.1 0 4)), (11, VI (W.1 0 4)), (10, VI (W.1 0 11)), (9, VI 1), (8, .ref a8), (7, .ref a7), (6, .ref a6), (5, VI (S_nights W.1 N.toNat 0 1)), (4, VI (W.1 0 11)), (3, VI (W.1 0 9)), (2, VI (S_looks W.1)), (1, VI N), (0, .ref x)] [] M3 := by
                  intro n
                  induction n with
                  | zero =>
                    intro i d9 c7 s7 M3 hn h0 h1 hG3 B6 B7 B8 hdue hdr hc7 hs7
                    omega
                  | succ n ih =>
                    intro i d9 c7 s7 M3 hn h0 h1 hG3 B6 B7 B8 hdue hdr hc7 hs7
                    refine m_iload hC 0 dL_arePredictionsRight_217 rfl ?_
                    refine m_iload hC 10 dL_arePredictionsRight_219 rfl ?_
                    refine m_icmp_ge (tgt := 323) hC dL_arePredictionsRight_221 (by decide) (by first | omega | (simp [hs_at] <;> omega)) (fun c71 => ?_) (fun c71 => ?_)
                    · have hi8 : i = W.1 0 11 := by omega
                      rw [hi8] at hdue
                      have hdue2 : d9 = nD W.1 (S_nights W.1 N.toNat) := hdue
                      have hcb7 : c7 ≤ 14110 := by omega
                      have hsb7 : s7 ≤ 28320 := by omega
                      have s43 := hB3.s 4 (by omega)
                      have s13 := hB3.s 1 (by omega)
                      have s4 := hB.s 4 (by omega)
                      have n93 := hB3.n9
                      refine m_iload hC 5 dL_arePredictionsRight_323 rfl ?_
                      refine m_if_eq (tgt := 360) hC dL_arePredictionsRight_325 (by decide) (by omega) (fun c72 => by omega) (fun c72 => ?_)
                      refine m_iload hC 2 dL_arePredictionsRight_328 rfl ?_
                      refine m_iload hC 1 dL_arePredictionsRight_330 rfl ?_
                      refine m_icmp_ne (tgt := 360) hC dL_arePredictionsRight_332 (by decide) (by first | omega | (simp [hs_at] <;> omega)) (fun c73 => by omega) (fun c73 => ?_)
                      refine m_aload_n hC 14 dL_arePredictionsRight_335 rfl rfl ?_
                      refine m_qV hC (Q_doneTotal hF hl hX hG3.2.1 (nN _ hG3) hB3) dL_arePredictionsRight_336 kc_X9_doneTotal kV_L_144 hG3.2.1 rfl rfl rfl rfl (Nat.le_of_ble_eq_true rfl) ⟨Nat.le_of_ble_eq_true rfl, Nat.le_of_ble_eq_true rfl⟩ ⟨by show _ ≤ 16000; omega, by show _ ≤ 33000; omega⟩ ?_
                      refine m_iload hC 3 dL_arePredictionsRight_339 rfl ?_
                      refine m_iload hC 1 dL_arePredictionsRight_341 rfl ?_
                      refine m_iadd hC dL_arePredictionsRight_343 ?_
                      refine m_icmp_ne (tgt := 360) hC dL_arePredictionsRight_344 (by decide) (by first | omega | (simp [hs_at] <;> omega)) (fun c74 => by omega) (fun c74 => ?_)
                      refine m_aload_n hC 14 dL_arePredictionsRight_347 rfl rfl ?_
                      refine m_qV hC (Q_chest hF hl hX hG3.2.1 (nN _ hG3) hB3) dL_arePredictionsRight_348 kc_X9_chest kV_L_141 hG3.2.1 rfl rfl rfl rfl (Nat.le_of_ble_eq_true rfl) ⟨Nat.le_of_ble_eq_true rfl, Nat.le_of_ble_eq_true rfl⟩ ⟨by show _ ≤ 16000; omega, by show _ ≤ 33000; omega⟩ ?_
                      refine m_iload hC 9 dL_arePredictionsRight_351 rfl ?_
                      refine m_icmp_ne (tgt := 360) hC dL_arePredictionsRight_353 (by decide) (by first | omega | (simp [hs_at] <;> omega)) (fun c75 => by omega) (fun c75 => ?_)
                      refine m_iconst hC dL_arePredictionsRight_356 ?_
                      refine m_goto (tgt := 361) hC dL_arePredictionsRight_357 (by decide) ?_
                      refine m_istore hC dL_arePredictionsRight_361 (by decide) rfl ?_
                      refine m_iconst hC dL_arePredictionsRight_363 ?_
                      refine m_istore hC dL_arePredictionsRight_364 (by decide) rfl ?_
                      have L4 : ∀ (n4 : Nat) (k : Int), W.1 0 9 - k < (n4 : Int) → 0 ≤ k → k ≤ W.1 0 9 → m_W D aC s0 16 p l e (m_R 16 (16000) (33000)) s m args below meth c (c7) (s7) (m_Q D aC s0 below (fun v M' => v = some (VI 1) ∧ ∃ W' : gW, gIn s0.heap.size fo x w W' M' ∧ lI (K + 5300) W') m_nx args s (16000) (33000)) 366 [(14, VI k), (9, VI 1), (8, .ref a8), (7, .ref a7), (6, .ref a6), (5, VI (S_nights W.1 N.toNat 0 1)), (4, VI (W.1 0 11)), (3, VI (W.1 0 9)), (2, VI (S_looks W.1)), (1, VI N), (0, .ref x)] [] M3 := by
                        intro n4
                        induction n4 with
                        | zero =>
                          intro k hm g0 g1
                          omega
                        | succ n4 ih4 =>
                          intro k hm g0 g1
                          refine m_iload hC 0 dL_arePredictionsRight_366 rfl ?_
                          refine m_iload_n hC 7 dL_arePredictionsRight_368 rfl rfl ?_
                          refine m_icmp_ge (tgt := 404) hC dL_arePredictionsRight_369 (by decide) (by first | omega | (simp [hs_at] <;> omega)) (fun c76 => ?_) (fun c76 => ?_)
                          · refine m_aload_n hC 10 dL_arePredictionsRight_404 rfl rfl ?_
                            refine m_callV hC (cU.in_ (W3 := wRes (kW (S_pass W.1 N) (wSave W))) (z := W.1 0 11) (C_restore hF hl hJ hX hG3 hI3 (by omega)) (G_if.t hk3.2.2) (if_pos (congrArg Prod.fst (G_if.t hk3.2.2)))) dL_arePredictionsRight_405 kc_X9_restore kV_L_286 hG3.2.1 rfl rfl rfl rfl (Nat.le_of_ble_eq_true rfl) ⟨Nat.le_of_ble_eq_true rfl, Nat.le_of_ble_eq_true rfl⟩ ⟨by show _ ≤ 16000; omega, by show _ ≤ 33000; omega⟩ m_nox (fun v9 M77 h9 => ?_)
                            obtain ⟨rfl, hG78, hf79⟩ := h9
                            have A80 := (hf79.2 a6 (Or.inr (by omega))).trans B6
                            have A81 := (hf79.2 a7 (Or.inr (by omega))).trans B7
                            have A82 := (hf79.2 a8 (Or.inr (by omega))).trans B8
                            have hz83 := hf79.1
                            refine m_istore hC dL_arePredictionsRight_408 (by decide) rfl ?_
                            refine m_iload hC 2 dL_arePredictionsRight_410 rfl ?_
                            refine m_if_eq (tgt := 427) hC dL_arePredictionsRight_412 (by decide) (by omega) (fun c84 => by omega) (fun c84 => ?_)
                            refine m_aload_n hC 11 dL_arePredictionsRight_415 rfl rfl ?_
                            refine m_qS hC (t_L_looks hF hl hX hG78.2.1 (show hhR (x + 1) W.1 M77 from hG78.2.2.1) hB hx) dL_arePredictionsRight_416 kc_L_looks kS_L_279 rfl rfl (Nat.le_of_ble_eq_true rfl) ⟨Nat.le_of_ble_eq_true rfl, Nat.le_of_ble_eq_true rfl⟩ ⟨by show _ ≤ 16000; omega, by show _ ≤ 33000; omega⟩ ?_
                            refine m_iload_n hC 9 dL_arePredictionsRight_419 rfl rfl ?_
                            refine m_icne_same (tgt := 427) hC dL_arePredictionsRight_420 (by decide) ?_
                            refine m_iconst hC dL_arePredictionsRight_423 ?_
                            refine m_goto (tgt := 428) hC dL_arePredictionsRight_424 (by decide) ?_
                            exact m_zret hC dL_arePredictionsRight_428 hr (by rfl) (by omega) (by omega) (⟨rfl, _, hG78, hI3.res hk3.2.2⟩)
                          · refine m_iload hC 1 dL_arePredictionsRight_372 rfl ?_
                            refine m_if_eq (tgt := 395) hC dL_arePredictionsRight_374 (by decide) (by omega) (fun c85 => by omega) (fun c85 => ?_)
                            have e6 := hf6 k g0 (by omega)
                            have hg3 := hB3.go (i := k) (by omega)
                            refine m_aload_n hC 10 dL_arePredictionsRight_377 rfl rfl ?_
                            refine m_iload hC 0 dL_arePredictionsRight_378 rfl ?_
                            refine m_qV hC (Q_debt hF hl hX hG3.2.1 (nN _ hG3) hB3 (by omega)) dL_arePredictionsRight_380 kc_X9_debt kV_L_176 hG3.2.1 rfl rfl rfl rfl (Nat.le_of_ble_eq_true rfl) ⟨Nat.le_of_ble_eq_true rfl, Nat.le_of_ble_eq_true rfl⟩ ⟨by show _ ≤ 16000; omega, by show _ ≤ 33000; omega⟩ ?_
                            refine m_aload hC 4 dL_arePredictionsRight_383 rfl ?_
                            refine m_iload hC 0 dL_arePredictionsRight_385 rfl ?_
                            refine m_iald hC dL_arePredictionsRight_387 B6 (by omega) (by first | omega | (simp [hs_at] <;> omega)) ?_
                            refine m_icmp_ne (tgt := 395) hC dL_arePredictionsRight_388 (by decide) (by first | omega | (simp [hs_at] <;> omega)) (fun c86 => by omega) (fun c86 => ?_)
                            refine m_iconst hC dL_arePredictionsRight_391 ?_
                            refine m_goto (tgt := 396) hC dL_arePredictionsRight_392 (by decide) ?_
                            refine m_istore hC dL_arePredictionsRight_396 (by decide) rfl ?_
                            refine m_iinc hC 1 dL_arePredictionsRight_398 rfl (by decide) rfl ?_
                            refine m_goto (tgt := 366) hC dL_arePredictionsRight_401 (by decide) ?_
                            refine m_lvs [0, 1, 2, 3, 4, 5, 6, 7, 8, 9, 10] rfl (ih4 (k + 1) (by omega) (by omega) (by omega))
                      refine m_lvs [0, 1, 6, 7, 8, 9, 10, 11, 12, 13, 14] rfl (L4 6 0 (by omega) (by omega) (by omega))
                    · have hi9 : 0 ≤ i ∧ i < W.1 0 11 := by omega
                      have e8 := hf8 i h0 (by omega)
                      have e7 := hf7 i h0 (by omega)
                      have hrt := nTo_rg hx hi9
                      have hco := hB.co (i := i) hi9
                      have hzz := hG3.1
                      refine m_aload hC 6 dL_arePredictionsRight_224 rfl ?_
                      refine m_iload hC 0 dL_arePredictionsRight_226 rfl ?_
                      refine m_iald hC dL_arePredictionsRight_228 B8 (by omega) (by first | omega | (simp [hs_at] <;> omega)) ?_
                      refine m_if_le (tgt := 245) hC dL_arePredictionsRight_229 (by decide) (by first | omega | (simp [hs_at] <;> omega)) (fun c87 => ?_) (fun c87 => ?_)
                      · refine m_iconst hC dL_arePredictionsRight_245 ?_
                        refine m_istore hC dL_arePredictionsRight_246 (by decide) rfl ?_
                        refine m_iload hC 2 dL_arePredictionsRight_248 rfl ?_
                        refine m_iload hC 0 dL_arePredictionsRight_250 rfl ?_
                        refine m_qS hC (t_L_told hF hl (by omega)) dL_arePredictionsRight_252 kc_L_told kS_L_166 rfl rfl (Nat.le_of_ble_eq_true rfl) ⟨Nat.le_of_ble_eq_true rfl, Nat.le_of_ble_eq_true rfl⟩ ⟨by show _ ≤ 16000; omega, by show _ ≤ 33000; omega⟩ ?_
                        refine m_iadd hC dL_arePredictionsRight_255 ?_
                        refine m_istore hC dL_arePredictionsRight_256 (by decide) rfl ?_
                        refine m_iload hC 6 dL_arePredictionsRight_258 rfl ?_
                        refine m_if_eq (tgt := 314) hC dL_arePredictionsRight_260 (by decide) (by omega) (fun c88 => by omega) (fun c88 => ?_)
                        refine m_iload hC 1 dL_arePredictionsRight_263 rfl ?_
                        refine m_if_eq (tgt := 286) hC dL_arePredictionsRight_265 (by decide) (by omega) (fun c89 => ?_) (fun c89 => by omega)
                        refine m_aload hC 7 dL_arePredictionsRight_286 rfl ?_
                        refine m_iload hC 2 dL_arePredictionsRight_288 rfl ?_
                        refine m_iald hC dL_arePredictionsRight_290 B8 (by omega) (by first | omega | (simp [hs_at] <;> omega)) ?_
                        refine m_iload_n hC 14 dL_arePredictionsRight_291 rfl rfl ?_
                        refine m_icmp_le (tgt := 310) hC dL_arePredictionsRight_292 (by decide) (by first | omega | (simp [hs_at] <;> omega)) (fun c90 => ?_) (fun c90 => ?_)
                        · refine m_iconst hC dL_arePredictionsRight_310 ?_
                          refine m_goto (tgt := 315) hC dL_arePredictionsRight_311 (by decide) ?_
                          refine m_istore hC dL_arePredictionsRight_315 (by decide) rfl ?_
                          refine m_iinc hC 3 dL_arePredictionsRight_317 rfl (by decide) rfl ?_
                          refine m_goto (tgt := 217) hC dL_arePredictionsRight_320 (by decide) ?_
                          refine m_lvs [0, 2, 4, 5, 6, 1, 7, 8, 9, 10, 11, 12, 13, 14, 15] rfl (ih (i + 1) _ _ _ M3 (by omega) (by omega) (by omega) hG3 B6 B7 B8 (by rw [h_sum_succ _ h0, hdue]; unfold nF; first | rw [if_pos hin] | rw [if_neg (nTo_out hI.1 hi9 hNn (by omega))]) (by omega) (by omega) (by omega))
                        · have hlt := nTo_late hI.1 hi9 hNn (by omega)
                          have hpr := S_pos_rg (g := S_nights W.1 N.toNat) (W.1 9 i) (by have := hB3.n11; omega)
                          have hc3 := hB3.co (i := S_pos (S_nights W.1 N.toNat) (W.1 9 i)) (by omega)
                          refine m_aload_n hC 15 dL_arePredictionsRight_295 rfl rfl ?_
                          refine m_bipush hC dL_arePredictionsRight_296 (by decide) ?_
                          refine m_aload hC 8 dL_arePredictionsRight_298 rfl ?_
                          refine m_iload hC 2 dL_arePredictionsRight_300 rfl ?_
                          refine m_iald hC dL_arePredictionsRight_302 B7 (by omega) (by first | omega | (simp [hs_at] <;> omega)) ?_
                          refine m_iconst hC dL_arePredictionsRight_303 ?_
                          refine m_callSW hC (a_wage hF hl hJ hX hN hG3 hI3 (by omega) ⟨by omega, by omega⟩ (G_if.t (by rw [e3, e7]; exact hlt)) (z := (S_nights W.1 N.toNat) 12 (S_pos (S_nights W.1 N.toNat) (W.1 9 i))) (by rw [e3, e7]; exact ansC_0 rfl)) dL_arePredictionsRight_304 kw_L_ask kS_L_194 rfl rfl (Nat.le_of_ble_eq_true rfl) ⟨Nat.le_of_ble_eq_true rfl, Nat.le_of_ble_eq_true rfl⟩ ⟨by show _ ≤ 16000; omega, by show _ ≤ 33000; omega⟩ (fun v9 M91 h9 => ?_)
                          obtain ⟨rfl, hG92, hf93⟩ := h9
                          have A94 := (hf93.2 a6 (Or.inr (by omega))).trans B6
                          have A95 := (hf93.2 a7 (Or.inr (by omega))).trans B7
                          have A96 := (hf93.2 a8 (Or.inr (by omega))).trans B8
                          have hz97 := hf93.1
                          refine m_if_lt (tgt := 314) hC dL_arePredictionsRight_307 (by decide) (by first | omega | (simp [hs_at] <;> omega)) (fun c98 => by omega) (fun c98 => ?_)
                          refine m_iconst hC dL_arePredictionsRight_310 ?_
                          refine m_goto (tgt := 315) hC dL_arePredictionsRight_311 (by decide) ?_
                          refine m_istore hC dL_arePredictionsRight_315 (by decide) rfl ?_
                          refine m_iinc hC 3 dL_arePredictionsRight_317 rfl (by decide) rfl ?_
                          refine m_goto (tgt := 217) hC dL_arePredictionsRight_320 (by decide) ?_
                          refine m_lvs [0, 2, 4, 5, 6, 1, 7, 8, 9, 10, 11, 12, 13, 14, 15] rfl (ih (i + 1) _ _ _ M91 (by omega) (by omega) (by omega) hG92 A94 A95 A96 (by rw [h_sum_succ _ h0, hdue]; unfold nF; first | rw [if_pos hin] | rw [if_neg (nTo_out hI.1 hi9 hNn (by omega))]) (by omega) (by omega) (by omega))
                      · refine m_aload hC 6 dL_arePredictionsRight_232 rfl ?_
                        refine m_iload hC 0 dL_arePredictionsRight_234 rfl ?_
                        refine m_iald hC dL_arePredictionsRight_236 B8 (by omega) (by first | omega | (simp [hs_at] <;> omega)) ?_
                        refine m_iload_n hC 13 dL_arePredictionsRight_237 rfl rfl ?_
                        refine m_icmp_gt (tgt := 245) hC dL_arePredictionsRight_238 (by decide) (by first | omega | (simp [hs_at] <;> omega)) (fun c99 => ?_) (fun c99 => ?_)
                        · refine m_iconst hC dL_arePredictionsRight_245 ?_
                          refine m_istore hC dL_arePredictionsRight_246 (by decide) rfl ?_
                          refine m_iload hC 2 dL_arePredictionsRight_248 rfl ?_
                          refine m_iload hC 0 dL_arePredictionsRight_250 rfl ?_
                          refine m_qS hC (t_L_told hF hl (by omega)) dL_arePredictionsRight_252 kc_L_told kS_L_166 rfl rfl (Nat.le_of_ble_eq_true rfl) ⟨Nat.le_of_ble_eq_true rfl, Nat.le_of_ble_eq_true rfl⟩ ⟨by show _ ≤ 16000; omega, by show _ ≤ 33000; omega⟩ ?_
                          refine m_iadd hC dL_arePredictionsRight_255 ?_
                          refine m_istore hC dL_arePredictionsRight_256 (by decide) rfl ?_
                          refine m_iload hC 6 dL_arePredictionsRight_258 rfl ?_
                          refine m_if_eq (tgt := 314) hC dL_arePredictionsRight_260 (by decide) (by omega) (fun c100 => by omega) (fun c100 => ?_)
                          refine m_iload hC 1 dL_arePredictionsRight_263 rfl ?_
                          refine m_if_eq (tgt := 286) hC dL_arePredictionsRight_265 (by decide) (by omega) (fun c101 => ?_) (fun c101 => by omega)
                          refine m_aload hC 7 dL_arePredictionsRight_286 rfl ?_
                          refine m_iload hC 2 dL_arePredictionsRight_288 rfl ?_
                          refine m_iald hC dL_arePredictionsRight_290 B8 (by omega) (by first | omega | (simp [hs_at] <;> omega)) ?_
                          refine m_iload_n hC 14 dL_arePredictionsRight_291 rfl rfl ?_
                          refine m_icmp_le (tgt := 310) hC dL_arePredictionsRight_292 (by decide) (by first | omega | (simp [hs_at] <;> omega)) (fun c102 => ?_) (fun c102 => ?_)
                          · refine m_iconst hC dL_arePredictionsRight_310 ?_
                            refine m_goto (tgt := 315) hC dL_arePredictionsRight_311 (by decide) ?_
                            refine m_istore hC dL_arePredictionsRight_315 (by decide) rfl ?_
                            refine m_iinc hC 3 dL_arePredictionsRight_317 rfl (by decide) rfl ?_
                            refine m_goto (tgt := 217) hC dL_arePredictionsRight_320 (by decide) ?_
                            refine m_lvs [0, 2, 4, 5, 6, 1, 7, 8, 9, 10, 11, 12, 13, 14, 15] rfl (ih (i + 1) _ _ _ M3 (by omega) (by omega) (by omega) hG3 B6 B7 B8 (by rw [h_sum_succ _ h0, hdue]; unfold nF; first | rw [if_pos hin] | rw [if_neg (nTo_out hI.1 hi9 hNn (by omega))]) (by omega) (by omega) (by omega))
                          · have hlt := nTo_late hI.1 hi9 hNn (by omega)
                            have hpr := S_pos_rg (g := S_nights W.1 N.toNat) (W.1 9 i) (by have := hB3.n11; omega)
                            have hc3 := hB3.co (i := S_pos (S_nights W.1 N.toNat) (W.1 9 i)) (by omega)
                            refine m_aload_n hC 15 dL_arePredictionsRight_295 rfl rfl ?_
                            refine m_bipush hC dL_arePredictionsRight_296 (by decide) ?_
                            refine m_aload hC 8 dL_arePredictionsRight_298 rfl ?_
                            refine m_iload hC 2 dL_arePredictionsRight_300 rfl ?_
                            refine m_iald hC dL_arePredictionsRight_302 B7 (by omega) (by first | omega | (simp [hs_at] <;> omega)) ?_
                            refine m_iconst hC dL_arePredictionsRight_303 ?_
                            refine m_callSW hC (a_wage hF hl hJ hX hN hG3 hI3 (by omega) ⟨by omega, by omega⟩ (G_if.t (by rw [e3, e7]; exact hlt)) (z := (S_nights W.1 N.toNat) 12 (S_pos (S_nights W.1 N.toNat) (W.1 9 i))) (by rw [e3, e7]; exact ansC_0 rfl)) dL_arePredictionsRight_304 kw_L_ask kS_L_194 rfl rfl (Nat.le_of_ble_eq_true rfl) ⟨Nat.le_of_ble_eq_true rfl, Nat.le_of_ble_eq_true rfl⟩ ⟨by show _ ≤ 16000; omega, by show _ ≤ 33000; omega⟩ (fun v9 M103 h9 => ?_)
                            obtain ⟨rfl, hG104, hf105⟩ := h9
                            have A106 := (hf105.2 a6 (Or.inr (by omega))).trans B6
                            have A107 := (hf105.2 a7 (Or.inr (by omega))).trans B7
                            have A108 := (hf105.2 a8 (Or.inr (by omega))).trans B8
                            have hz109 := hf105.1
                            refine m_if_lt (tgt := 314) hC dL_arePredictionsRight_307 (by decide) (by first | omega | (simp [hs_at] <;> omega)) (fun c110 => by omega) (fun c110 => ?_)
                            refine m_iconst hC dL_arePredictionsRight_310 ?_
                            refine m_goto (tgt := 315) hC dL_arePredictionsRight_311 (by decide) ?_
                            refine m_istore hC dL_arePredictionsRight_315 (by decide) rfl ?_
                            refine m_iinc hC 3 dL_arePredictionsRight_317 rfl (by decide) rfl ?_
                            refine m_goto (tgt := 217) hC dL_arePredictionsRight_320 (by decide) ?_
                            refine m_lvs [0, 2, 4, 5, 6, 1, 7, 8, 9, 10, 11, 12, 13, 14, 15] rfl (ih (i + 1) _ _ _ M103 (by omega) (by omega) (by omega) hG104 A106 A107 A108 (by rw [h_sum_succ _ h0, hdue]; unfold nF; first | rw [if_pos hin] | rw [if_neg (nTo_out hI.1 hi9 hNn (by omega))]) (by omega) (by omega) (by omega))
                        · have hin := nTo_in hI.1 hi9 hNn (by omega)
                          refine m_iconst hC dL_arePredictionsRight_241 ?_
                          refine m_goto (tgt := 246) hC dL_arePredictionsRight_242 (by decide) ?_
                          refine m_istore hC dL_arePredictionsRight_246 (by decide) rfl ?_
                          refine m_iload hC 2 dL_arePredictionsRight_248 rfl ?_
                          refine m_iload hC 0 dL_arePredictionsRight_250 rfl ?_
                          refine m_qS hC (t_L_told hF hl (by omega)) dL_arePredictionsRight_252 kc_L_told kS_L_166 rfl rfl (Nat.le_of_ble_eq_true rfl) ⟨Nat.le_of_ble_eq_true rfl, Nat.le_of_ble_eq_true rfl⟩ ⟨by show _ ≤ 16000; omega, by show _ ≤ 33000; omega⟩ ?_
                          refine m_iadd hC dL_arePredictionsRight_255 ?_
                          refine m_istore hC dL_arePredictionsRight_256 (by decide) rfl ?_
                          refine m_iload hC 6 dL_arePredictionsRight_258 rfl ?_
                          refine m_if_eq (tgt := 314) hC dL_arePredictionsRight_260 (by decide) (by omega) (fun c111 => by omega) (fun c111 => ?_)
                          refine m_iload hC 1 dL_arePredictionsRight_263 rfl ?_
                          refine m_if_eq (tgt := 286) hC dL_arePredictionsRight_265 (by decide) (by omega) (fun c112 => by omega) (fun c112 => ?_)
                          refine m_aload_n hC 15 dL_arePredictionsRight_268 rfl rfl ?_
                          refine m_bipush hC dL_arePredictionsRight_269 (by decide) ?_
                          refine m_aload hC 8 dL_arePredictionsRight_271 rfl ?_
                          refine m_iload hC 2 dL_arePredictionsRight_273 rfl ?_
                          refine m_iald hC dL_arePredictionsRight_275 B7 (by omega) (by first | omega | (simp [hs_at] <;> omega)) ?_
                          refine m_iconst hC dL_arePredictionsRight_276 ?_
                          refine m_callSW hC (a_wage hF hl hJ hX hN hG3 hI3 (by omega) ⟨by omega, by omega⟩ (G_if.f (by rw [e3, e7]; exact fun z => z hin.2)) (z := (-20004 : Int)) (by decide +kernel)) dL_arePredictionsRight_277 kw_L_ask kS_L_194 rfl rfl (Nat.le_of_ble_eq_true rfl) ⟨Nat.le_of_ble_eq_true rfl, Nat.le_of_ble_eq_true rfl⟩ ⟨by show _ ≤ 16000; omega, by show _ ≤ 33000; omega⟩ (fun v9 M113 h9 => ?_)
                          obtain ⟨rfl, hG114, hf115⟩ := h9
                          have A116 := (hf115.2 a6 (Or.inr (by omega))).trans B6
                          have A117 := (hf115.2 a7 (Or.inr (by omega))).trans B7
                          have A118 := (hf115.2 a8 (Or.inr (by omega))).trans B8
                          have hz119 := hf115.1
                          refine m_sipush hC dL_arePredictionsRight_280 (by decide) ?_
                          refine m_icmp_ne (tgt := 314) hC dL_arePredictionsRight_283 (by decide) (by first | omega | (simp [hs_at] <;> omega)) (fun c120 => by omega) (fun c120 => ?_)
                          refine m_aload hC 7 dL_arePredictionsRight_286 rfl ?_
                          refine m_iload hC 2 dL_arePredictionsRight_288 rfl ?_
                          refine m_iald hC dL_arePredictionsRight_290 A118 (by omega) (by first | omega | (simp [hs_at] <;> omega)) ?_
                          refine m_iload_n hC 14 dL_arePredictionsRight_291 rfl rfl ?_
                          refine m_icmp_le (tgt := 310) hC dL_arePredictionsRight_292 (by decide) (by first | omega | (simp [hs_at] <;> omega)) (fun c121 => ?_) (fun c121 => ?_)
                          · refine m_iconst hC dL_arePredictionsRight_310 ?_
                            refine m_goto (tgt := 315) hC dL_arePredictionsRight_311 (by decide) ?_
                            refine m_istore hC dL_arePredictionsRight_315 (by decide) rfl ?_
                            refine m_iinc hC 3 dL_arePredictionsRight_317 rfl (by decide) rfl ?_
                            refine m_goto (tgt := 217) hC dL_arePredictionsRight_320 (by decide) ?_
                            refine m_lvs [0, 2, 4, 5, 6, 1, 7, 8, 9, 10, 11, 12, 13, 14, 15] rfl (ih (i + 1) _ _ _ M113 (by omega) (by omega) (by omega) hG114 A116 A117 A118 (by rw [h_sum_succ _ h0, hdue]; unfold nF; first | rw [if_pos hin] | rw [if_neg (nTo_out hI.1 hi9 hNn (by omega))]) (by omega) (by omega) (by omega))
                          · have hlt := nTo_late hI.1 hi9 hNn (by omega)
                            have hpr := S_pos_rg (g := S_nights W.1 N.toNat) (W.1 9 i) (by have := hB3.n11; omega)
                            have hc3 := hB3.co (i := S_pos (S_nights W.1 N.toNat) (W.1 9 i)) (by omega)
                            refine m_aload_n hC 15 dL_arePredictionsRight_295 rfl rfl ?_
                            refine m_bipush hC dL_arePredictionsRight_296 (by decide) ?_
                            refine m_aload hC 8 dL_arePredictionsRight_298 rfl ?_
                            refine m_iload hC 2 dL_arePredictionsRight_300 rfl ?_
                            refine m_iald hC dL_arePredictionsRight_302 A117 (by omega) (by first | omega | (simp [hs_at] <;> omega)) ?_
                            refine m_iconst hC dL_arePredictionsRight_303 ?_
                            refine m_callSW hC (a_wage hF hl hJ hX hN hG114 hI3 (by omega) ⟨by omega, by omega⟩ (G_if.t (by rw [e3, e7]; exact hlt)) (z := (S_nights W.1 N.toNat) 12 (S_pos (S_nights W.1 N.toNat) (W.1 9 i))) (by rw [e3, e7]; exact ansC_0 rfl)) dL_arePredictionsRight_304 kw_L_ask kS_L_194 rfl rfl (Nat.le_of_ble_eq_true rfl) ⟨Nat.le_of_ble_eq_true rfl, Nat.le_of_ble_eq_true rfl⟩ ⟨by show _ ≤ 16000; omega, by show _ ≤ 33000; omega⟩ (fun v9 M122 h9 => ?_)
                            obtain ⟨rfl, hG123, hf124⟩ := h9
                            have A125 := (hf124.2 a6 (Or.inr (by omega))).trans A116
                            have A126 := (hf124.2 a7 (Or.inr (by omega))).trans A117
                            have A127 := (hf124.2 a8 (Or.inr (by omega))).trans A118
                            have hz128 := hf124.1
                            refine m_if_lt (tgt := 314) hC dL_arePredictionsRight_307 (by decide) (by first | omega | (simp [hs_at] <;> omega)) (fun c129 => by omega) (fun c129 => ?_)
                            refine m_iconst hC dL_arePredictionsRight_310 ?_
                            refine m_goto (tgt := 315) hC dL_arePredictionsRight_311 (by decide) ?_
                            refine m_istore hC dL_arePredictionsRight_315 (by decide) rfl ?_
                            refine m_iinc hC 3 dL_arePredictionsRight_317 rfl (by decide) rfl ?_
                            refine m_goto (tgt := 217) hC dL_arePredictionsRight_320 (by decide) ?_
                            refine m_lvs [0, 2, 4, 5, 6, 1, 7, 8, 9, 10, 11, 12, 13, 14, 15] rfl (ih (i + 1) _ _ _ M122 (by omega) (by omega) (by omega) hG123 A125 A126 A127 (by rw [h_sum_succ _ h0, hdue]; unfold nF; first | rw [if_pos hin] | rw [if_neg (nTo_out hI.1 hi9 hNn (by omega))]) (by omega) (by omega) (by omega))
                refine m_lvs [0, 1, 2, 3, 4, 5, 6, 7, 8, 9, 10, 11, 12, 13, 14] rfl (L3 9 0 0 _ _ M64 (by omega) (by omega) (by omega) hG65 A67 A68 A69 rfl (by omega) (by omega) (by omega))
              · have hco := hB.co (i := i) (by omega)
                have hzz := hG2.1
                refine m_aload hC 3 dL_arePredictionsRight_158 rfl ?_
                refine m_iload hC 0 dL_arePredictionsRight_160 rfl ?_
                refine m_aload_n hC 10 dL_arePredictionsRight_162 rfl rfl ?_
                refine m_iload hC 0 dL_arePredictionsRight_163 rfl ?_
                refine m_qV hC (Q_contractAt hF hl hX hG2.2.1 hG2.2.2.1 hB (by omega)) dL_arePredictionsRight_165 kc_X9_contractAt kV_L_89 hG2.2.1 rfl rfl rfl rfl (Nat.le_of_ble_eq_true rfl) ⟨Nat.le_of_ble_eq_true rfl, Nat.le_of_ble_eq_true rfl⟩ ⟨by show _ ≤ 16000; omega, by show _ ≤ 33000; omega⟩ ?_
                refine m_gst hC dL_arePredictionsRight_168 B7 (by omega) (by omega) (by omega) (fun M130 A131 hf132 => ?_)
                have hG133 := hG2.wr B7 (by omega) hf132
                have A134 := (hf132.2 a6 (by omega)).trans B6
                have A135 := (hf132.2 a8 (by omega)).trans B8
                have hz136 := hf132.1
                refine m_aload hC 2 dL_arePredictionsRight_169 rfl ?_
                refine m_iload hC 0 dL_arePredictionsRight_171 rfl ?_
                refine m_aload_n hC 10 dL_arePredictionsRight_173 rfl rfl ?_
                refine m_bipush hC dL_arePredictionsRight_174 (by decide) ?_
                refine m_aload hC 3 dL_arePredictionsRight_176 rfl ?_
                refine m_iload hC 0 dL_arePredictionsRight_178 rfl ?_
                refine m_iald hC dL_arePredictionsRight_180 A131 (by omega) (by first | omega | (simp [hs_at] <;> omega)) ?_
                rw [ug_s]
                refine m_iconst hC dL_arePredictionsRight_181 ?_
                refine m_callSW hC (a_nightsUntilDone hF hl hJ hX hN hG133 hI (by omega) ⟨by omega, by omega⟩ rfl (z := nTo W.1 i) rfl) dL_arePredictionsRight_182 kw_L_ask kS_L_194 rfl rfl (Nat.le_of_ble_eq_true rfl) ⟨Nat.le_of_ble_eq_true rfl, Nat.le_of_ble_eq_true rfl⟩ ⟨by show _ ≤ 16000; omega, by show _ ≤ 33000; omega⟩ (fun v9 M137 h9 => ?_)
                obtain ⟨rfl, hG138, hf139⟩ := h9
                have A140 := (hf139.2 a6 (Or.inr (by omega))).trans A134
                have A141 := (hf139.2 a7 (Or.inr (by omega))).trans A131
                have A142 := (hf139.2 a8 (Or.inr (by omega))).trans A135
                have hz143 := hf139.1
                refine m_gst hC dL_arePredictionsRight_185 A142 (by omega) (by omega) (by omega) (fun M144 A145 hf146 => ?_)
                have hG147 := hG138.wr A142 (by omega) hf146
                have A148 := (hf146.2 a6 (by omega)).trans A140
                have A149 := (hf146.2 a7 (by omega)).trans A141
                have hz150 := hf146.1
                refine m_iinc hC 0 dL_arePredictionsRight_186 rfl (by decide) rfl ?_
                refine m_goto (tgt := 151) hC dL_arePredictionsRight_189 (by decide) ?_
                refine m_lvs [0, 1, 2, 3, 4, 5, 6, 7, 8, 9, 10] rfl (ih (i + 1) _ _ _ _ M144 (by omega) (by omega) (by omega) hG147 A148 A149 A145 (fun j a b => by by_cases q : j = i; (rw [q]; exact ug_s); (rw [ug_n q]; exact hf7 j a (by omega))) (fun j a b => by by_cases q : j = i; (rw [q]; exact ug_s); (rw [ug_n q]; exact hf8 j a (by omega))) (by omega) (by omega))
          refine m_lvs [0, 1, 2, 3, 4, 5, 6, 7, 8, 9, 10] rfl (L2 9 0 _ _ _ _ M1 (by omega) (by omega) (by omega) hG1 B6 B7 B8 (fun j a b => by omega) (fun j a b => by omega) (by omega) (by omega))
        · have hgo := hB.go (i := i) (by omega)
          have hzz := hG1.1
          refine m_aload hC 4 dL_arePredictionsRight_130 rfl ?_
          refine m_iload hC 0 dL_arePredictionsRight_132 rfl ?_
          refine m_aload_n hC 10 dL_arePredictionsRight_134 rfl rfl ?_
          refine m_iload hC 0 dL_arePredictionsRight_135 rfl ?_
          refine m_iload_n hC 9 dL_arePredictionsRight_137 rfl rfl ?_
          refine m_callV hC (cU.in_ (z := S_nights W.1 N.toNat 6 i) (C_debtAfter hF hl hJ hX hG1 hI (by omega) (y1 := i) (y2 := N) (by omega) (by omega)) ((if_neg (by omega)).trans (if_neg (by omega))) rfl) dL_arePredictionsRight_138 kc_X9_debtAfter kV_L_101 hG1.2.1 rfl rfl rfl rfl (Nat.le_of_ble_eq_true rfl) ⟨Nat.le_of_ble_eq_true rfl, Nat.le_of_ble_eq_true rfl⟩ ⟨by show _ ≤ 16000; omega, by show _ ≤ 33000; omega⟩ m_nox (fun v9 M151 h9 => ?_)
          obtain ⟨rfl, hG152, hf153⟩ := h9
          have A154 := (hf153.2 a6 (Or.inr (by omega))).trans B6
          have A155 := (hf153.2 a7 (Or.inr (by omega))).trans B7
          have A156 := (hf153.2 a8 (Or.inr (by omega))).trans B8
          have hz157 := hf153.1
          refine m_gst hC dL_arePredictionsRight_141 A154 (by omega) (by omega) (by omega) (fun M158 A159 hf160 => ?_)
          have hG161 := hG152.wr A154 (by omega) hf160
          have A162 := (hf160.2 a7 (by omega)).trans A155
          have A163 := (hf160.2 a8 (by omega)).trans A156
          have hz164 := hf160.1
          refine m_iinc hC 0 dL_arePredictionsRight_142 rfl (by decide) rfl ?_
          refine m_goto (tgt := 124) hC dL_arePredictionsRight_145 (by decide) ?_
          refine m_lvs [0, 1, 2, 3, 4, 5, 6, 7, 8, 9, 10] rfl (ih (i + 1) _ _ _ M158 (by omega) (by omega) (by omega) hG161 A159 A162 A163 (fun j a b => by by_cases q : j = i; (rw [q]; exact ug_s); (rw [ug_n q]; exact hf6 j a (by omega))) (by omega) (by omega))
    refine m_lvs [0, 1, 2, 3, 4, 5, 6, 7, 8, 9, 10] rfl (L1 6 0 _ _ _ M5 (by omega) (by omega) (by omega) hG5 B6 B7 B8 (fun j a b => by omega) (by omega) (by omega))
  refine m_iload_n hC 5 dL_arePredictionsRight_95 rfl rfl ?_
  refine m_if_eq (tgt := 114) hC dL_arePredictionsRight_96 (by decide) (by first | omega | (simp [hs_at] <;> omega)) (fun c165 => ?_) (fun c165 => ?_)
  · exact m_lvs [0, 1, 2, 3, 4, 5, 6, 8, 7] rfl (REST _ _ _ (by omega) (by omega) hG48 A50 A51 A52)
  · refine m_aload_n hC 7 dL_arePredictionsRight_99 rfl rfl ?_
    refine m_bipush hC dL_arePredictionsRight_100 (by decide) ?_
    refine m_iconst hC dL_arePredictionsRight_102 ?_
    refine m_bipush hC dL_arePredictionsRight_103 (by decide) ?_
    refine m_callSW hC (a_debtAfter hF hl hJ hX hN hG48 hI (by omega) ⟨by omega, by omega⟩ ⟨by omega, by omega⟩ ((if_neg (by omega)).trans (if_pos (by omega))) (z := (-20003 : Int)) (by decide +kernel)) dL_arePredictionsRight_105 kw_L_ask kS_L_194 rfl rfl (Nat.le_of_ble_eq_true rfl) ⟨Nat.le_of_ble_eq_true rfl, Nat.le_of_ble_eq_true rfl⟩ ⟨by show _ ≤ 16000; omega, by show _ ≤ 33000; omega⟩ (fun v9 M166 h9 => ?_)
    obtain ⟨rfl, hG167, hf168⟩ := h9
    have A169 := (hf168.2 a6 (Or.inr (by omega))).trans A50
    have A170 := (hf168.2 a7 (Or.inr (by omega))).trans A51
    have A171 := (hf168.2 a8 (Or.inr (by omega))).trans A52
    have hz172 := hf168.1
    refine m_sipush hC dL_arePredictionsRight_108 (by decide) ?_
    refine m_icmp_ne (tgt := 118) hC dL_arePredictionsRight_111 (by decide) (by first | omega | (simp [hs_at] <;> omega)) (fun c173 => by omega) (fun c173 => ?_)
    exact m_lvs [0, 1, 2, 3, 4, 5, 6, 8, 7] rfl (REST _ _ _ (by omega) (by omega) hG167 A169 A170 A171)

