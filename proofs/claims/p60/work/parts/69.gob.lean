theorem vn32_to {x : UInt32} (h : vf_n32 x) : x.toNat % 2147483648 ≤ 2139095040 := by
  have h1 : (x &&& 0x7fffffff).toNat ≤ (0x7f800000 : UInt32).toNat := UInt32.le_iff_toNat_le.mp h
  rw [UInt32.toNat_and] at h1
  have h2 : x.toNat &&& (0x7fffffff : UInt32).toNat = x.toNat % 2147483648 := Nat.and_two_pow_sub_one_eq_mod x.toNat 31
  rw [h2] at h1
  exact h1
theorem fcmp0 {x : UInt32} (h : vf_n32 x) (op : CmpOp) : Op.cmpValue (FP.fcmp x x) op = 0 := by
  have : FP.fcmp x x = some .eq := order_self (d32 (vn32_to h))
  rw [this]
  rfl
section m_GOB
variable {D : va_G} {aC : Nat → ClassId} {s0 : State} {own : String} {cc : ByteArray} {nL : Nat} {p : Program} {l : Launch} {e : Env} {R : Room} {s : State} {m : MethodId} {args : Array Value} {below : List Frame} {meth : Method} {c : Code} {cells slots : Nat} {Q : State → Prop} {pc : Nat} {lv : List (Nat × Value)} {st : List Value} {M : m_M}
theorem m_fcmp0 (C : m_C D aC s0 own cc nL l p s m args meth c) {x : UInt32} {op : CmpOp} (hd : decode cc pc = .ok (.fcmp op, 1)) (hn : vf_n32 x) (k : m_W D aC s0 nL p l e R s m args below meth c cells slots Q (pc + 1) lv (VI 0 :: st) M) : m_W D aC s0 nL p l e R s m args below meth c cells slots Q pc lv (.float x :: .float x :: st) M := fun H locs ls h1 h2 h3 => lv_fcmp C.1 C.2.1 hd (by rw [fcmp0 hn]; exact k H locs ls h1 h2 h3)
end m_GOB
theorem t_X9_consL {D : va_G} {aC : Nat → ClassId} {s0 : State} {l : Launch} (hF : m_F D aC s0) (hl : l.stackTraces = false) {x w : Nat} {g sg : h_T} {L : Nat → h_T} {q : Int → Int} {tx ot : List Int} {M : m_M} {K : Int} {fo : Nat → Nat} (hX : m_TH s0) (hG : ghP s0.heap.size fo x w g sg L q tx ot M) (hI : h_I K g) (hK : K ≤ 80000000) (hc : 0 ≤ q 0 ∧ q 0 ≤ 8) : m_Met D aC s0 l yX9_isConsistent cX9_isConsistent 2 (some .boolean) 12 (470) (940) [.ref x] M (fun v M' => v = some (VI 1) ∧ ghP s0.heap.size fo x w g sg L q tx ot M') m_nx :=
  m_Met.mono (t_X9_isConsistent hF hl hX hG hI hK hc) (fun v M' h => ⟨h.2.1, h.2.2.1⟩) (fun E M' h => h)
theorem t_X9_relL {D : va_G} {aC : Nat → ClassId} {s0 : State} {l : Launch} (hF : m_F D aC s0) (hl : l.stackTraces = false) {x : Nat} {q : Int → Int} {g : h_T} {M : m_M} (hX : m_TH s0) (hO : gO x q M) (hR : hhR (x + 1) g M) (hB : h_B g) (h0 : g 0 4 + g 0 5 ≠ 0) : m_Met D aC s0 l yX9_reliability cX9_reliability 2 (some .float) 6 (470) (940) [.ref x] M (qM (.float (S_rel g)) M) m_nx :=
  m_Met.mono (t_X9_reliability hF hl hX hO hR hB) (fun v M' h => ⟨h.2.1, h.2.2⟩) (fun E M' h => h0 h.1.1)

set_option maxHeartbeats 4000000 in
set_option maxRecDepth 100000 in
theorem t_L_areGoblinsRight {D : va_G} {aC : Nat → ClassId} {s0 : State} {l : Launch} (hF : m_F D aC s0) (hl : l.stackTraces = false) {fo ks vs : Nat → Nat} {fA sA dO dT : Nat} (hJ : m_J s0 fo ks vs fA sA dO dT) (hX : m_TH s0) (hN : m_NC s0) {x w : Nat} {W : gW} {M : m_M} {K : Int} (hG : gIn s0.heap.size fo x w W M) (hI : lI K W) (hK : K ≤ 70000000) (hJS : m_JS s0) {sa va : Nat → Nat} (hLS : m_LS s0 sa va) : m_Met D aC s0 l yL_areGoblinsRight cL_areGoblinsRight 9 (some .boolean) 30 (6000) (70000) [.ref x] M (fun v M' => v = some (VI 1) ∧ ∃ t : List Int, t.length ≤ 240 ∧ gIn s0.heap.size fo x w (wOt W t) M') m_nx := by
  refine m_entry (lv := [(0, .ref x)]) (by decide +kernel) (Nat.le_of_ble_eq_true rfl) rfl hF hl ?_
  intro p e s m args below meth c hC hr hno hnm
  change m_C D aC s0 RL _ _ _ _ _ _ _ _ _ at hC
  have hB := hI.B (by omega)
  have n8 := hB.n8
  have n9 := hB.n9
  have n11 := hB.n11
  have hx : nX W.1 := hI.1.2.2.2.1
  refine m_aload_n hC 0 dL_areGoblinsRight_0 rfl rfl ?_
  refine m_qV hC (Q_goblinCount hF hl hX hG.2.1 hG.2.2.1 hB) dL_areGoblinsRight_1 kc_X9_goblinCount kV_L_124 hG.2.1 rfl rfl rfl rfl (Nat.le_of_ble_eq_true rfl) ⟨Nat.le_of_ble_eq_true rfl, Nat.le_of_ble_eq_true rfl⟩ ⟨by show _ ≤ 6000; omega, by show _ ≤ 70000; omega⟩ ?_
  refine m_istore_n hC dL_areGoblinsRight_4 rfl (by decide) rfl ?_
  refine m_aload_n hC 1 dL_areGoblinsRight_5 rfl rfl ?_
  refine m_qV hC (Q_chest hF hl hX hG.2.1 hG.2.2.1 hB) dL_areGoblinsRight_6 kc_X9_chest kV_L_141 hG.2.1 rfl rfl rfl rfl (Nat.le_of_ble_eq_true rfl) ⟨Nat.le_of_ble_eq_true rfl, Nat.le_of_ble_eq_true rfl⟩ ⟨by show _ ≤ 6000; omega, by show _ ≤ 70000; omega⟩ ?_
  refine m_istore_n hC dL_areGoblinsRight_9 rfl (by decide) rfl ?_
  refine m_aload_n hC 2 dL_areGoblinsRight_10 rfl rfl ?_
  refine m_iconst hC dL_areGoblinsRight_11 ?_
  refine m_iload_n hC 1 dL_areGoblinsRight_12 rfl rfl ?_
  refine m_iconst hC dL_areGoblinsRight_13 ?_
  refine m_callSW hC (a_energy hF hl hJ hX hN hG hI (by omega) ⟨by omega, by omega⟩ (G_if.f (by omega)) (z := (-20002 : Int)) (by decide +kernel)) dL_areGoblinsRight_14 kw_L_ask kS_L_194 rfl rfl (Nat.le_of_ble_eq_true rfl) ⟨Nat.le_of_ble_eq_true rfl, Nat.le_of_ble_eq_true rfl⟩ ⟨by show _ ≤ 6000; omega, by show _ ≤ 70000; omega⟩ (fun v9 M1 h9 => ?_)
  obtain ⟨rfl, hG2, hf3⟩ := h9
  refine m_sipush hC dL_areGoblinsRight_17 (by decide) ?_
  refine m_icmp_ne (tgt := 66) hC dL_areGoblinsRight_20 (by decide) (by first | omega | (simp [hs_at] <;> omega)) (fun c4 => by omega) (fun c4 => ?_)
  refine m_aload_n hC 2 dL_areGoblinsRight_23 rfl rfl ?_
  refine m_iconst hC dL_areGoblinsRight_24 ?_
  refine m_iload_n hC 1 dL_areGoblinsRight_25 rfl rfl ?_
  refine m_iconst hC dL_areGoblinsRight_26 ?_
  refine m_callSW hC (a_goblinByWealth hF hl hJ hX hN hG2 hI (by omega) ⟨by omega, by omega⟩ (G_if.f (by have := S_gbw_no (g := W.1) (r := W.1 0 9) (by omega) (by omega); omega)) (z := (-20004 : Int)) (by decide +kernel)) dL_areGoblinsRight_27 kw_L_ask kS_L_194 rfl rfl (Nat.le_of_ble_eq_true rfl) ⟨Nat.le_of_ble_eq_true rfl, Nat.le_of_ble_eq_true rfl⟩ ⟨by show _ ≤ 6000; omega, by show _ ≤ 70000; omega⟩ (fun v9 M5 h9 => ?_)
  obtain ⟨rfl, hG6, hf7⟩ := h9
  refine m_sipush hC dL_areGoblinsRight_30 (by decide) ?_
  refine m_icmp_ne (tgt := 66) hC dL_areGoblinsRight_33 (by decide) (by first | omega | (simp [hs_at] <;> omega)) (fun c8 => by omega) (fun c8 => ?_)
  refine m_aload_n hC 2 dL_areGoblinsRight_36 rfl rfl ?_
  refine m_iconst hC dL_areGoblinsRight_37 ?_
  refine m_iconst hC dL_areGoblinsRight_38 ?_
  refine m_iconst hC dL_areGoblinsRight_39 ?_
  refine m_callSW hC (a_goblinByWealth hF hl hJ hX hN hG6 hI (by omega) ⟨by omega, by omega⟩ (G_if.f (by have := S_gbw_no (g := W.1) (r := -1) (by omega) (by omega); omega)) (z := (-20004 : Int)) (by decide +kernel)) dL_areGoblinsRight_40 kw_L_ask kS_L_194 rfl rfl (Nat.le_of_ble_eq_true rfl) ⟨Nat.le_of_ble_eq_true rfl, Nat.le_of_ble_eq_true rfl⟩ ⟨by show _ ≤ 6000; omega, by show _ ≤ 70000; omega⟩ (fun v9 M9 h9 => ?_)
  obtain ⟨rfl, hG10, hf11⟩ := h9
  refine m_sipush hC dL_areGoblinsRight_43 (by decide) ?_
  refine m_icmp_ne (tgt := 66) hC dL_areGoblinsRight_46 (by decide) (by first | omega | (simp [hs_at] <;> omega)) (fun c12 => by omega) (fun c12 => ?_)
  refine m_aload_n hC 2 dL_areGoblinsRight_49 rfl rfl ?_
  refine m_iconst hC dL_areGoblinsRight_50 ?_
  refine m_iload_n hC 1 dL_areGoblinsRight_51 rfl rfl ?_
  refine m_iconst hC dL_areGoblinsRight_52 ?_
  refine m_callSW hC (a_bestWages hF hl hJ hX hN hG10 hI (by omega) ⟨by omega, by omega⟩ (G_if.f (by omega)) (z := (-20002 : Int)) (by decide +kernel)) dL_areGoblinsRight_53 kw_L_ask kS_L_194 rfl rfl (Nat.le_of_ble_eq_true rfl) ⟨Nat.le_of_ble_eq_true rfl, Nat.le_of_ble_eq_true rfl⟩ ⟨by show _ ≤ 6000; omega, by show _ ≤ 70000; omega⟩ (fun v9 M13 h9 => ?_)
  obtain ⟨rfl, hG14, hf15⟩ := h9
  refine m_sipush hC dL_areGoblinsRight_56 (by decide) ?_
  refine m_icmp_ne (tgt := 66) hC dL_areGoblinsRight_59 (by decide) (by first | omega | (simp [hs_at] <;> omega)) (fun c16 => by omega) (fun c16 => ?_)
  refine m_iconst hC dL_areGoblinsRight_62 ?_
  refine m_goto (tgt := 67) hC dL_areGoblinsRight_63 (by decide) ?_
  refine m_istore_n hC dL_areGoblinsRight_67 rfl (by decide) rfl ?_
  refine m_iconst hC dL_areGoblinsRight_68 ?_
  refine m_istore hC dL_areGoblinsRight_69 (by decide) rfl ?_
  refine m_wd (k := 1880) (n := 3760) (Nat.le_of_ble_eq_true rfl) (Nat.le_of_ble_eq_true rfl) ?_
  have L1 : ∀ (n : Nat) (i b9 : Int) (c9 s9 : Nat) (t1 : List Int) (M1 : m_M), W.1 0 9 - i < (n : Int) → 0 ≤ i → i ≤ W.1 0 9 → b9 = W.1 0 1 + h_sum (fun j => W.1 5 j) i.toNat → ghP s0.heap.size fo x w W.1 W.2.1 W.2.2.1 W.2.2.2.1 W.2.2.2.2.1 t1 M1 → t1.length ≤ 240 → (c9 : Int) ≤ 1880 + 500 * i → (s9 : Int) ≤ 3760 + 10000 * i → m_W D aC s0 9 p l e (m_R 30 (6000) (70000)) s m args below meth c (c9) (s9) (m_Q D aC s0 below (fun v M' => v = some (VI 1) ∧ ∃ t : List Int, t.length ≤ 240 ∧ gIn s0.heap.size fo x w (wOt W t) M') m_nx args s (6000) (70000)) 71 [(4, VI i), (3, VI 1), (2, VI b9), (1, VI (W.1 0 9)), (0, .ref x)] [] M1 := by
    intro n
    induction n with
    | zero =>
      intro i b9 c9 s9 t1 M1 hn h0 h1 hb9 hG1 ht1 hc9 hs9
      omega
    | succ n ih =>
      intro i b9 c9 s9 t1 M1 hn h0 h1 hb9 hG1 ht1 hc9 hs9
      refine m_iload hC 0 dL_areGoblinsRight_71 rfl ?_
      refine m_iload_n hC 3 dL_areGoblinsRight_73 rfl rfl ?_
      refine m_icmp_ge (tgt := 304) hC dL_areGoblinsRight_74 (by decide) (by first | omega | (simp [hs_at] <;> omega)) (fun c17 => ?_) (fun c17 => ?_)
      · have hb8 : b9 = W.1 0 1 + S_purses W.1 := by rw [hb9, show i = W.1 0 9 by omega]; rfl
        have hacc : W.1 0 1 + S_purses W.1 - W.1 0 2 + W.1 0 3 = 100 := hI.1.2.1
        have hpb := S_purses_bd hB
        have s1 := hB.s 1 (by omega)
        have s2 := hB.s 2 (by omega)
        have s3 := hB.s 3 (by omega)
        have s4 := hB.s 4 (by omega)
        have s5 := hB.s 5 (by omega)
        have hcb : c9 ≤ 4380 := by omega
        have hsb : s9 ≤ 53760 := by omega
        clear hb9 hn h0 h1 hc9 hs9
        refine m_iconst hC dL_areGoblinsRight_304 ?_
        refine m_istore hC dL_areGoblinsRight_305 (by decide) rfl ?_
        have L2 : ∀ (n : Nat) (i : Int), W.1 0 9 - i < (n : Int) → 0 ≤ i → i ≤ W.1 0 9 ∨ i ≤ 0 → m_W D aC s0 9 p l e (m_R 30 (6000) (70000)) s m args below meth c (c9) (s9) (m_Q D aC s0 below (fun v M' => v = some (VI 1) ∧ ∃ t : List Int, t.length ≤ 240 ∧ gIn s0.heap.size fo x w (wOt W t) M') m_nx args s (6000) (70000)) 307 [(4, VI i), (3, VI 1), (2, VI b9), (1, VI (W.1 0 9)), (0, .ref x)] [] M1 := by
          intro n
          induction n with
          | zero =>
            intro i hn h0 h1
            omega
          | succ n ih =>
            intro i hn h0 h1
            refine m_iload hC 0 dL_areGoblinsRight_307 rfl ?_
            refine m_iconst hC dL_areGoblinsRight_309 ?_
            refine m_iadd hC dL_areGoblinsRight_310 ?_
            refine m_iload_n hC 3 dL_areGoblinsRight_311 rfl rfl ?_
            refine m_icmp_ge (tgt := 420) hC dL_areGoblinsRight_312 (by decide) (by first | omega | (simp [hs_at] <;> omega)) (fun c18 => ?_) (fun c18 => ?_)
            · refine m_aload_n hC 4 dL_areGoblinsRight_420 rfl rfl ?_
              refine m_qV hC (Q_doneTotal hF hl hX hG1.2.1 hG1.2.2.1 hB) dL_areGoblinsRight_421 kc_X9_doneTotal kV_L_144 hG1.2.1 rfl rfl rfl rfl (Nat.le_of_ble_eq_true rfl) ⟨Nat.le_of_ble_eq_true rfl, Nat.le_of_ble_eq_true rfl⟩ ⟨by show _ ≤ 6000; omega, by show _ ≤ 70000; omega⟩ ?_
              refine m_aload_n hC 4 dL_areGoblinsRight_424 rfl rfl ?_
              refine m_qV hC (Q_brokenTotal hF hl hX hG1.2.1 hG1.2.2.1 hB) dL_areGoblinsRight_425 kc_X9_brokenTotal kV_L_147 hG1.2.1 rfl rfl rfl rfl (Nat.le_of_ble_eq_true rfl) ⟨Nat.le_of_ble_eq_true rfl, Nat.le_of_ble_eq_true rfl⟩ ⟨by show _ ≤ 6000; omega, by show _ ≤ 70000; omega⟩ ?_
              refine m_iadd hC dL_areGoblinsRight_428 ?_
              refine m_istore hC dL_areGoblinsRight_429 (by decide) rfl ?_
              refine m_iload_n hC 1 dL_areGoblinsRight_431 rfl rfl ?_
              refine m_if_eq (tgt := 461) hC dL_areGoblinsRight_432 (by decide) (by omega) (fun c19 => by omega) (fun c19 => ?_)
              refine m_iload hC 0 dL_areGoblinsRight_435 rfl ?_
              refine m_if_eq (tgt := 457) hC dL_areGoblinsRight_437 (by decide) (by first | omega | (simp [hs_at] <;> omega)) (fun c20 => ?_) (fun c20 => ?_)
              · refine m_iconst hC dL_areGoblinsRight_457 ?_
                refine m_goto (tgt := 462) hC dL_areGoblinsRight_458 (by decide) ?_
                refine m_istore_n hC dL_areGoblinsRight_462 rfl (by decide) rfl ?_
                refine m_iload_n hC 0 dL_areGoblinsRight_463 rfl rfl ?_
                refine m_if_eq (tgt := 501) hC dL_areGoblinsRight_464 (by decide) (by omega) (fun c21 => by omega) (fun c21 => ?_)
                refine m_aload_n hC 4 dL_areGoblinsRight_467 rfl rfl ?_
                refine m_qV hC (Q_allCrumbs hF hl hX hG1.2.1 hG1.2.2.1 hB) dL_areGoblinsRight_468 kc_X9_allCrumbs kV_L_247 hG1.2.1 rfl rfl rfl rfl (Nat.le_of_ble_eq_true rfl) ⟨Nat.le_of_ble_eq_true rfl, Nat.le_of_ble_eq_true rfl⟩ ⟨by show _ ≤ 6000; omega, by show _ ≤ 70000; omega⟩ ?_
                refine m_iload_n hC 2 dL_areGoblinsRight_471 rfl rfl ?_
                refine m_icmp_ne (tgt := 501) hC dL_areGoblinsRight_472 (by decide) (by first | omega | (simp [hs_at] <;> omega)) (fun c22 => by omega) (fun c22 => ?_)
                refine m_aload_n hC 4 dL_areGoblinsRight_475 rfl rfl ?_
                refine m_qV hC (Q_allCrumbsByAccounts hF hl hX hG1.2.1 hG1.2.2.1 hB) dL_areGoblinsRight_476 kc_X9_allCrumbsByAccounts kV_L_156 hG1.2.1 rfl rfl rfl rfl (Nat.le_of_ble_eq_true rfl) ⟨Nat.le_of_ble_eq_true rfl, Nat.le_of_ble_eq_true rfl⟩ ⟨by show _ ≤ 6000; omega, by show _ ≤ 70000; omega⟩ ?_
                refine m_iload_n hC 2 dL_areGoblinsRight_479 rfl rfl ?_
                refine m_icmp_ne (tgt := 501) hC dL_areGoblinsRight_480 (by decide) (by first | omega | (simp [hs_at] <;> omega)) (fun c23 => by omega) (fun c23 => ?_)
                refine m_aload_n hC 4 dL_areGoblinsRight_483 rfl rfl ?_
                refine m_qV hC (Q_chest hF hl hX hG1.2.1 hG1.2.2.1 hB) dL_areGoblinsRight_484 kc_X9_chest kV_L_141 hG1.2.1 rfl rfl rfl rfl (Nat.le_of_ble_eq_true rfl) ⟨Nat.le_of_ble_eq_true rfl, Nat.le_of_ble_eq_true rfl⟩ ⟨by show _ ≤ 6000; omega, by show _ ≤ 70000; omega⟩ ?_
                refine m_if_lt (tgt := 501) hC dL_areGoblinsRight_487 (by decide) (by first | omega | (simp [hs_at] <;> omega)) (fun c24 => by omega) (fun c24 => ?_)
                refine m_aload_n hC 4 dL_areGoblinsRight_490 rfl rfl ?_
                refine m_callV hC (t_X9_consL hF hl hX hG1 hI.1 (by omega) hI.q0) dL_areGoblinsRight_491 kc_X9_isConsistent kV_L_250 hG1.2.1 rfl rfl rfl rfl (Nat.le_of_ble_eq_true rfl) ⟨Nat.le_of_ble_eq_true rfl, Nat.le_of_ble_eq_true rfl⟩ ⟨by show _ ≤ 6000; omega, by show _ ≤ 70000; omega⟩ m_nox (fun v9 M8 h9 => ?_)
                obtain ⟨rfl, hG8⟩ := h9
                refine m_if_eq (tgt := 501) hC dL_areGoblinsRight_494 (by decide) (by omega) (fun c25 => by omega) (fun c25 => ?_)
                refine m_iconst hC dL_areGoblinsRight_497 ?_
                refine m_goto (tgt := 502) hC dL_areGoblinsRight_498 (by decide) ?_
                exact m_zret hC dL_areGoblinsRight_502 hr (by rfl) (by omega) (by omega) (⟨rfl, t1, ht1, hG8⟩)
              · refine m_aload_n hC 4 dL_areGoblinsRight_440 rfl rfl ?_
                refine m_qV hC (t_X9_relL hF hl hX hG1.2.1 hG1.2.2.1 hB (by omega)) dL_areGoblinsRight_441 kc_X9_reliability kV_L_243 hG1.2.1 rfl rfl rfl rfl (Nat.le_of_ble_eq_true rfl) ⟨Nat.le_of_ble_eq_true rfl, Nat.le_of_ble_eq_true rfl⟩ ⟨by show _ ≤ 6000; omega, by show _ ≤ 70000; omega⟩ ?_
                refine m_aload_n hC 4 dL_areGoblinsRight_444 rfl rfl ?_
                refine m_qV hC (Q_doneTotal hF hl hX hG1.2.1 hG1.2.2.1 hB) dL_areGoblinsRight_445 kc_X9_doneTotal kV_L_144 hG1.2.1 rfl rfl rfl rfl (Nat.le_of_ble_eq_true rfl) ⟨Nat.le_of_ble_eq_true rfl, Nat.le_of_ble_eq_true rfl⟩ ⟨by show _ ≤ 6000; omega, by show _ ≤ 70000; omega⟩ ?_
                refine m_i2f hC dL_areGoblinsRight_448 ?_
                refine m_iload hC 0 dL_areGoblinsRight_449 rfl ?_
                refine m_i2f hC dL_areGoblinsRight_451 ?_
                refine m_fdiv hC dL_areGoblinsRight_452 (fdiv_ok (by omega)) ?_
                refine m_fcmp0 (x := FP.fdiv (FP.i2f (Int32.ofInt (W.1 0 4))) (FP.i2f (Int32.ofInt (W.1 0 4 + W.1 0 5)))) hC dL_areGoblinsRight_453 (fdiv_ok (by omega)) ?_
                refine m_if_ne (tgt := 461) hC dL_areGoblinsRight_454 (by decide) (by omega) (fun c26 => by omega) (fun c26 => ?_)
                refine m_iconst hC dL_areGoblinsRight_457 ?_
                refine m_goto (tgt := 462) hC dL_areGoblinsRight_458 (by decide) ?_
                refine m_istore_n hC dL_areGoblinsRight_462 rfl (by decide) rfl ?_
                refine m_iload_n hC 0 dL_areGoblinsRight_463 rfl rfl ?_
                refine m_if_eq (tgt := 501) hC dL_areGoblinsRight_464 (by decide) (by omega) (fun c27 => by omega) (fun c27 => ?_)
                refine m_aload_n hC 4 dL_areGoblinsRight_467 rfl rfl ?_
                refine m_qV hC (Q_allCrumbs hF hl hX hG1.2.1 hG1.2.2.1 hB) dL_areGoblinsRight_468 kc_X9_allCrumbs kV_L_247 hG1.2.1 rfl rfl rfl rfl (Nat.le_of_ble_eq_true rfl) ⟨Nat.le_of_ble_eq_true rfl, Nat.le_of_ble_eq_true rfl⟩ ⟨by show _ ≤ 6000; omega, by show _ ≤ 70000; omega⟩ ?_
                refine m_iload_n hC 2 dL_areGoblinsRight_471 rfl rfl ?_
                refine m_icmp_ne (tgt := 501) hC dL_areGoblinsRight_472 (by decide) (by first | omega | (simp [hs_at] <;> omega)) (fun c28 => by omega) (fun c28 => ?_)
                refine m_aload_n hC 4 dL_areGoblinsRight_475 rfl rfl ?_
                refine m_qV hC (Q_allCrumbsByAccounts hF hl hX hG1.2.1 hG1.2.2.1 hB) dL_areGoblinsRight_476 kc_X9_allCrumbsByAccounts kV_L_156 hG1.2.1 rfl rfl rfl rfl (Nat.le_of_ble_eq_true rfl) ⟨Nat.le_of_ble_eq_true rfl, Nat.le_of_ble_eq_true rfl⟩ ⟨by show _ ≤ 6000; omega, by show _ ≤ 70000; omega⟩ ?_
                refine m_iload_n hC 2 dL_areGoblinsRight_479 rfl rfl ?_
                refine m_icmp_ne (tgt := 501) hC dL_areGoblinsRight_480 (by decide) (by first | omega | (simp [hs_at] <;> omega)) (fun c29 => by omega) (fun c29 => ?_)
                refine m_aload_n hC 4 dL_areGoblinsRight_483 rfl rfl ?_
                refine m_qV hC (Q_chest hF hl hX hG1.2.1 hG1.2.2.1 hB) dL_areGoblinsRight_484 kc_X9_chest kV_L_141 hG1.2.1 rfl rfl rfl rfl (Nat.le_of_ble_eq_true rfl) ⟨Nat.le_of_ble_eq_true rfl, Nat.le_of_ble_eq_true rfl⟩ ⟨by show _ ≤ 6000; omega, by show _ ≤ 70000; omega⟩ ?_
                refine m_if_lt (tgt := 501) hC dL_areGoblinsRight_487 (by decide) (by first | omega | (simp [hs_at] <;> omega)) (fun c30 => by omega) (fun c30 => ?_)
                refine m_aload_n hC 4 dL_areGoblinsRight_490 rfl rfl ?_
                refine m_callV hC (t_X9_consL hF hl hX hG1 hI.1 (by omega) hI.q0) dL_areGoblinsRight_491 kc_X9_isConsistent kV_L_250 hG1.2.1 rfl rfl rfl rfl (Nat.le_of_ble_eq_true rfl) ⟨Nat.le_of_ble_eq_true rfl, Nat.le_of_ble_eq_true rfl⟩ ⟨by show _ ≤ 6000; omega, by show _ ≤ 70000; omega⟩ m_nox (fun v9 M8 h9 => ?_)
                obtain ⟨rfl, hG8⟩ := h9
                refine m_if_eq (tgt := 501) hC dL_areGoblinsRight_494 (by decide) (by omega) (fun c31 => by omega) (fun c31 => ?_)
                refine m_iconst hC dL_areGoblinsRight_497 ?_
                refine m_goto (tgt := 502) hC dL_areGoblinsRight_498 (by decide) ?_
                exact m_zret hC dL_areGoblinsRight_502 hr (by rfl) (by omega) (by omega) (⟨rfl, t1, ht1, hG8⟩)
            · have hnx := S_gbw_nx (g := W.1) (r := i) (by omega)
              have hi1 := S_gbw_in (g := W.1) (r := i) (by omega)
              have hi2 := S_gbw_in (g := W.1) (r := i + 1) (by omega)
              have hg1 := hB.go hi1
              have hg2 := hB.go hi2
              refine m_aload_n hC 4 dL_areGoblinsRight_315 rfl rfl ?_
              refine m_iload hC 0 dL_areGoblinsRight_316 rfl ?_
              refine m_qV hC (Q_goblinByWealth hF hl hX hG1.2.1 hG1.2.2.1 hB (by omega)) dL_areGoblinsRight_318 kc_X9_goblinByWealth kV_L_83 hG1.2.1 rfl rfl rfl rfl (Nat.le_of_ble_eq_true rfl) ⟨Nat.le_of_ble_eq_true rfl, Nat.le_of_ble_eq_true rfl⟩ ⟨by show _ ≤ 6000; omega, by show _ ≤ 70000; omega⟩ ?_
              refine m_istore hC dL_areGoblinsRight_321 (by decide) rfl ?_
              refine m_aload_n hC 5 dL_areGoblinsRight_323 rfl rfl ?_
              refine m_iload hC 1 dL_areGoblinsRight_324 rfl ?_
              refine m_iconst hC dL_areGoblinsRight_326 ?_
              refine m_iadd hC dL_areGoblinsRight_327 ?_
              refine m_qV hC (Q_goblinByWealth hF hl hX hG1.2.1 hG1.2.2.1 hB (by omega)) dL_areGoblinsRight_328 kc_X9_goblinByWealth kV_L_83 hG1.2.1 rfl rfl rfl rfl (Nat.le_of_ble_eq_true rfl) ⟨Nat.le_of_ble_eq_true rfl, Nat.le_of_ble_eq_true rfl⟩ ⟨by show _ ≤ 6000; omega, by show _ ≤ 70000; omega⟩ ?_
              refine m_istore hC dL_areGoblinsRight_331 (by decide) rfl ?_
              refine m_aload_n hC 6 dL_areGoblinsRight_333 rfl rfl ?_
              refine m_iload hC 1 dL_areGoblinsRight_334 rfl ?_
              refine m_qV hC (Q_purse hF hl hX hG1.2.1 hG1.2.2.1 hB (by omega)) dL_areGoblinsRight_336 kc_X9_purse kV_L_173 hG1.2.1 rfl rfl rfl rfl (Nat.le_of_ble_eq_true rfl) ⟨Nat.le_of_ble_eq_true rfl, Nat.le_of_ble_eq_true rfl⟩ ⟨by show _ ≤ 6000; omega, by show _ ≤ 70000; omega⟩ ?_
              refine m_aload_n hC 6 dL_areGoblinsRight_339 rfl rfl ?_
              refine m_iload hC 1 dL_areGoblinsRight_340 rfl ?_
              refine m_qV hC (Q_debt hF hl hX hG1.2.1 hG1.2.2.1 hB (by omega)) dL_areGoblinsRight_342 kc_X9_debt kV_L_176 hG1.2.1 rfl rfl rfl rfl (Nat.le_of_ble_eq_true rfl) ⟨Nat.le_of_ble_eq_true rfl, Nat.le_of_ble_eq_true rfl⟩ ⟨by show _ ≤ 6000; omega, by show _ ≤ 70000; omega⟩ ?_
              refine m_isub hC dL_areGoblinsRight_345 ?_
              refine m_aload_n hC 6 dL_areGoblinsRight_346 rfl rfl ?_
              refine m_iload hC 0 dL_areGoblinsRight_347 rfl ?_
              refine m_qV hC (Q_purse hF hl hX hG1.2.1 hG1.2.2.1 hB (by omega)) dL_areGoblinsRight_349 kc_X9_purse kV_L_173 hG1.2.1 rfl rfl rfl rfl (Nat.le_of_ble_eq_true rfl) ⟨Nat.le_of_ble_eq_true rfl, Nat.le_of_ble_eq_true rfl⟩ ⟨by show _ ≤ 6000; omega, by show _ ≤ 70000; omega⟩ ?_
              refine m_isub hC dL_areGoblinsRight_352 ?_
              refine m_aload_n hC 6 dL_areGoblinsRight_353 rfl rfl ?_
              refine m_iload hC 0 dL_areGoblinsRight_354 rfl ?_
              refine m_qV hC (Q_debt hF hl hX hG1.2.1 hG1.2.2.1 hB (by omega)) dL_areGoblinsRight_356 kc_X9_debt kV_L_176 hG1.2.1 rfl rfl rfl rfl (Nat.le_of_ble_eq_true rfl) ⟨Nat.le_of_ble_eq_true rfl, Nat.le_of_ble_eq_true rfl⟩ ⟨by show _ ≤ 6000; omega, by show _ ≤ 70000; omega⟩ ?_
              refine m_iadd hC dL_areGoblinsRight_359 ?_
              refine m_istore hC dL_areGoblinsRight_360 (by decide) rfl ?_
              refine m_aload_n hC 7 dL_areGoblinsRight_362 rfl rfl ?_
              refine m_iload hC 2 dL_areGoblinsRight_363 rfl ?_
              refine m_qV hC (Q_strength hF hl hX hG1.2.1 hG1.2.2.1 hB (by omega)) dL_areGoblinsRight_365 kc_X9_strength kV_L_170 hG1.2.1 rfl rfl rfl rfl (Nat.le_of_ble_eq_true rfl) ⟨Nat.le_of_ble_eq_true rfl, Nat.le_of_ble_eq_true rfl⟩ ⟨by show _ ≤ 6000; omega, by show _ ≤ 70000; omega⟩ ?_
              refine m_aload_n hC 7 dL_areGoblinsRight_368 rfl rfl ?_
              refine m_iload hC 1 dL_areGoblinsRight_369 rfl ?_
              refine m_qV hC (Q_strength hF hl hX hG1.2.1 hG1.2.2.1 hB (by omega)) dL_areGoblinsRight_371 kc_X9_strength kV_L_170 hG1.2.1 rfl rfl rfl rfl (Nat.le_of_ble_eq_true rfl) ⟨Nat.le_of_ble_eq_true rfl, Nat.le_of_ble_eq_true rfl⟩ ⟨by show _ ≤ 6000; omega, by show _ ≤ 70000; omega⟩ ?_
              refine m_isub hC dL_areGoblinsRight_374 ?_
              refine m_istore hC dL_areGoblinsRight_375 (by decide) rfl ?_
              refine m_iload_n hC 5 dL_areGoblinsRight_377 rfl rfl ?_
              refine m_if_eq (tgt := 412) hC dL_areGoblinsRight_378 (by decide) (by omega) (fun c32 => by omega) (fun c32 => ?_)
              refine m_iload hC 1 dL_areGoblinsRight_381 rfl ?_
              refine m_if_gt (tgt := 408) hC dL_areGoblinsRight_383 (by decide) (by first | omega | (simp [hs_at] <;> omega)) (fun c33 => ?_) (fun c33 => ?_)
              · refine m_iconst hC dL_areGoblinsRight_408 ?_
                refine m_goto (tgt := 413) hC dL_areGoblinsRight_409 (by decide) ?_
                refine m_istore_n hC dL_areGoblinsRight_413 rfl (by decide) rfl ?_
                refine m_iinc hC 5 dL_areGoblinsRight_414 rfl (by decide) rfl ?_
                refine m_goto (tgt := 307) hC dL_areGoblinsRight_417 (by decide) ?_
                refine m_lvs [0, 1, 6, 7, 8] rfl (ih (i + 1) (by omega) (by omega) (by omega))
              · refine m_iload hC 1 dL_areGoblinsRight_386 rfl ?_
                refine m_if_ne (tgt := 412) hC dL_areGoblinsRight_388 (by decide) (by first | omega | (simp [hs_at] <;> omega)) (fun c34 => by omega) (fun c34 => ?_)
                refine m_iload hC 0 dL_areGoblinsRight_391 rfl ?_
                refine m_if_gt (tgt := 408) hC dL_areGoblinsRight_393 (by decide) (by first | omega | (simp [hs_at] <;> omega)) (fun c35 => ?_) (fun c35 => ?_)
                · refine m_iconst hC dL_areGoblinsRight_408 ?_
                  refine m_goto (tgt := 413) hC dL_areGoblinsRight_409 (by decide) ?_
                  refine m_istore_n hC dL_areGoblinsRight_413 rfl (by decide) rfl ?_
                  refine m_iinc hC 5 dL_areGoblinsRight_414 rfl (by decide) rfl ?_
                  refine m_goto (tgt := 307) hC dL_areGoblinsRight_417 (by decide) ?_
                  refine m_lvs [0, 1, 6, 7, 8] rfl (ih (i + 1) (by omega) (by omega) (by omega))
                · refine m_iload hC 0 dL_areGoblinsRight_396 rfl ?_
                  refine m_if_ne (tgt := 412) hC dL_areGoblinsRight_398 (by decide) (by first | omega | (simp [hs_at] <;> omega)) (fun c36 => by omega) (fun c36 => ?_)
                  refine m_iload hC 3 dL_areGoblinsRight_401 rfl ?_
                  refine m_iload hC 2 dL_areGoblinsRight_403 rfl ?_
                  refine m_icmp_ge (tgt := 412) hC dL_areGoblinsRight_405 (by decide) (by first | omega | (simp [hs_at] <;> omega)) (fun c37 => by omega) (fun c37 => ?_)
                  refine m_iconst hC dL_areGoblinsRight_408 ?_
                  refine m_goto (tgt := 413) hC dL_areGoblinsRight_409 (by decide) ?_
                  refine m_istore_n hC dL_areGoblinsRight_413 rfl (by decide) rfl ?_
                  refine m_iinc hC 5 dL_areGoblinsRight_414 rfl (by decide) rfl ?_
                  refine m_goto (tgt := 307) hC dL_areGoblinsRight_417 (by decide) ?_
                  refine m_lvs [0, 1, 6, 7, 8] rfl (ih (i + 1) (by omega) (by omega) (by omega))
        refine m_lvs [0, 1, 2, 3, 4] rfl (L2 7 0 (by omega) (by omega) (by omega))
      · have hgo := hB.go (i := i) (by omega)
        have hen := S_energy_bd hB (y := i) (by omega)
        obtain ⟨v1, n1, X1, T1⟩ := gX.of hG1
        have hxw := X1.1
        have hv1 := T1.av
        have hz1 : s0.heap.size ≤ M1.1 := by omega
        have hlast := X1.2.2.2.2.2.2.2.2
        have e1 := S_dig1 (z := i) (by omega)
        have e2 := S_dig1 (z := W.1 4 i) (by omega)
        have e3 := S_dig10 (z := W.1 5 i) (by omega)
        have e4 := S_dig10 (z := W.1 6 i) (by omega)
        refine m_aload_n hC 4 dL_areGoblinsRight_77 rfl rfl ?_
        refine m_iload hC 0 dL_areGoblinsRight_78 rfl ?_
        refine m_iconst hC dL_areGoblinsRight_80 ?_
        refine m_aload_n hC 4 dL_areGoblinsRight_81 rfl rfl ?_
        refine m_iload hC 0 dL_areGoblinsRight_82 rfl ?_
        refine m_qS hC (t_L_energy hF hl hX X1.2.1 X1.2.2.1 hB (by omega)) dL_areGoblinsRight_84 kc_L_energy kS_L_206 rfl rfl (Nat.le_of_ble_eq_true rfl) ⟨Nat.le_of_ble_eq_true rfl, Nat.le_of_ble_eq_true rfl⟩ ⟨by show _ ≤ 6000; omega, by show _ ≤ 70000; omega⟩ ?_
        refine m_qS hC (t_L_best hF hl hX X1.2.1 X1.2.2.1 hB hx (y := i) (by omega) (W.1 0 11).toNat 0 (S_energy W.1 i) (by omega) (by omega) (by omega)) dL_areGoblinsRight_87 kc_L_best kS_L_203 rfl rfl (Nat.le_of_ble_eq_true rfl) ⟨by show _ ≤ 30; omega, by show _ ≤ 3100; omega⟩ ⟨by show _ ≤ 6000; omega, by show _ ≤ 70000; omega⟩ ?_
        rw [k_F_ks hB i _ _ (by omega)]
        refine m_istore hC dL_areGoblinsRight_90 (by decide) rfl ?_
        have REST : ∀ (M5 : m_M) (q5 : Nat), M1.1 ≤ q5 → sN q5 (q5 + 1) (R_gob W.1 i) M5 → kK M1 M5 → m_W D aC s0 9 p l e (m_R 30 (6000) (70000)) s m args below meth c (c9 + 17) (s9 + 9000) (m_Q D aC s0 below (fun v M' => v = some (VI 1) ∧ ∃ t : List Int, t.length ≤ 240 ∧ gIn s0.heap.size fo x w (wOt W t) M') m_nx args s (6000) (70000)) 197 [(6, .ref q5), (5, VI (h_ks W.1 i (W.1 0 11).toNat (S_energy W.1 i))), (4, VI i), (3, VI 1), (2, VI b9), (1, VI (W.1 0 9)), (0, .ref x)] [] M5 := by
          intro M5 q5 hq5 S5 U5
          have X5 := X1.kK U5
          have T5 := T1.kK U5
          have hks := h_ks_bd hB (x := i) (W.1 0 11).toNat (S_energy W.1 i) (by omega)
          refine m_iload_n hC 4 dL_areGoblinsRight_197 rfl rfl ?_
          refine m_aload_n hC 6 dL_areGoblinsRight_198 rfl rfl ?_
          refine m_iload hC 2 dL_areGoblinsRight_199 rfl ?_
          refine m_qV hC (Q_purse hF hl hX X5.2.1 X5.2.2.1 hB (by omega)) dL_areGoblinsRight_201 kc_X9_purse kV_L_173 X5.2.1 rfl rfl rfl rfl (Nat.le_of_ble_eq_true rfl) ⟨Nat.le_of_ble_eq_true rfl, Nat.le_of_ble_eq_true rfl⟩ ⟨by show _ ≤ 6000; omega, by show _ ≤ 70000; omega⟩ ?_
          refine m_iadd hC dL_areGoblinsRight_204 ?_
          refine m_istore_n hC dL_areGoblinsRight_205 rfl (by decide) rfl ?_
          refine m_iload_n hC 4 dL_areGoblinsRight_206 rfl rfl ?_
          refine m_if_eq (tgt := 296) hC dL_areGoblinsRight_207 (by decide) (by omega) (fun c38 => by omega) (fun c38 => ?_)
          refine m_aload_n hC 6 dL_areGoblinsRight_210 rfl rfl ?_
          refine m_iload hC 3 dL_areGoblinsRight_211 rfl ?_
          refine m_qV hC (Q_energy hF hl hX X5.2.1 X5.2.2.1 hB (by omega)) dL_areGoblinsRight_213 kc_X9_energy kV_L_80 X5.2.1 rfl rfl rfl rfl (Nat.le_of_ble_eq_true rfl) ⟨Nat.le_of_ble_eq_true rfl, Nat.le_of_ble_eq_true rfl⟩ ⟨by show _ ≤ 6000; omega, by show _ ≤ 70000; omega⟩ ?_
          refine m_aload_n hC 6 dL_areGoblinsRight_216 rfl rfl ?_
          refine m_iload hC 3 dL_areGoblinsRight_217 rfl ?_
          refine m_qS hC (t_L_energy hF hl hX X5.2.1 X5.2.2.1 hB (by omega)) dL_areGoblinsRight_219 kc_L_energy kS_L_206 rfl rfl (Nat.le_of_ble_eq_true rfl) ⟨Nat.le_of_ble_eq_true rfl, Nat.le_of_ble_eq_true rfl⟩ ⟨by show _ ≤ 6000; omega, by show _ ≤ 70000; omega⟩ ?_
          refine m_icmp_ne (tgt := 296) hC dL_areGoblinsRight_222 (by decide) (by first | omega | (simp [hs_at] <;> omega)) (fun c39 => by omega) (fun c39 => ?_)
          refine m_aload_n hC 6 dL_areGoblinsRight_225 rfl rfl ?_
          refine m_iload hC 3 dL_areGoblinsRight_226 rfl ?_
          refine m_qV hC (Q_bestWages hF hl hX X5.2.1 X5.2.2.1 hB (by omega)) dL_areGoblinsRight_228 kc_X9_bestWages kV_L_86 X5.2.1 rfl rfl rfl rfl (Nat.le_of_ble_eq_true rfl) ⟨Nat.le_of_ble_eq_true rfl, Nat.le_of_ble_eq_true rfl⟩ ⟨by show _ ≤ 6000; omega, by show _ ≤ 70000; omega⟩ ?_
          refine m_iload hC 2 dL_areGoblinsRight_231 rfl ?_
          refine m_icmp_ne (tgt := 296) hC dL_areGoblinsRight_233 (by decide) (by first | omega | (simp [hs_at] <;> omega)) (fun c40 => by omega) (fun c40 => ?_)
          refine m_aload_n hC 6 dL_areGoblinsRight_236 rfl rfl ?_
          refine m_iload hC 3 dL_areGoblinsRight_237 rfl ?_
          refine m_callV hC (t_X9_bestWagesByTable_s hF hl hX (X5.to T5) hI.1.1 (by omega) hI.q0 (y := i) (by omega) (by omega)) dL_areGoblinsRight_239 kc_X9_bestWagesByTable kV_L_233 X5.2.1 rfl rfl rfl rfl (Nat.le_of_ble_eq_true rfl) ⟨Nat.le_of_ble_eq_true rfl, Nat.le_of_ble_eq_true rfl⟩ ⟨by show _ ≤ 6000; omega, by show _ ≤ 70000; omega⟩ m_nox (fun v9 M6 h9 => ?_)
          obtain ⟨rfl, ⟨bf6, hb6⟩, f6⟩ := h9
          have hz6 := f6.1
          have hn6 : ∀ p9 : Nat, p9 ≠ x + 237 → M6.2 p9 = M5.2 p9 := fun p9 hp => f6.2 p9 (by omega)
          have X6 := X5.bst hb6 f6
          have T6 := T5.kp (hn6 _ (by omega)) (hn6 v1 (by omega)) (by omega)
          have S6 := S5.keep (hn6 q5 (by omega)) (hn6 _ (by omega)) (by omega)
          refine m_iload hC 2 dL_areGoblinsRight_242 rfl ?_
          refine m_icmp_ne (tgt := 296) hC dL_areGoblinsRight_244 (by decide) (by first | omega | (simp [hs_at] <;> omega)) (fun c41 => by omega) (fun c41 => ?_)
          refine m_aload_n hC 6 dL_areGoblinsRight_247 rfl rfl ?_
          refine m_iload hC 3 dL_areGoblinsRight_248 rfl ?_
          refine m_qV hC (Q_purse hF hl hX X6.2.1 X6.2.2.1 hB (by omega)) dL_areGoblinsRight_250 kc_X9_purse kV_L_173 X6.2.1 rfl rfl rfl rfl (Nat.le_of_ble_eq_true rfl) ⟨Nat.le_of_ble_eq_true rfl, Nat.le_of_ble_eq_true rfl⟩ ⟨by show _ ≤ 6000; omega, by show _ ≤ 70000; omega⟩ ?_
          refine m_if_lt (tgt := 296) hC dL_areGoblinsRight_253 (by decide) (by first | omega | (simp [hs_at] <;> omega)) (fun c42 => by omega) (fun c42 => ?_)
          refine m_aload_n hC 6 dL_areGoblinsRight_256 rfl rfl ?_
          refine m_iload hC 3 dL_areGoblinsRight_257 rfl ?_
          refine m_qV hC (Q_debt hF hl hX X6.2.1 X6.2.2.1 hB (by omega)) dL_areGoblinsRight_259 kc_X9_debt kV_L_176 X6.2.1 rfl rfl rfl rfl (Nat.le_of_ble_eq_true rfl) ⟨Nat.le_of_ble_eq_true rfl, Nat.le_of_ble_eq_true rfl⟩ ⟨by show _ ≤ 6000; omega, by show _ ≤ 70000; omega⟩ ?_
          refine m_if_lt (tgt := 296) hC dL_areGoblinsRight_262 (by decide) (by first | omega | (simp [hs_at] <;> omega)) (fun c43 => by omega) (fun c43 => ?_)
          refine m_aload_n hC 6 dL_areGoblinsRight_265 rfl rfl ?_
          refine m_iload hC 3 dL_areGoblinsRight_266 rfl ?_
          refine m_qV hC (Q_debt hF hl hX X6.2.1 X6.2.2.1 hB (by omega)) dL_areGoblinsRight_268 kc_X9_debt kV_L_176 X6.2.1 rfl rfl rfl rfl (Nat.le_of_ble_eq_true rfl) ⟨Nat.le_of_ble_eq_true rfl, Nat.le_of_ble_eq_true rfl⟩ ⟨by show _ ≤ 6000; omega, by show _ ≤ 70000; omega⟩ ?_
          refine m_sipush hC dL_areGoblinsRight_271 (by decide) ?_
          refine m_icmp_ge (tgt := 296) hC dL_areGoblinsRight_274 (by decide) (by first | omega | (simp [hs_at] <;> omega)) (fun c44 => by omega) (fun c44 => ?_)
          refine m_aload_n hC 6 dL_areGoblinsRight_277 rfl rfl ?_
          refine m_aload_n hC 6 dL_areGoblinsRight_278 rfl rfl ?_
          refine m_iload hC 3 dL_areGoblinsRight_279 rfl ?_
          refine m_callV hC (t_X9_renderGoblin_s hF hl hJ hX X6 T6 hI.1.1 (by omega) hI.q0 (y := i) (by omega) (by omega)) dL_areGoblinsRight_281 kc_X9_renderGoblin kV_L_236 X6.2.1 rfl rfl rfl rfl (Nat.le_of_ble_eq_true rfl) ⟨Nat.le_of_ble_eq_true rfl, Nat.le_of_ble_eq_true rfl⟩ ⟨by show _ ≤ 6000; omega, by show _ ≤ 70000; omega⟩ m_nox (fun v9 M7 h9 => ?_)
          obtain ⟨rfl, v7, n7, X7, T7, F7⟩ := h9
          have hl6 : q5 < M6.1 ∧ q5 + 1 < M6.1 := by obtain ⟨f, -, -, -, -, -, a6, a7⟩ := S6; exact ⟨a6, a7⟩
          have S7 := S6.keep (F7.2.2.2 q5 (by omega) (by omega) (by omega)) (F7.2.2.2 (q5 + 1) (by omega) (by omega) (by omega)) F7.2.2.1
          refine m_aload hC 1 dL_areGoblinsRight_284 rfl ?_
          refine m_qS hC (t_L_isLine hF hl hJ hX X7 T7 (Or.inr S7) hI.1.1 (by omega) hI.q0) dL_areGoblinsRight_286 kc_L_isLine kS_L_239 rfl rfl (Nat.le_of_ble_eq_true rfl) ⟨Nat.le_of_ble_eq_true rfl, Nat.le_of_ble_eq_true rfl⟩ ⟨by show _ ≤ 6000; omega, by show _ ≤ 70000; omega⟩ ?_
          refine m_if_eq (tgt := 296) hC dL_areGoblinsRight_289 (by decide) (by omega) (fun c45 => by omega) (fun c45 => ?_)
          refine m_iconst hC dL_areGoblinsRight_292 ?_
          refine m_goto (tgt := 297) hC dL_areGoblinsRight_293 (by decide) ?_
          refine m_istore_n hC dL_areGoblinsRight_297 rfl (by decide) rfl ?_
          refine m_iinc hC 4 dL_areGoblinsRight_298 rfl (by decide) rfl ?_
          refine m_goto (tgt := 71) hC dL_areGoblinsRight_301 (by decide) ?_
          refine m_lvs [0, 1, 2, 5, 6] rfl (ih (i + 1) _ _ _ _ M7 (by omega) (by omega) (by omega) (by rw [h_sum_succ _ h0, hb9]; omega) (X7.to T7) (by have := R_gob_len hB (y := i) (by omega); omega) (by omega) (by omega))
        refine m_newsb hC hJ (by omega) dL_areGoblinsRight_92 dL_areGoblinsRight_95 dL_areGoblinsRight_96 (Nat.le_of_ble_eq_true rfl) ⟨Nat.le_of_ble_eq_true rfl, Nat.le_of_ble_eq_true rfl⟩ ⟨by show _ ≤ 6000; omega, by show _ ≤ 70000; omega⟩ (fun Mb1 Tb1 Kb1 => ?_)
        refine m_iload hC 1 dL_areGoblinsRight_99 rfl ?_
        refine m_apI hC hJ Tb1 (by omega) (by (try simp only [List.length_append, List.length_cons, List.length_nil]); omega) dL_areGoblinsRight_101 (Nat.le_of_ble_eq_true rfl) ⟨Nat.le_of_ble_eq_true rfl, Nat.le_of_ble_eq_true rfl⟩ ⟨by show _ ≤ 6000; omega, by show _ ≤ 70000; omega⟩ (fun vb2 nb2 Mb2 Tb2 Fb2 => ?_)
        have Kb2 := Kb1.sb Fb2
        refine m_ldcs hC dL_areGoblinsRight_104 hLS.r0 ?_
        refine m_apS hC hJ hJS Tb2 (Or.inl hLS.t0) (by have := (hLS.t0).lt.2; have := Kb2.2.2; omega) (by (try simp only [List.length_append, List.length_cons, List.length_nil]); omega) dL_areGoblinsRight_106 (Nat.le_of_ble_eq_true rfl) ⟨Nat.le_of_ble_eq_true rfl, Nat.le_of_ble_eq_true rfl⟩ ⟨by show _ ≤ 6000; omega, by show _ ≤ 70000; omega⟩ (fun vb3 nb3 Mb3 Tb3 Fb3 => ?_)
        have Kb3 := Kb2.sb Fb3
        refine m_aload_n hC 5 dL_areGoblinsRight_109 rfl rfl ?_
        refine m_iload hC 1 dL_areGoblinsRight_110 rfl ?_
        refine m_qV hC (Q_strength hF hl hX (X1.kK Kb3.1).2.1 (X1.kK Kb3.1).2.2.1 hB (by omega)) dL_areGoblinsRight_112 kc_X9_strength kV_L_170 (X1.kK Kb3.1).2.1 rfl rfl rfl rfl (Nat.le_of_ble_eq_true rfl) ⟨Nat.le_of_ble_eq_true rfl, Nat.le_of_ble_eq_true rfl⟩ ⟨by show _ ≤ 6000; omega, by show _ ≤ 70000; omega⟩ ?_
        refine m_apI hC hJ Tb3 (by omega) (by (try simp only [List.length_append, List.length_cons, List.length_nil]); omega) dL_areGoblinsRight_115 (Nat.le_of_ble_eq_true rfl) ⟨Nat.le_of_ble_eq_true rfl, Nat.le_of_ble_eq_true rfl⟩ ⟨by show _ ≤ 6000; omega, by show _ ≤ 70000; omega⟩ (fun vb4 nb4 Mb4 Tb4 Fb4 => ?_)
        have Kb4 := Kb3.sb Fb4
        refine m_ldcs hC dL_areGoblinsRight_118 hLS.r1 ?_
        refine m_apS hC hJ hJS Tb4 (Or.inl hLS.t1) (by have := (hLS.t1).lt.2; have := Kb4.2.2; omega) (by (try simp only [List.length_append, List.length_cons, List.length_nil]); omega) dL_areGoblinsRight_120 (Nat.le_of_ble_eq_true rfl) ⟨Nat.le_of_ble_eq_true rfl, Nat.le_of_ble_eq_true rfl⟩ ⟨by show _ ≤ 6000; omega, by show _ ≤ 70000; omega⟩ (fun vb5 nb5 Mb5 Tb5 Fb5 => ?_)
        have Kb5 := Kb4.sb Fb5
        refine m_aload_n hC 5 dL_areGoblinsRight_123 rfl rfl ?_
        refine m_iload hC 1 dL_areGoblinsRight_124 rfl ?_
        refine m_qV hC (Q_purse hF hl hX (X1.kK Kb5.1).2.1 (X1.kK Kb5.1).2.2.1 hB (by omega)) dL_areGoblinsRight_126 kc_X9_purse kV_L_173 (X1.kK Kb5.1).2.1 rfl rfl rfl rfl (Nat.le_of_ble_eq_true rfl) ⟨Nat.le_of_ble_eq_true rfl, Nat.le_of_ble_eq_true rfl⟩ ⟨by show _ ≤ 6000; omega, by show _ ≤ 70000; omega⟩ ?_
        refine m_apI hC hJ Tb5 (by omega) (by (try simp only [List.length_append, List.length_cons, List.length_nil]); omega) dL_areGoblinsRight_129 (Nat.le_of_ble_eq_true rfl) ⟨Nat.le_of_ble_eq_true rfl, Nat.le_of_ble_eq_true rfl⟩ ⟨by show _ ≤ 6000; omega, by show _ ≤ 70000; omega⟩ (fun vb6 nb6 Mb6 Tb6 Fb6 => ?_)
        have Kb6 := Kb5.sb Fb6
        refine m_aload_n hC 5 dL_areGoblinsRight_132 rfl rfl ?_
        refine m_iload hC 1 dL_areGoblinsRight_133 rfl ?_
        refine m_qV hC (Q_debt hF hl hX (X1.kK Kb6.1).2.1 (X1.kK Kb6.1).2.2.1 hB (by omega)) dL_areGoblinsRight_135 kc_X9_debt kV_L_176 (X1.kK Kb6.1).2.1 rfl rfl rfl rfl (Nat.le_of_ble_eq_true rfl) ⟨Nat.le_of_ble_eq_true rfl, Nat.le_of_ble_eq_true rfl⟩ ⟨by show _ ≤ 6000; omega, by show _ ≤ 70000; omega⟩ ?_
        refine m_if_ne (tgt := 146) hC dL_areGoblinsRight_138 (by decide) (by first | omega | (simp [hs_at] <;> omega)) (fun c6 => ?_) (fun c6 => ?_)
        · have hvlt7 := Tb6.av
          refine m_newsb hC hJ (by have := Kb6.1.1; omega) dL_areGoblinsRight_146 dL_areGoblinsRight_149 dL_areGoblinsRight_150 (Nat.le_of_ble_eq_true rfl) ⟨Nat.le_of_ble_eq_true rfl, Nat.le_of_ble_eq_true rfl⟩ ⟨by show _ ≤ 6000; omega, by show _ ≤ 70000; omega⟩ (fun Mb7 Tb7 Kb7 => ?_)
          have hz7 : s0.heap.size ≤ Mb6.1 := by have := Kb6.1.1; omega
          refine m_ldcs hC dL_areGoblinsRight_153 hLS.r3 ?_
          refine m_apS hC hJ hJS Tb7 (Or.inl hLS.t3) (by have := (hLS.t3).lt.2; have := Kb7.2.2; omega) (by (try simp only [List.length_append, List.length_cons, List.length_nil]); omega) dL_areGoblinsRight_155 (Nat.le_of_ble_eq_true rfl) ⟨Nat.le_of_ble_eq_true rfl, Nat.le_of_ble_eq_true rfl⟩ ⟨by show _ ≤ 6000; omega, by show _ ≤ 70000; omega⟩ (fun vb8 nb8 Mb8 Tb8 Fb8 => ?_)
          have Kb8 := Kb7.sb Fb8
          refine m_aload_n hC 5 dL_areGoblinsRight_158 rfl rfl ?_
          refine m_iload hC 1 dL_areGoblinsRight_159 rfl ?_
          refine m_qV hC (Q_debt hF hl hX (X1.kK (Kb6.1.tr Kb8.1)).2.1 (X1.kK (Kb6.1.tr Kb8.1)).2.2.1 hB (by omega)) dL_areGoblinsRight_161 kc_X9_debt kV_L_176 (X1.kK (Kb6.1.tr Kb8.1)).2.1 rfl rfl rfl rfl (Nat.le_of_ble_eq_true rfl) ⟨Nat.le_of_ble_eq_true rfl, Nat.le_of_ble_eq_true rfl⟩ ⟨by show _ ≤ 6000; omega, by show _ ≤ 70000; omega⟩ ?_
          refine m_apI hC hJ Tb8 (by omega) (by (try simp only [List.length_append, List.length_cons, List.length_nil]); omega) dL_areGoblinsRight_164 (Nat.le_of_ble_eq_true rfl) ⟨Nat.le_of_ble_eq_true rfl, Nat.le_of_ble_eq_true rfl⟩ ⟨by show _ ≤ 6000; omega, by show _ ≤ 70000; omega⟩ (fun vb9 nb9 Mb9 Tb9 Fb9 => ?_)
          have Kb9 := Kb8.sb Fb9
          refine m_tos hC hJ hJS Tb9 (by (try simp only [List.length_append, List.length_cons, List.length_nil]); omega) dL_areGoblinsRight_167 (Nat.le_of_ble_eq_true rfl) ⟨Nat.le_of_ble_eq_true rfl, Nat.le_of_ble_eq_true rfl⟩ ⟨by show _ ≤ 6000; omega, by show _ ≤ 70000; omega⟩ (fun Mb10 Sb10 Qb10 => ?_)
          have Ub10 := Kb9.1.tr Qb10
          have T0b10 := Tb6.kK Ub10
          have K0b10 := Kb6.kK Ub10
          have hvqb10 := And.intro hvlt7.2.1 (And.intro Kb9.1.1 (And.intro K0b10.2.2 Qb10.1))
          refine m_apS hC hJ hJS T0b10 (Or.inr Sb10) (by have := hvqb10; omega) (by (try simp only [List.length_append, List.length_cons, List.length_nil]); omega) dL_areGoblinsRight_170 (Nat.le_of_ble_eq_true rfl) ⟨Nat.le_of_ble_eq_true rfl, Nat.le_of_ble_eq_true rfl⟩ ⟨by show _ ≤ 6000; omega, by show _ ≤ 70000; omega⟩ (fun vb11 nb11 Mb11 Tb11 Fb11 => ?_)
          have Kb11 := K0b10.sb Fb11
          refine m_aload_n hC 5 dL_areGoblinsRight_173 rfl rfl ?_
          refine m_iload hC 1 dL_areGoblinsRight_174 rfl ?_
          refine m_qV hC (Q_isResting hF hl hX (X1.kK Kb11.1).2.1 (X1.kK Kb11.1).2.2.1 hB (by omega)) dL_areGoblinsRight_176 kc_X9_isResting kV_L_182 (X1.kK Kb11.1).2.1 rfl rfl rfl rfl (Nat.le_of_ble_eq_true rfl) ⟨Nat.le_of_ble_eq_true rfl, Nat.le_of_ble_eq_true rfl⟩ ⟨by show _ ≤ 6000; omega, by show _ ≤ 70000; omega⟩ ?_
          refine m_if_eq (tgt := 187) hC dL_areGoblinsRight_179 (by decide) (by first | omega | (simp [hs_at] <;> omega)) (fun c8 => ?_) (fun c8 => ?_)
          · refine m_ldcs hC dL_areGoblinsRight_187 hLS.r2 ?_
            refine m_apS hC hJ hJS Tb11 (Or.inl hLS.t2) (by have := (hLS.t2).lt.2; have := Kb11.2.2; omega) (by (try simp only [List.length_append, List.length_cons, List.length_nil]); omega) dL_areGoblinsRight_189 (Nat.le_of_ble_eq_true rfl) ⟨Nat.le_of_ble_eq_true rfl, Nat.le_of_ble_eq_true rfl⟩ ⟨by show _ ≤ 6000; omega, by show _ ≤ 70000; omega⟩ (fun vb12 nb12 Mb12 Tb12 Fb12 => ?_)
            have Kb12 := Kb11.sb Fb12
            refine m_tos hC hJ hJS Tb12 (by (try simp only [List.length_append, List.length_cons, List.length_nil]); omega) dL_areGoblinsRight_192 (Nat.le_of_ble_eq_true rfl) ⟨Nat.le_of_ble_eq_true rfl, Nat.le_of_ble_eq_true rfl⟩ ⟨by show _ ≤ 6000; omega, by show _ ≤ 70000; omega⟩ (fun Mb13 Sb13 Qb13 => ?_)
            have Ub13 := Kb12.1.tr Qb13
            refine m_astore hC dL_areGoblinsRight_195 (by decide) rfl ?_
            have hR9 : sN Mb12.1 (Mb12.1 + 1) (R_gob W.1 i) Mb13 := by
              first | rw [R_gob_00 c6 c8] | rw [R_gob_01 c6 c8] | rw [R_gob_10 c6 c8] | rw [R_gob_11 c6 c8]
              simpa only [List.append_assoc, List.nil_append, List.append_nil] using Sb13
            exact m_lvs [0, 1, 2, 3, 4, 5, 6] rfl (m_wd (by omega) (by omega) (REST _ _ (by have := Kb12.1.1; omega) hR9 Ub13))
          · refine m_ldcs hC dL_areGoblinsRight_182 hLS.r4 ?_
            refine m_goto (tgt := 189) hC dL_areGoblinsRight_184 (by decide) ?_
            refine m_apS hC hJ hJS Tb11 (Or.inl hLS.t4) (by have := (hLS.t4).lt.2; have := Kb11.2.2; omega) (by (try simp only [List.length_append, List.length_cons, List.length_nil]); omega) dL_areGoblinsRight_189 (Nat.le_of_ble_eq_true rfl) ⟨Nat.le_of_ble_eq_true rfl, Nat.le_of_ble_eq_true rfl⟩ ⟨by show _ ≤ 6000; omega, by show _ ≤ 70000; omega⟩ (fun vb14 nb14 Mb14 Tb14 Fb14 => ?_)
            have Kb14 := Kb11.sb Fb14
            refine m_tos hC hJ hJS Tb14 (by (try simp only [List.length_append, List.length_cons, List.length_nil]); omega) dL_areGoblinsRight_192 (Nat.le_of_ble_eq_true rfl) ⟨Nat.le_of_ble_eq_true rfl, Nat.le_of_ble_eq_true rfl⟩ ⟨by show _ ≤ 6000; omega, by show _ ≤ 70000; omega⟩ (fun Mb15 Sb15 Qb15 => ?_)
            have Ub15 := Kb14.1.tr Qb15
            refine m_astore hC dL_areGoblinsRight_195 (by decide) rfl ?_
            have hR9 : sN Mb14.1 (Mb14.1 + 1) (R_gob W.1 i) Mb15 := by
              first | rw [R_gob_00 c6 c8] | rw [R_gob_01 c6 c8] | rw [R_gob_10 c6 c8] | rw [R_gob_11 c6 c8]
              simpa only [List.append_assoc, List.nil_append, List.append_nil] using Sb15
            exact m_lvs [0, 1, 2, 3, 4, 5, 6] rfl (m_wd (by omega) (by omega) (REST _ _ (by have := Kb14.1.1; omega) hR9 Ub15))
        · refine m_ldcs hC dL_areGoblinsRight_141 hLS.r2 ?_
          refine m_goto (tgt := 170) hC dL_areGoblinsRight_143 (by decide) ?_
          refine m_apS hC hJ hJS Tb6 (Or.inl hLS.t2) (by have := (hLS.t2).lt.2; have := Kb6.2.2; omega) (by (try simp only [List.length_append, List.length_cons, List.length_nil]); omega) dL_areGoblinsRight_170 (Nat.le_of_ble_eq_true rfl) ⟨Nat.le_of_ble_eq_true rfl, Nat.le_of_ble_eq_true rfl⟩ ⟨by show _ ≤ 6000; omega, by show _ ≤ 70000; omega⟩ (fun vb16 nb16 Mb16 Tb16 Fb16 => ?_)
          have Kb16 := Kb6.sb Fb16
          refine m_aload_n hC 5 dL_areGoblinsRight_173 rfl rfl ?_
          refine m_iload hC 1 dL_areGoblinsRight_174 rfl ?_
          refine m_qV hC (Q_isResting hF hl hX (X1.kK Kb16.1).2.1 (X1.kK Kb16.1).2.2.1 hB (by omega)) dL_areGoblinsRight_176 kc_X9_isResting kV_L_182 (X1.kK Kb16.1).2.1 rfl rfl rfl rfl (Nat.le_of_ble_eq_true rfl) ⟨Nat.le_of_ble_eq_true rfl, Nat.le_of_ble_eq_true rfl⟩ ⟨by show _ ≤ 6000; omega, by show _ ≤ 70000; omega⟩ ?_
          refine m_if_eq (tgt := 187) hC dL_areGoblinsRight_179 (by decide) (by first | omega | (simp [hs_at] <;> omega)) (fun c8 => ?_) (fun c8 => ?_)
          · refine m_ldcs hC dL_areGoblinsRight_187 hLS.r2 ?_
            refine m_apS hC hJ hJS Tb16 (Or.inl hLS.t2) (by have := (hLS.t2).lt.2; have := Kb16.2.2; omega) (by (try simp only [List.length_append, List.length_cons, List.length_nil]); omega) dL_areGoblinsRight_189 (Nat.le_of_ble_eq_true rfl) ⟨Nat.le_of_ble_eq_true rfl, Nat.le_of_ble_eq_true rfl⟩ ⟨by show _ ≤ 6000; omega, by show _ ≤ 70000; omega⟩ (fun vb17 nb17 Mb17 Tb17 Fb17 => ?_)
            have Kb17 := Kb16.sb Fb17
            refine m_tos hC hJ hJS Tb17 (by (try simp only [List.length_append, List.length_cons, List.length_nil]); omega) dL_areGoblinsRight_192 (Nat.le_of_ble_eq_true rfl) ⟨Nat.le_of_ble_eq_true rfl, Nat.le_of_ble_eq_true rfl⟩ ⟨by show _ ≤ 6000; omega, by show _ ≤ 70000; omega⟩ (fun Mb18 Sb18 Qb18 => ?_)
            have Ub18 := Kb17.1.tr Qb18
            refine m_astore hC dL_areGoblinsRight_195 (by decide) rfl ?_
            have hR9 : sN Mb17.1 (Mb17.1 + 1) (R_gob W.1 i) Mb18 := by
              first | rw [R_gob_00 c6 c8] | rw [R_gob_01 c6 c8] | rw [R_gob_10 c6 c8] | rw [R_gob_11 c6 c8]
              simpa only [List.append_assoc, List.nil_append, List.append_nil] using Sb18
            exact m_lvs [0, 1, 2, 3, 4, 5, 6] rfl (m_wd (by omega) (by omega) (REST _ _ (by have := Kb17.1.1; omega) hR9 Ub18))
          · refine m_ldcs hC dL_areGoblinsRight_182 hLS.r4 ?_
            refine m_goto (tgt := 189) hC dL_areGoblinsRight_184 (by decide) ?_
            refine m_apS hC hJ hJS Tb16 (Or.inl hLS.t4) (by have := (hLS.t4).lt.2; have := Kb16.2.2; omega) (by (try simp only [List.length_append, List.length_cons, List.length_nil]); omega) dL_areGoblinsRight_189 (Nat.le_of_ble_eq_true rfl) ⟨Nat.le_of_ble_eq_true rfl, Nat.le_of_ble_eq_true rfl⟩ ⟨by show _ ≤ 6000; omega, by show _ ≤ 70000; omega⟩ (fun vb19 nb19 Mb19 Tb19 Fb19 => ?_)
            have Kb19 := Kb16.sb Fb19
            refine m_tos hC hJ hJS Tb19 (by (try simp only [List.length_append, List.length_cons, List.length_nil]); omega) dL_areGoblinsRight_192 (Nat.le_of_ble_eq_true rfl) ⟨Nat.le_of_ble_eq_true rfl, Nat.le_of_ble_eq_true rfl⟩ ⟨by show _ ≤ 6000; omega, by show _ ≤ 70000; omega⟩ (fun Mb20 Sb20 Qb20 => ?_)
            have Ub20 := Kb19.1.tr Qb20
            refine m_astore hC dL_areGoblinsRight_195 (by decide) rfl ?_
            have hR9 : sN Mb19.1 (Mb19.1 + 1) (R_gob W.1 i) Mb20 := by
              first | rw [R_gob_00 c6 c8] | rw [R_gob_01 c6 c8] | rw [R_gob_10 c6 c8] | rw [R_gob_11 c6 c8]
              simpa only [List.append_assoc, List.nil_append, List.append_nil] using Sb20
            exact m_lvs [0, 1, 2, 3, 4, 5, 6] rfl (m_wd (by omega) (by omega) (REST _ _ (by have := Kb19.1.1; omega) hR9 Ub20))
  refine m_lvs [0, 1, 2, 3, 4] rfl (L1 6 0 _ 1880 3760 _ M13 (by omega) (by omega) (by omega) (show _ = _ + (0 : Int) by omega) hG14 hI.2.2.2.2.2.2.2.2 (by omega) (by omega))

