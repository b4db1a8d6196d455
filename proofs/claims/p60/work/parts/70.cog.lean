theorem sbT.z {z0 a v n : Nat} {tx : List Int} {M : m_M} (h : sbT z0 a v n tx M) : z0 ≤ a ∧ z0 ≤ v := by
  obtain ⟨ml, f, p, a1, a2, a3, a4⟩ := h
  exact ⟨a3.2.2.2.1, a3.2.2.2.2⟩

set_option maxHeartbeats 4000000 in
set_option maxRecDepth 100000 in
theorem t_L_areContractsRight {D : va_G} {aC : Nat → ClassId} {s0 : State} {l : Launch} (hF : m_F D aC s0) (hl : l.stackTraces = false) {fo ks vs : Nat → Nat} {fA sA dO dT : Nat} (hJ : m_J s0 fo ks vs fA sA dO dT) (hX : m_TH s0) (hN : m_NC s0) {x w : Nat} {W : gW} {M : m_M} {K : Int} (hG : gIn s0.heap.size fo x w W M) (hI : lI K W) (hK : K ≤ 70000000) (hJS : m_JS s0) {sa va : Nat → Nat} (hLS : m_LS s0 sa va) : m_Met D aC s0 l yL_areContractsRight cL_areContractsRight 8 (some .boolean) 15 (3500) (120000) [.ref x] M (fun v M' => v = some (VI 1) ∧ ∃ t : List Int, t.length ≤ 240 ∧ gIn s0.heap.size fo x w (wOt W t) M') m_nx := by
  refine m_entry (lv := [(0, .ref x)]) (by decide +kernel) (Nat.le_of_ble_eq_true rfl) rfl hF hl ?_
  intro p e s m args below meth c hC hr hno hnm
  change m_C D aC s0 RL _ _ _ _ _ _ _ _ _ at hC
  have hB := hI.B (by omega)
  have n8 := hB.n8
  have n9 := hB.n9
  have n11 := hB.n11
  have hx : nX W.1 := hI.1.2.2.2.1
  have hun := hI.1.2.2.1
  have hp1 : S_pos W.1 (-1) = -1 := (S_pos_no n11.1).mpr (fun i a b => by have := hB.co (i := i) ⟨a, b⟩; omega)
  refine m_aload_n hC 0 dL_areContractsRight_0 rfl rfl ?_
  refine m_qV hC (Q_openContracts hF hl hX hG.2.1 hG.2.2.1 hB) dL_areContractsRight_1 kc_X9_openContracts kV_L_135 hG.2.1 rfl rfl rfl rfl (Nat.le_of_ble_eq_true rfl) ⟨Nat.le_of_ble_eq_true rfl, Nat.le_of_ble_eq_true rfl⟩ ⟨by show _ ≤ 3500; omega, by show _ ≤ 120000; omega⟩ ?_
  refine m_istore_n hC dL_areContractsRight_4 rfl (by decide) rfl ?_
  refine m_ldcs hC dL_areContractsRight_5 hLS.r2 ?_
  refine m_astore_n hC dL_areContractsRight_7 rfl (by decide) rfl ?_
  refine m_iload_n hC 1 dL_areContractsRight_8 rfl rfl ?_
  refine m_bipush hC dL_areContractsRight_9 (by decide) ?_
  refine m_icmp_gt (tgt := 72) hC dL_areContractsRight_11 (by decide) (by first | omega | (simp [hs_at] <;> omega)) (fun c1 => by omega) (fun c1 => ?_)
  refine m_aload_n hC 2 dL_areContractsRight_14 rfl rfl ?_
  refine m_iconst hC dL_areContractsRight_15 ?_
  refine m_iload_n hC 1 dL_areContractsRight_16 rfl rfl ?_
  refine m_iconst hC dL_areContractsRight_17 ?_
  refine m_callSW hC (a_contractAt hF hl hJ hX hN hG hI (by omega) ⟨by omega, by omega⟩ (G_if.f (by omega)) (z := (-20004 : Int)) (by decide +kernel)) dL_areContractsRight_18 kw_L_ask kS_L_194 rfl rfl (Nat.le_of_ble_eq_true rfl) ⟨Nat.le_of_ble_eq_true rfl, Nat.le_of_ble_eq_true rfl⟩ ⟨by show _ ≤ 3500; omega, by show _ ≤ 120000; omega⟩ (fun v9 M2 h9 => ?_)
  obtain ⟨rfl, hG3, hf4⟩ := h9
  refine m_sipush hC dL_areContractsRight_21 (by decide) ?_
  refine m_icmp_ne (tgt := 72) hC dL_areContractsRight_24 (by decide) (by first | omega | (simp [hs_at] <;> omega)) (fun c5 => by omega) (fun c5 => ?_)
  refine m_aload_n hC 2 dL_areContractsRight_27 rfl rfl ?_
  refine m_iconst hC dL_areContractsRight_28 ?_
  refine m_iconst hC dL_areContractsRight_29 ?_
  refine m_iconst hC dL_areContractsRight_30 ?_
  refine m_callSW hC (a_contractAt hF hl hJ hX hN hG3 hI (by omega) ⟨by omega, by omega⟩ (G_if.f (by omega)) (z := (-20004 : Int)) (by decide +kernel)) dL_areContractsRight_31 kw_L_ask kS_L_194 rfl rfl (Nat.le_of_ble_eq_true rfl) ⟨Nat.le_of_ble_eq_true rfl, Nat.le_of_ble_eq_true rfl⟩ ⟨by show _ ≤ 3500; omega, by show _ ≤ 120000; omega⟩ (fun v9 M6 h9 => ?_)
  obtain ⟨rfl, hG7, hf8⟩ := h9
  refine m_sipush hC dL_areContractsRight_34 (by decide) ?_
  refine m_icmp_ne (tgt := 72) hC dL_areContractsRight_37 (by decide) (by first | omega | (simp [hs_at] <;> omega)) (fun c9 => by omega) (fun c9 => ?_)
  refine m_aload_n hC 2 dL_areContractsRight_40 rfl rfl ?_
  refine m_bipush hC dL_areContractsRight_41 (by decide) ?_
  refine m_iconst hC dL_areContractsRight_43 ?_
  refine m_iconst hC dL_areContractsRight_44 ?_
  refine m_callSW hC (a_wage hF hl hJ hX hN hG7 hI (by omega) ⟨by omega, by omega⟩ (G_if.f (by omega)) (z := (-20004 : Int)) (by decide +kernel)) dL_areContractsRight_45 kw_L_ask kS_L_194 rfl rfl (Nat.le_of_ble_eq_true rfl) ⟨Nat.le_of_ble_eq_true rfl, Nat.le_of_ble_eq_true rfl⟩ ⟨by show _ ≤ 3500; omega, by show _ ≤ 120000; omega⟩ (fun v9 M10 h9 => ?_)
  obtain ⟨rfl, hG11, hf12⟩ := h9
  refine m_sipush hC dL_areContractsRight_48 (by decide) ?_
  refine m_icmp_ne (tgt := 72) hC dL_areContractsRight_51 (by decide) (by first | omega | (simp [hs_at] <;> omega)) (fun c13 => by omega) (fun c13 => ?_)
  refine m_aload_n hC 2 dL_areContractsRight_54 rfl rfl ?_
  refine m_bipush hC dL_areContractsRight_55 (by decide) ?_
  refine m_iconst hC dL_areContractsRight_57 ?_
  refine m_iconst hC dL_areContractsRight_58 ?_
  refine m_callSW hC (a_nightsUntilDone hF hl hJ hX hN hG11 hI (by omega) ⟨by omega, by omega⟩ (if_pos hp1) (z := (-20004 : Int)) (by decide +kernel)) dL_areContractsRight_59 kw_L_ask kS_L_194 rfl rfl (Nat.le_of_ble_eq_true rfl) ⟨Nat.le_of_ble_eq_true rfl, Nat.le_of_ble_eq_true rfl⟩ ⟨by show _ ≤ 3500; omega, by show _ ≤ 120000; omega⟩ (fun v9 M14 h9 => ?_)
  obtain ⟨rfl, hG15, hf16⟩ := h9
  refine m_sipush hC dL_areContractsRight_62 (by decide) ?_
  refine m_icmp_ne (tgt := 72) hC dL_areContractsRight_65 (by decide) (by first | omega | (simp [hs_at] <;> omega)) (fun c17 => by omega) (fun c17 => ?_)
  refine m_iconst hC dL_areContractsRight_68 ?_
  refine m_goto (tgt := 73) hC dL_areContractsRight_69 (by decide) ?_
  refine m_istore_n hC dL_areContractsRight_73 rfl (by decide) rfl ?_
  refine m_iconst hC dL_areContractsRight_74 ?_
  refine m_istore hC dL_areContractsRight_75 (by decide) rfl ?_
  refine m_wd (k := 1880) (n := 3760) (Nat.le_of_ble_eq_true rfl) (Nat.le_of_ble_eq_true rfl) ?_
  obtain ⟨v1, n1, X1, T1⟩ := gX.of hG15
  have hxw := X1.1
  have hv1 := T1.av
  have hv0 := T1.z
  have hzs : s0.heap.size ≤ M14.1 := by omega
  have hc2 := hLS.t2.lt
  have L1 : ∀ (n : Nat) (i : Int) (c9 s9 q1 vq1 : Nat) (M1 : m_M), W.1 0 11 - i < (n : Int) → 0 ≤ i → i ≤ W.1 0 11 → kK M14 M1 → sQ s0 q1 vq1 (R_con W.1 i.toNat) M1 → q1 ≠ v1 ∧ vq1 ≠ v1 ∧ q1 ≠ x + 235 ∧ vq1 ≠ x + 235 → (c9 : Int) ≤ 1880 + 20 * i → (s9 : Int) ≤ 3760 + 12000 * i → m_W D aC s0 8 p l e (m_R 15 (3500) (120000)) s m args below meth c (c9) (s9) (m_Q D aC s0 below (fun v M' => v = some (VI 1) ∧ ∃ t : List Int, t.length ≤ 240 ∧ gIn s0.heap.size fo x w (wOt W t) M') m_nx args s (3500) (120000)) 77 [(4, VI i), (3, VI 1), (2, .ref q1), (1, VI (W.1 0 11)), (0, .ref x)] [] M1 := by
    intro n
    induction n with
    | zero =>
      intro i c9 s9 q1 vq1 M1 hn h0 h1 U1 hs1 hne1 hc9 hs9
      omega
    | succ n ih =>
      intro i c9 s9 q1 vq1 M1 hn h0 h1 U1 hs1 hne1 hc9 hs9
      refine m_iload hC 0 dL_areContractsRight_77 rfl ?_
      refine m_iload_n hC 3 dL_areContractsRight_79 rfl rfl ?_
      refine m_icmp_ge (tgt := 285) hC dL_areContractsRight_80 (by decide) (by first | omega | (simp [hs_at] <;> omega)) (fun c18 => ?_) (fun c18 => ?_)
      · have hi9 : i = W.1 0 11 := by omega
        rw [hi9] at hs1
        have hlt1 := hs1.lt (by have := U1.1; omega)
        have X2 := X1.kK U1
        have T2 := T1.kK U1
        refine m_iload_n hC 1 dL_areContractsRight_285 rfl rfl ?_
        refine m_if_eq (tgt := 305) hC dL_areContractsRight_286 (by decide) (by omega) (fun c19 => by omega) (fun c19 => ?_)
        refine m_aload_n hC 4 dL_areContractsRight_289 rfl rfl ?_
        refine m_aload_n hC 4 dL_areContractsRight_290 rfl rfl ?_
        refine m_callV hC (t_X9_renderContracts_s hF hl hJ hX X2 T2 hI.1.1 (by omega) hI.q0) dL_areContractsRight_291 kc_X9_renderContracts kV_L_276 X2.2.1 rfl rfl rfl rfl (Nat.le_of_ble_eq_true rfl) ⟨Nat.le_of_ble_eq_true rfl, Nat.le_of_ble_eq_true rfl⟩ ⟨by show _ ≤ 3500; omega, by show _ ≤ 120000; omega⟩ m_nox (fun v9 M7 h9 => ?_)
        obtain ⟨rfl, v7, n7, X7, T7, F7⟩ := h9
        have S7 := hs1.keep (F7.2.2.2 q1 hlt1.1 (by omega) (by omega)) (F7.2.2.2 vq1 hlt1.2 (by omega) (by omega)) F7.2.2.1
        have hcl := R_con_len hB (W.1 0 11).toNat (by omega)
        refine m_aload_n hC 2 dL_areContractsRight_294 rfl rfl ?_
        refine m_qS hC (t_L_isLine hF hl hJ hX X7 T7 S7 hI.1.1 (by omega) hI.q0) dL_areContractsRight_295 kc_L_isLine kS_L_239 rfl rfl (Nat.le_of_ble_eq_true rfl) ⟨Nat.le_of_ble_eq_true rfl, Nat.le_of_ble_eq_true rfl⟩ ⟨by show _ ≤ 3500; omega, by show _ ≤ 120000; omega⟩ ?_
        refine m_if_eq (tgt := 305) hC dL_areContractsRight_298 (by decide) (by omega) (fun c20 => by omega) (fun c20 => ?_)
        refine m_iconst hC dL_areContractsRight_301 ?_
        refine m_goto (tgt := 306) hC dL_areContractsRight_302 (by decide) ?_
        exact m_zret hC dL_areContractsRight_306 hr (by rfl) (by omega) (by omega) (⟨rfl, R_con W.1 (W.1 0 11).toNat, by omega, X7.to T7⟩)
      · have hco := hB.co (i := i) (by omega)
        have hz1 : s0.heap.size ≤ M1.1 := by have := U1.1; omega
        have e1 := S_dig10 (z := W.1 9 i) (by omega)
        have e2 := S_dig1 (z := W.1 10 i) (by omega)
        have e3 := S_dig1 (z := W.1 11 i) (by omega)
        have e4 := S_dig2 (z := W.1 12 i) (by omega)
        have e5 := S_dig2 (z := W.1 13 i) (by omega)
        have hl9 := R_con_len hB i.toNat (by omega)
        refine m_aload_n hC 4 dL_areContractsRight_83 rfl rfl ?_
        refine m_iload hC 0 dL_areContractsRight_84 rfl ?_
        refine m_qV hC (Q_contractAt hF hl hX (X1.kK U1).2.1 (X1.kK U1).2.2.1 hB (by omega)) dL_areContractsRight_86 kc_X9_contractAt kV_L_89 (X1.kK U1).2.1 rfl rfl rfl rfl (Nat.le_of_ble_eq_true rfl) ⟨Nat.le_of_ble_eq_true rfl, Nat.le_of_ble_eq_true rfl⟩ ⟨by show _ ≤ 3500; omega, by show _ ≤ 120000; omega⟩ ?_
        refine m_istore hC dL_areContractsRight_89 (by decide) rfl ?_
        have REST : ∀ (M5 : m_M) (q5 : Nat), M1.1 ≤ q5 → sN q5 (q5 + 1) (R_con W.1 (i + 1).toNat) M5 → kK M1 M5 → m_W D aC s0 8 p l e (m_R 15 (3500) (120000)) s m args below meth c (c9 + 20) (s9 + 12000) (m_Q D aC s0 below (fun v M' => v = some (VI 1) ∧ ∃ t : List Int, t.length ≤ 240 ∧ gIn s0.heap.size fo x w (wOt W t) M') m_nx args s (3500) (120000)) 187 [(5, VI (W.1 9 i)), (4, VI i), (3, VI 1), (2, .ref q5), (1, VI (W.1 0 11)), (0, .ref x)] [] M5 := by
          intro M5 q5 hq5 S5 U5
          refine m_iload_n hC 2 dL_areContractsRight_187 rfl rfl ?_
          refine m_if_eq (tgt := 213) hC dL_areContractsRight_188 (by decide) (by omega) (fun c21 => by omega) (fun c21 => ?_)
          refine m_iload hC 1 dL_areContractsRight_191 rfl ?_
          refine m_if_eq (tgt := 209) hC dL_areContractsRight_193 (by decide) (by first | omega | (simp [hs_at] <;> omega)) (fun c22 => ?_) (fun c22 => ?_)
          · refine m_iconst hC dL_areContractsRight_209 ?_
            refine m_goto (tgt := 214) hC dL_areContractsRight_210 (by decide) ?_
            refine m_istore_n hC dL_areContractsRight_214 rfl (by decide) rfl ?_
            refine m_iconst hC dL_areContractsRight_215 ?_
            refine m_istore hC dL_areContractsRight_216 (by decide) rfl ?_
            have L2 : ∀ (n2 : Nat) (j : Int), i - j < (n2 : Int) → 0 ≤ j → j ≤ i → m_W D aC s0 8 p l e (m_R 15 (3500) (120000)) s m args below meth c (c9 + 20) (s9 + 12000) (m_Q D aC s0 below (fun v M' => v = some (VI 1) ∧ ∃ t : List Int, t.length ≤ 240 ∧ gIn s0.heap.size fo x w (wOt W t) M') m_nx args s (3500) (120000)) 218 [(6, VI j), (5, VI (W.1 9 i)), (4, VI i), (3, VI 1), (2, .ref q5), (1, VI (W.1 0 11)), (0, .ref x)] [] M5 := by
              intro n2
              induction n2 with
              | zero =>
                intro j hm g0 g1
                omega
              | succ n2 ih2 =>
                intro j hm g0 g1
                refine m_iload hC 0 dL_areContractsRight_218 rfl ?_
                refine m_iload hC 2 dL_areContractsRight_220 rfl ?_
                refine m_icmp_ge (tgt := 279) hC dL_areContractsRight_222 (by decide) (by first | omega | (simp [hs_at] <;> omega)) (fun c23 => ?_) (fun c23 => ?_)
                · refine m_iinc hC 2 dL_areContractsRight_279 rfl (by decide) rfl ?_
                  refine m_goto (tgt := 77) hC dL_areContractsRight_282 (by decide) ?_
                  refine m_lvs [0, 3, 4, 5, 6] rfl (ih (i + 1) _ _ q5 (q5 + 1) M5 (by omega) (by omega) (by omega) (U1.tr U5) (Or.inr S5) (by have := U1.1; omega) (by omega) (by omega))
                · have hcj := hB.co (i := j) (by omega)
                  have hu := hun j i (by omega) (by omega) (by omega)
                  refine m_aload_n hC 6 dL_areContractsRight_225 rfl rfl ?_
                  refine m_iload hC 0 dL_areContractsRight_226 rfl ?_
                  refine m_qV hC (Q_contractAt hF hl hX (X1.kK (U1.tr U5)).2.1 (X1.kK (U1.tr U5)).2.2.1 hB (by omega)) dL_areContractsRight_228 kc_X9_contractAt kV_L_89 (X1.kK (U1.tr U5)).2.1 rfl rfl rfl rfl (Nat.le_of_ble_eq_true rfl) ⟨Nat.le_of_ble_eq_true rfl, Nat.le_of_ble_eq_true rfl⟩ ⟨by show _ ≤ 3500; omega, by show _ ≤ 120000; omega⟩ ?_
                  refine m_istore hC dL_areContractsRight_231 (by decide) rfl ?_
                  refine m_iload_n hC 4 dL_areContractsRight_233 rfl rfl ?_
                  refine m_if_eq (tgt := 271) hC dL_areContractsRight_234 (by decide) (by omega) (fun c24 => by omega) (fun c24 => ?_)
                  refine m_aload_n hC 7 dL_areContractsRight_237 rfl rfl ?_
                  refine m_iload hC 0 dL_areContractsRight_238 rfl ?_
                  refine m_qV hC (Q_goblinOf hF hl hX (X1.kK (U1.tr U5)).2.1 (X1.kK (U1.tr U5)).2.2.1 hB (k := j) (by omega) hx) dL_areContractsRight_240 kc_X9_goblinOf kV_L_185 (X1.kK (U1.tr U5)).2.1 rfl rfl rfl rfl (Nat.le_of_ble_eq_true rfl) ⟨Nat.le_of_ble_eq_true rfl, Nat.le_of_ble_eq_true rfl⟩ ⟨by show _ ≤ 3500; omega, by show _ ≤ 120000; omega⟩ ?_
                  refine m_aload_n hC 7 dL_areContractsRight_243 rfl rfl ?_
                  refine m_iload hC 2 dL_areContractsRight_244 rfl ?_
                  refine m_qV hC (Q_goblinOf hF hl hX (X1.kK (U1.tr U5)).2.1 (X1.kK (U1.tr U5)).2.2.1 hB (k := i) (by omega) hx) dL_areContractsRight_246 kc_X9_goblinOf kV_L_185 (X1.kK (U1.tr U5)).2.1 rfl rfl rfl rfl (Nat.le_of_ble_eq_true rfl) ⟨Nat.le_of_ble_eq_true rfl, Nat.le_of_ble_eq_true rfl⟩ ⟨by show _ ≤ 3500; omega, by show _ ≤ 120000; omega⟩ ?_
                  refine m_icmp_ne (tgt := 267) hC dL_areContractsRight_249 (by decide) (by first | omega | (simp [hs_at] <;> omega)) (fun c25 => ?_) (fun c25 => ?_)
                  · refine m_iconst hC dL_areContractsRight_267 ?_
                    refine m_goto (tgt := 272) hC dL_areContractsRight_268 (by decide) ?_
                    refine m_istore_n hC dL_areContractsRight_272 rfl (by decide) rfl ?_
                    refine m_iinc hC 2 dL_areContractsRight_273 rfl (by decide) rfl ?_
                    refine m_goto (tgt := 218) hC dL_areContractsRight_276 (by decide) ?_
                    refine m_lvs [0, 3, 4, 1, 5, 6, 7] rfl (ih2 (j + 1) (by omega) (by omega) (by omega))
                  · refine m_aload_n hC 7 dL_areContractsRight_252 rfl rfl ?_
                    refine m_iload hC 0 dL_areContractsRight_253 rfl ?_
                    refine m_qV hC (Q_roomOf hF hl hX (X1.kK (U1.tr U5)).2.1 (X1.kK (U1.tr U5)).2.2.1 hB (k := j) (by omega) hx) dL_areContractsRight_255 kc_X9_roomOf kV_L_188 (X1.kK (U1.tr U5)).2.1 rfl rfl rfl rfl (Nat.le_of_ble_eq_true rfl) ⟨Nat.le_of_ble_eq_true rfl, Nat.le_of_ble_eq_true rfl⟩ ⟨by show _ ≤ 3500; omega, by show _ ≤ 120000; omega⟩ ?_
                    refine m_aload_n hC 7 dL_areContractsRight_258 rfl rfl ?_
                    refine m_iload hC 2 dL_areContractsRight_259 rfl ?_
                    refine m_qV hC (Q_roomOf hF hl hX (X1.kK (U1.tr U5)).2.1 (X1.kK (U1.tr U5)).2.2.1 hB (k := i) (by omega) hx) dL_areContractsRight_261 kc_X9_roomOf kV_L_188 (X1.kK (U1.tr U5)).2.1 rfl rfl rfl rfl (Nat.le_of_ble_eq_true rfl) ⟨Nat.le_of_ble_eq_true rfl, Nat.le_of_ble_eq_true rfl⟩ ⟨by show _ ≤ 3500; omega, by show _ ≤ 120000; omega⟩ ?_
                    refine m_icmp_eq (tgt := 271) hC dL_areContractsRight_264 (by decide) (by first | omega | (simp [hs_at] <;> omega)) (fun c26 => by omega) (fun c26 => ?_)
                    refine m_iconst hC dL_areContractsRight_267 ?_
                    refine m_goto (tgt := 272) hC dL_areContractsRight_268 (by decide) ?_
                    refine m_istore_n hC dL_areContractsRight_272 rfl (by decide) rfl ?_
                    refine m_iinc hC 2 dL_areContractsRight_273 rfl (by decide) rfl ?_
                    refine m_goto (tgt := 218) hC dL_areContractsRight_276 (by decide) ?_
                    refine m_lvs [0, 3, 4, 1, 5, 6, 7] rfl (ih2 (j + 1) (by omega) (by omega) (by omega))
            refine m_lvs [0, 2, 3, 1, 4, 5, 6] rfl (L2 (i.toNat + 1) 0 (by omega) (by omega) (by omega))
          · have hlt9 := hx (i - 1) i (by omega) (by omega) (by omega)
            have hcm := hB.co (i := i - 1) (by omega)
            refine m_aload_n hC 5 dL_areContractsRight_196 rfl rfl ?_
            refine m_iload hC 1 dL_areContractsRight_197 rfl ?_
            refine m_iconst hC dL_areContractsRight_199 ?_
            refine m_isub hC dL_areContractsRight_200 ?_
            refine m_qV hC (Q_contractAt hF hl hX (X1.kK (U1.tr U5)).2.1 (X1.kK (U1.tr U5)).2.2.1 hB (by omega)) dL_areContractsRight_201 kc_X9_contractAt kV_L_89 (X1.kK (U1.tr U5)).2.1 rfl rfl rfl rfl (Nat.le_of_ble_eq_true rfl) ⟨Nat.le_of_ble_eq_true rfl, Nat.le_of_ble_eq_true rfl⟩ ⟨by show _ ≤ 3500; omega, by show _ ≤ 120000; omega⟩ ?_
            refine m_iload hC 0 dL_areContractsRight_204 rfl ?_
            refine m_icmp_ge (tgt := 213) hC dL_areContractsRight_206 (by decide) (by first | omega | (simp [hs_at] <;> omega)) (fun c27 => by omega) (fun c27 => ?_)
            refine m_iconst hC dL_areContractsRight_209 ?_
            refine m_goto (tgt := 214) hC dL_areContractsRight_210 (by decide) ?_
            refine m_istore_n hC dL_areContractsRight_214 rfl (by decide) rfl ?_
            refine m_iconst hC dL_areContractsRight_215 ?_
            refine m_istore hC dL_areContractsRight_216 (by decide) rfl ?_
            have L2 : ∀ (n2 : Nat) (j : Int), i - j < (n2 : Int) → 0 ≤ j → j ≤ i → m_W D aC s0 8 p l e (m_R 15 (3500) (120000)) s m args below meth c (c9 + 20) (s9 + 12000) (m_Q D aC s0 below (fun v M' => v = some (VI 1) ∧ ∃ t : List Int, t.length ≤ 240 ∧ gIn s0.heap.size fo x w (wOt W t) M') m_nx args s (3500) (120000)) 218 [(6, VI j), (5, VI (W.1 9 i)), (4, VI i), (3, VI 1), (2, .ref q5), (1, VI (W.1 0 11)), (0, .ref x)] [] M5 := by
              intro n2
              induction n2 with
              | zero =>
                intro j hm g0 g1
                omega
              | succ n2 ih2 =>
                intro j hm g0 g1
                refine m_iload hC 0 dL_areContractsRight_218 rfl ?_
                refine m_iload hC 2 dL_areContractsRight_220 rfl ?_
                refine m_icmp_ge (tgt := 279) hC dL_areContractsRight_222 (by decide) (by first | omega | (simp [hs_at] <;> omega)) (fun c28 => ?_) (fun c28 => ?_)
                · refine m_iinc hC 2 dL_areContractsRight_279 rfl (by decide) rfl ?_
                  refine m_goto (tgt := 77) hC dL_areContractsRight_282 (by decide) ?_
                  refine m_lvs [0, 3, 4, 5, 6] rfl (ih (i + 1) _ _ q5 (q5 + 1) M5 (by omega) (by omega) (by omega) (U1.tr U5) (Or.inr S5) (by have := U1.1; omega) (by omega) (by omega))
                · have hcj := hB.co (i := j) (by omega)
                  have hu := hun j i (by omega) (by omega) (by omega)
                  refine m_aload_n hC 6 dL_areContractsRight_225 rfl rfl ?_
                  refine m_iload hC 0 dL_areContractsRight_226 rfl ?_
                  refine m_qV hC (Q_contractAt hF hl hX (X1.kK (U1.tr U5)).2.1 (X1.kK (U1.tr U5)).2.2.1 hB (by omega)) dL_areContractsRight_228 kc_X9_contractAt kV_L_89 (X1.kK (U1.tr U5)).2.1 rfl rfl rfl rfl (Nat.le_of_ble_eq_true rfl) ⟨Nat.le_of_ble_eq_true rfl, Nat.le_of_ble_eq_true rfl⟩ ⟨by show _ ≤ 3500; omega, by show _ ≤ 120000; omega⟩ ?_
                  refine m_istore hC dL_areContractsRight_231 (by decide) rfl ?_
                  refine m_iload_n hC 4 dL_areContractsRight_233 rfl rfl ?_
                  refine m_if_eq (tgt := 271) hC dL_areContractsRight_234 (by decide) (by omega) (fun c29 => by omega) (fun c29 => ?_)
                  refine m_aload_n hC 7 dL_areContractsRight_237 rfl rfl ?_
                  refine m_iload hC 0 dL_areContractsRight_238 rfl ?_
                  refine m_qV hC (Q_goblinOf hF hl hX (X1.kK (U1.tr U5)).2.1 (X1.kK (U1.tr U5)).2.2.1 hB (k := j) (by omega) hx) dL_areContractsRight_240 kc_X9_goblinOf kV_L_185 (X1.kK (U1.tr U5)).2.1 rfl rfl rfl rfl (Nat.le_of_ble_eq_true rfl) ⟨Nat.le_of_ble_eq_true rfl, Nat.le_of_ble_eq_true rfl⟩ ⟨by show _ ≤ 3500; omega, by show _ ≤ 120000; omega⟩ ?_
                  refine m_aload_n hC 7 dL_areContractsRight_243 rfl rfl ?_
                  refine m_iload hC 2 dL_areContractsRight_244 rfl ?_
                  refine m_qV hC (Q_goblinOf hF hl hX (X1.kK (U1.tr U5)).2.1 (X1.kK (U1.tr U5)).2.2.1 hB (k := i) (by omega) hx) dL_areContractsRight_246 kc_X9_goblinOf kV_L_185 (X1.kK (U1.tr U5)).2.1 rfl rfl rfl rfl (Nat.le_of_ble_eq_true rfl) ⟨Nat.le_of_ble_eq_true rfl, Nat.le_of_ble_eq_true rfl⟩ ⟨by show _ ≤ 3500; omega, by show _ ≤ 120000; omega⟩ ?_
                  refine m_icmp_ne (tgt := 267) hC dL_areContractsRight_249 (by decide) (by first | omega | (simp [hs_at] <;> omega)) (fun c30 => ?_) (fun c30 => ?_)
                  · refine m_iconst hC dL_areContractsRight_267 ?_
                    refine m_goto (tgt := 272) hC dL_areContractsRight_268 (by decide) ?_
                    refine m_istore_n hC dL_areContractsRight_272 rfl (by decide) rfl ?_
                    refine m_iinc hC 2 dL_areContractsRight_273 rfl (by decide) rfl ?_
                    refine m_goto (tgt := 218) hC dL_areContractsRight_276 (by decide) ?_
                    refine m_lvs [0, 3, 4, 1, 5, 6, 7] rfl (ih2 (j + 1) (by omega) (by omega) (by omega))
                  · refine m_aload_n hC 7 dL_areContractsRight_252 rfl rfl ?_
                    refine m_iload hC 0 dL_areContractsRight_253 rfl ?_
                    refine m_qV hC (Q_roomOf hF hl hX (X1.kK (U1.tr U5)).2.1 (X1.kK (U1.tr U5)).2.2.1 hB (k := j) (by omega) hx) dL_areContractsRight_255 kc_X9_roomOf kV_L_188 (X1.kK (U1.tr U5)).2.1 rfl rfl rfl rfl (Nat.le_of_ble_eq_true rfl) ⟨Nat.le_of_ble_eq_true rfl, Nat.le_of_ble_eq_true rfl⟩ ⟨by show _ ≤ 3500; omega, by show _ ≤ 120000; omega⟩ ?_
                    refine m_aload_n hC 7 dL_areContractsRight_258 rfl rfl ?_
                    refine m_iload hC 2 dL_areContractsRight_259 rfl ?_
                    refine m_qV hC (Q_roomOf hF hl hX (X1.kK (U1.tr U5)).2.1 (X1.kK (U1.tr U5)).2.2.1 hB (k := i) (by omega) hx) dL_areContractsRight_261 kc_X9_roomOf kV_L_188 (X1.kK (U1.tr U5)).2.1 rfl rfl rfl rfl (Nat.le_of_ble_eq_true rfl) ⟨Nat.le_of_ble_eq_true rfl, Nat.le_of_ble_eq_true rfl⟩ ⟨by show _ ≤ 3500; omega, by show _ ≤ 120000; omega⟩ ?_
                    refine m_icmp_eq (tgt := 271) hC dL_areContractsRight_264 (by decide) (by first | omega | (simp [hs_at] <;> omega)) (fun c31 => by omega) (fun c31 => ?_)
                    refine m_iconst hC dL_areContractsRight_267 ?_
                    refine m_goto (tgt := 272) hC dL_areContractsRight_268 (by decide) ?_
                    refine m_istore_n hC dL_areContractsRight_272 rfl (by decide) rfl ?_
                    refine m_iinc hC 2 dL_areContractsRight_273 rfl (by decide) rfl ?_
                    refine m_goto (tgt := 218) hC dL_areContractsRight_276 (by decide) ?_
                    refine m_lvs [0, 3, 4, 1, 5, 6, 7] rfl (ih2 (j + 1) (by omega) (by omega) (by omega))
            refine m_lvs [0, 2, 3, 1, 4, 5, 6] rfl (L2 (i.toNat + 1) 0 (by omega) (by omega) (by omega))
        refine m_newsb hC hJ (by omega) dL_areContractsRight_91 dL_areContractsRight_94 dL_areContractsRight_95 (Nat.le_of_ble_eq_true rfl) ⟨Nat.le_of_ble_eq_true rfl, Nat.le_of_ble_eq_true rfl⟩ ⟨by show _ ≤ 3500; omega, by show _ ≤ 120000; omega⟩ (fun Mb1 Tb1 Kb1 => ?_)
        refine m_aload_n hC 3 dL_areContractsRight_98 rfl rfl ?_
        refine m_apS hC hJ hJS Tb1 (hs1.kK (by omega) Kb1.1) (by have := Kb1.2.2; have := hs1.lt (by omega); omega) (by (try simp only [List.length_append, List.length_cons, List.length_nil]); omega) dL_areContractsRight_99 (Nat.le_of_ble_eq_true rfl) ⟨Nat.le_of_ble_eq_true rfl, Nat.le_of_ble_eq_true rfl⟩ ⟨by show _ ≤ 3500; omega, by show _ ≤ 120000; omega⟩ (fun vb2 nb2 Mb2 Tb2 Fb2 => ?_)
        have Kb2 := Kb1.sb Fb2
        refine m_iload hC 1 dL_areContractsRight_102 rfl ?_
        refine m_if_ne (tgt := 112) hC dL_areContractsRight_104 (by decide) (by first | omega | (simp [hs_at] <;> omega)) (fun c32 => ?_) (fun c32 => ?_)
        · refine m_ldc_ws hC dL_areContractsRight_112 hLS.r5 ?_
          refine m_apS hC hJ hJS Tb2 (Or.inl hLS.t5) (by have := (hLS.t5).lt.2; have := Kb2.2.2; omega) (by (try simp only [List.length_append, List.length_cons, List.length_nil]); omega) dL_areContractsRight_115 (Nat.le_of_ble_eq_true rfl) ⟨Nat.le_of_ble_eq_true rfl, Nat.le_of_ble_eq_true rfl⟩ ⟨by show _ ≤ 3500; omega, by show _ ≤ 120000; omega⟩ (fun vb3 nb3 Mb3 Tb3 Fb3 => ?_)
          have Kb3 := Kb2.sb Fb3
          refine m_iload hC 0 dL_areContractsRight_118 rfl ?_
          refine m_apI hC hJ Tb3 (by omega) (by (try simp only [List.length_append, List.length_cons, List.length_nil]); omega) dL_areContractsRight_120 (Nat.le_of_ble_eq_true rfl) ⟨Nat.le_of_ble_eq_true rfl, Nat.le_of_ble_eq_true rfl⟩ ⟨by show _ ≤ 3500; omega, by show _ ≤ 120000; omega⟩ (fun vb4 nb4 Mb4 Tb4 Fb4 => ?_)
          have Kb4 := Kb3.sb Fb4
          refine m_ldc_ws hC dL_areContractsRight_123 hLS.r6 ?_
          refine m_apS hC hJ hJS Tb4 (Or.inl hLS.t6) (by have := (hLS.t6).lt.2; have := Kb4.2.2; omega) (by (try simp only [List.length_append, List.length_cons, List.length_nil]); omega) dL_areContractsRight_126 (Nat.le_of_ble_eq_true rfl) ⟨Nat.le_of_ble_eq_true rfl, Nat.le_of_ble_eq_true rfl⟩ ⟨by show _ ≤ 3500; omega, by show _ ≤ 120000; omega⟩ (fun vb5 nb5 Mb5 Tb5 Fb5 => ?_)
          have Kb5 := Kb4.sb Fb5
          refine m_aload_n hC 5 dL_areContractsRight_129 rfl rfl ?_
          refine m_iload hC 0 dL_areContractsRight_130 rfl ?_
          refine m_qV hC (Q_goblinOf hF hl hX ((X1.kK U1).kK Kb5.1).2.1 ((X1.kK U1).kK Kb5.1).2.2.1 hB (k := i) (by omega) hx) dL_areContractsRight_132 kc_X9_goblinOf kV_L_185 ((X1.kK U1).kK Kb5.1).2.1 rfl rfl rfl rfl (Nat.le_of_ble_eq_true rfl) ⟨Nat.le_of_ble_eq_true rfl, Nat.le_of_ble_eq_true rfl⟩ ⟨by show _ ≤ 3500; omega, by show _ ≤ 120000; omega⟩ ?_
          refine m_apI hC hJ Tb5 (by omega) (by (try simp only [List.length_append, List.length_cons, List.length_nil]); omega) dL_areContractsRight_135 (Nat.le_of_ble_eq_true rfl) ⟨Nat.le_of_ble_eq_true rfl, Nat.le_of_ble_eq_true rfl⟩ ⟨by show _ ≤ 3500; omega, by show _ ≤ 120000; omega⟩ (fun vb6 nb6 Mb6 Tb6 Fb6 => ?_)
          have Kb6 := Kb5.sb Fb6
          refine m_ldc_ws hC dL_areContractsRight_138 hLS.r7 ?_
          refine m_apS hC hJ hJS Tb6 (Or.inl hLS.t7) (by have := (hLS.t7).lt.2; have := Kb6.2.2; omega) (by (try simp only [List.length_append, List.length_cons, List.length_nil]); omega) dL_areContractsRight_141 (Nat.le_of_ble_eq_true rfl) ⟨Nat.le_of_ble_eq_true rfl, Nat.le_of_ble_eq_true rfl⟩ ⟨by show _ ≤ 3500; omega, by show _ ≤ 120000; omega⟩ (fun vb7 nb7 Mb7 Tb7 Fb7 => ?_)
          have Kb7 := Kb6.sb Fb7
          refine m_aload_n hC 5 dL_areContractsRight_144 rfl rfl ?_
          refine m_iload hC 0 dL_areContractsRight_145 rfl ?_
          refine m_qV hC (Q_roomOf hF hl hX ((X1.kK U1).kK Kb7.1).2.1 ((X1.kK U1).kK Kb7.1).2.2.1 hB (k := i) (by omega) hx) dL_areContractsRight_147 kc_X9_roomOf kV_L_188 ((X1.kK U1).kK Kb7.1).2.1 rfl rfl rfl rfl (Nat.le_of_ble_eq_true rfl) ⟨Nat.le_of_ble_eq_true rfl, Nat.le_of_ble_eq_true rfl⟩ ⟨by show _ ≤ 3500; omega, by show _ ≤ 120000; omega⟩ ?_
          refine m_apI hC hJ Tb7 (by omega) (by (try simp only [List.length_append, List.length_cons, List.length_nil]); omega) dL_areContractsRight_150 (Nat.le_of_ble_eq_true rfl) ⟨Nat.le_of_ble_eq_true rfl, Nat.le_of_ble_eq_true rfl⟩ ⟨by show _ ≤ 3500; omega, by show _ ≤ 120000; omega⟩ (fun vb8 nb8 Mb8 Tb8 Fb8 => ?_)
          have Kb8 := Kb7.sb Fb8
          refine m_ldc_ws hC dL_areContractsRight_153 hLS.r8 ?_
          refine m_apS hC hJ hJS Tb8 (Or.inl hLS.t8) (by have := (hLS.t8).lt.2; have := Kb8.2.2; omega) (by (try simp only [List.length_append, List.length_cons, List.length_nil]); omega) dL_areContractsRight_156 (Nat.le_of_ble_eq_true rfl) ⟨Nat.le_of_ble_eq_true rfl, Nat.le_of_ble_eq_true rfl⟩ ⟨by show _ ≤ 3500; omega, by show _ ≤ 120000; omega⟩ (fun vb9 nb9 Mb9 Tb9 Fb9 => ?_)
          have Kb9 := Kb8.sb Fb9
          refine m_aload_n hC 5 dL_areContractsRight_159 rfl rfl ?_
          refine m_iload hC 0 dL_areContractsRight_160 rfl ?_
          refine m_qV hC (Q_wage hF hl hX ((X1.kK U1).kK Kb9.1).2.1 ((X1.kK U1).kK Kb9.1).2.2.1 hB (k := i) (by omega) hx) dL_areContractsRight_162 kc_X9_wage kV_L_92 ((X1.kK U1).kK Kb9.1).2.1 rfl rfl rfl rfl (Nat.le_of_ble_eq_true rfl) ⟨Nat.le_of_ble_eq_true rfl, Nat.le_of_ble_eq_true rfl⟩ ⟨by show _ ≤ 3500; omega, by show _ ≤ 120000; omega⟩ ?_
          refine m_apI hC hJ Tb9 (by omega) (by (try simp only [List.length_append, List.length_cons, List.length_nil]); omega) dL_areContractsRight_165 (Nat.le_of_ble_eq_true rfl) ⟨Nat.le_of_ble_eq_true rfl, Nat.le_of_ble_eq_true rfl⟩ ⟨by show _ ≤ 3500; omega, by show _ ≤ 120000; omega⟩ (fun vb10 nb10 Mb10 Tb10 Fb10 => ?_)
          have Kb10 := Kb9.sb Fb10
          refine m_ldc_ws hC dL_areContractsRight_168 hLS.r9 ?_
          refine m_apS hC hJ hJS Tb10 (Or.inl hLS.t9) (by have := (hLS.t9).lt.2; have := Kb10.2.2; omega) (by (try simp only [List.length_append, List.length_cons, List.length_nil]); omega) dL_areContractsRight_171 (Nat.le_of_ble_eq_true rfl) ⟨Nat.le_of_ble_eq_true rfl, Nat.le_of_ble_eq_true rfl⟩ ⟨by show _ ≤ 3500; omega, by show _ ≤ 120000; omega⟩ (fun vb11 nb11 Mb11 Tb11 Fb11 => ?_)
          have Kb11 := Kb10.sb Fb11
          refine m_aload_n hC 5 dL_areContractsRight_174 rfl rfl ?_
          refine m_iload hC 0 dL_areContractsRight_175 rfl ?_
          refine m_qV hC (Q_effort hF hl hX ((X1.kK U1).kK Kb11.1).2.1 ((X1.kK U1).kK Kb11.1).2.2.1 hB (k := i) (by omega) hx) dL_areContractsRight_177 kc_X9_effort kV_L_191 ((X1.kK U1).kK Kb11.1).2.1 rfl rfl rfl rfl (Nat.le_of_ble_eq_true rfl) ⟨Nat.le_of_ble_eq_true rfl, Nat.le_of_ble_eq_true rfl⟩ ⟨by show _ ≤ 3500; omega, by show _ ≤ 120000; omega⟩ ?_
          refine m_apI hC hJ Tb11 (by omega) (by (try simp only [List.length_append, List.length_cons, List.length_nil]); omega) dL_areContractsRight_180 (Nat.le_of_ble_eq_true rfl) ⟨Nat.le_of_ble_eq_true rfl, Nat.le_of_ble_eq_true rfl⟩ ⟨by show _ ≤ 3500; omega, by show _ ≤ 120000; omega⟩ (fun vb12 nb12 Mb12 Tb12 Fb12 => ?_)
          have Kb12 := Kb11.sb Fb12
          refine m_tos hC hJ hJS Tb12 (by (try simp only [List.length_append, List.length_cons, List.length_nil]); omega) dL_areContractsRight_183 (Nat.le_of_ble_eq_true rfl) ⟨Nat.le_of_ble_eq_true rfl, Nat.le_of_ble_eq_true rfl⟩ ⟨by show _ ≤ 3500; omega, by show _ ≤ 120000; omega⟩ (fun Mb13 Sb13 Qb13 => ?_)
          have Ub13 := Kb12.1.tr Qb13
          refine m_astore_n hC dL_areContractsRight_186 rfl (by decide) rfl ?_
          have hR9 : sN Mb12.1 (Mb12.1 + 1) (R_con W.1 (i + 1).toNat) Mb13 := by
            rw [R_con_s h0]
            first | rw [if_pos (by omega)] | rw [if_neg (by omega)]
            unfold R_c1
            simpa only [List.append_assoc, List.nil_append, List.append_nil] using Sb13
          exact m_lvs [1, 2, 3, 0, 4, 5] rfl (m_wd (by omega) (by omega) (REST _ _ (by have := Kb12.1.1; omega) hR9 Ub13))
        · refine m_ldcs hC dL_areContractsRight_107 hLS.r2 ?_
          refine m_goto (tgt := 115) hC dL_areContractsRight_109 (by decide) ?_
          refine m_apS hC hJ hJS Tb2 (Or.inl hLS.t2) (by have := (hLS.t2).lt.2; have := Kb2.2.2; omega) (by (try simp only [List.length_append, List.length_cons, List.length_nil]); omega) dL_areContractsRight_115 (Nat.le_of_ble_eq_true rfl) ⟨Nat.le_of_ble_eq_true rfl, Nat.le_of_ble_eq_true rfl⟩ ⟨by show _ ≤ 3500; omega, by show _ ≤ 120000; omega⟩ (fun vb14 nb14 Mb14 Tb14 Fb14 => ?_)
          have Kb14 := Kb2.sb Fb14
          refine m_iload hC 0 dL_areContractsRight_118 rfl ?_
          refine m_apI hC hJ Tb14 (by omega) (by (try simp only [List.length_append, List.length_cons, List.length_nil]); omega) dL_areContractsRight_120 (Nat.le_of_ble_eq_true rfl) ⟨Nat.le_of_ble_eq_true rfl, Nat.le_of_ble_eq_true rfl⟩ ⟨by show _ ≤ 3500; omega, by show _ ≤ 120000; omega⟩ (fun vb15 nb15 Mb15 Tb15 Fb15 => ?_)
          have Kb15 := Kb14.sb Fb15
          refine m_ldc_ws hC dL_areContractsRight_123 hLS.r6 ?_
          refine m_apS hC hJ hJS Tb15 (Or.inl hLS.t6) (by have := (hLS.t6).lt.2; have := Kb15.2.2; omega) (by (try simp only [List.length_append, List.length_cons, List.length_nil]); omega) dL_areContractsRight_126 (Nat.le_of_ble_eq_true rfl) ⟨Nat.le_of_ble_eq_true rfl, Nat.le_of_ble_eq_true rfl⟩ ⟨by show _ ≤ 3500; omega, by show _ ≤ 120000; omega⟩ (fun vb16 nb16 Mb16 Tb16 Fb16 => ?_)
          have Kb16 := Kb15.sb Fb16
          refine m_aload_n hC 5 dL_areContractsRight_129 rfl rfl ?_
          refine m_iload hC 0 dL_areContractsRight_130 rfl ?_
          refine m_qV hC (Q_goblinOf hF hl hX ((X1.kK U1).kK Kb16.1).2.1 ((X1.kK U1).kK Kb16.1).2.2.1 hB (k := i) (by omega) hx) dL_areContractsRight_132 kc_X9_goblinOf kV_L_185 ((X1.kK U1).kK Kb16.1).2.1 rfl rfl rfl rfl (Nat.le_of_ble_eq_true rfl) ⟨Nat.le_of_ble_eq_true rfl, Nat.le_of_ble_eq_true rfl⟩ ⟨by show _ ≤ 3500; omega, by show _ ≤ 120000; omega⟩ ?_
          refine m_apI hC hJ Tb16 (by omega) (by (try simp only [List.length_append, List.length_cons, List.length_nil]); omega) dL_areContractsRight_135 (Nat.le_of_ble_eq_true rfl) ⟨Nat.le_of_ble_eq_true rfl, Nat.le_of_ble_eq_true rfl⟩ ⟨by show _ ≤ 3500; omega, by show _ ≤ 120000; omega⟩ (fun vb17 nb17 Mb17 Tb17 Fb17 => ?_)
          have Kb17 := Kb16.sb Fb17
          refine m_ldc_ws hC dL_areContractsRight_138 hLS.r7 ?_
          refine m_apS hC hJ hJS Tb17 (Or.inl hLS.t7) (by have := (hLS.t7).lt.2; have := Kb17.2.2; omega) (by (try simp only [List.length_append, List.length_cons, List.length_nil]); omega) dL_areContractsRight_141 (Nat.le_of_ble_eq_true rfl) ⟨Nat.le_of_ble_eq_true rfl, Nat.le_of_ble_eq_true rfl⟩ ⟨by show _ ≤ 3500; omega, by show _ ≤ 120000; omega⟩ (fun vb18 nb18 Mb18 Tb18 Fb18 => ?_)
          have Kb18 := Kb17.sb Fb18
          refine m_aload_n hC 5 dL_areContractsRight_144 rfl rfl ?_
          refine m_iload hC 0 dL_areContractsRight_145 rfl ?_
          refine m_qV hC (Q_roomOf hF hl hX ((X1.kK U1).kK Kb18.1).2.1 ((X1.kK U1).kK Kb18.1).2.2.1 hB (k := i) (by omega) hx) dL_areContractsRight_147 kc_X9_roomOf kV_L_188 ((X1.kK U1).kK Kb18.1).2.1 rfl rfl rfl rfl (Nat.le_of_ble_eq_true rfl) ⟨Nat.le_of_ble_eq_true rfl, Nat.le_of_ble_eq_true rfl⟩ ⟨by show _ ≤ 3500; omega, by show _ ≤ 120000; omega⟩ ?_
          refine m_apI hC hJ Tb18 (by omega) (by (try simp only [List.length_append, List.length_cons, List.length_nil]); omega) dL_areContractsRight_150 (Nat.le_of_ble_eq_true rfl) ⟨Nat.le_of_ble_eq_true rfl, Nat.le_of_ble_eq_true rfl⟩ ⟨by show _ ≤ 3500; omega, by show _ ≤ 120000; omega⟩ (fun vb19 nb19 Mb19 Tb19 Fb19 => ?_)
          have Kb19 := Kb18.sb Fb19
          refine m_ldc_ws hC dL_areContractsRight_153 hLS.r8 ?_
          refine m_apS hC hJ hJS Tb19 (Or.inl hLS.t8) (by have := (hLS.t8).lt.2; have := Kb19.2.2; omega) (by (try simp only [List.length_append, List.length_cons, List.length_nil]); omega) dL_areContractsRight_156 (Nat.le_of_ble_eq_true rfl) ⟨Nat.le_of_ble_eq_true rfl, Nat.le_of_ble_eq_true rfl⟩ ⟨by show _ ≤ 3500; omega, by show _ ≤ 120000; omega⟩ (fun vb20 nb20 Mb20 Tb20 Fb20 => ?_)
          have Kb20 := Kb19.sb Fb20
          refine m_aload_n hC 5 dL_areContractsRight_159 rfl rfl ?_
          refine m_iload hC 0 dL_areContractsRight_160 rfl ?_
          refine m_qV hC (Q_wage hF hl hX ((X1.kK U1).kK Kb20.1).2.1 ((X1.kK U1).kK Kb20.1).2.2.1 hB (k := i) (by omega) hx) dL_areContractsRight_162 kc_X9_wage kV_L_92 ((X1.kK U1).kK Kb20.1).2.1 rfl rfl rfl rfl (Nat.le_of_ble_eq_true rfl) ⟨Nat.le_of_ble_eq_true rfl, Nat.le_of_ble_eq_true rfl⟩ ⟨by show _ ≤ 3500; omega, by show _ ≤ 120000; omega⟩ ?_
          refine m_apI hC hJ Tb20 (by omega) (by (try simp only [List.length_append, List.length_cons, List.length_nil]); omega) dL_areContractsRight_165 (Nat.le_of_ble_eq_true rfl) ⟨Nat.le_of_ble_eq_true rfl, Nat.le_of_ble_eq_true rfl⟩ ⟨by show _ ≤ 3500; omega, by show _ ≤ 120000; omega⟩ (fun vb21 nb21 Mb21 Tb21 Fb21 => ?_)
          have Kb21 := Kb20.sb Fb21
          refine m_ldc_ws hC dL_areContractsRight_168 hLS.r9 ?_
          refine m_apS hC hJ hJS Tb21 (Or.inl hLS.t9) (by have := (hLS.t9).lt.2; have := Kb21.2.2; omega) (by (try simp only [List.length_append, List.length_cons, List.length_nil]); omega) dL_areContractsRight_171 (Nat.le_of_ble_eq_true rfl) ⟨Nat.le_of_ble_eq_true rfl, Nat.le_of_ble_eq_true rfl⟩ ⟨by show _ ≤ 3500; omega, by show _ ≤ 120000; omega⟩ (fun vb22 nb22 Mb22 Tb22 Fb22 => ?_)
          have Kb22 := Kb21.sb Fb22
          refine m_aload_n hC 5 dL_areContractsRight_174 rfl rfl ?_
          refine m_iload hC 0 dL_areContractsRight_175 rfl ?_
          refine m_qV hC (Q_effort hF hl hX ((X1.kK U1).kK Kb22.1).2.1 ((X1.kK U1).kK Kb22.1).2.2.1 hB (k := i) (by omega) hx) dL_areContractsRight_177 kc_X9_effort kV_L_191 ((X1.kK U1).kK Kb22.1).2.1 rfl rfl rfl rfl (Nat.le_of_ble_eq_true rfl) ⟨Nat.le_of_ble_eq_true rfl, Nat.le_of_ble_eq_true rfl⟩ ⟨by show _ ≤ 3500; omega, by show _ ≤ 120000; omega⟩ ?_
          refine m_apI hC hJ Tb22 (by omega) (by (try simp only [List.length_append, List.length_cons, List.length_nil]); omega) dL_areContractsRight_180 (Nat.le_of_ble_eq_true rfl) ⟨Nat.le_of_ble_eq_true rfl, Nat.le_of_ble_eq_true rfl⟩ ⟨by show _ ≤ 3500; omega, by show _ ≤ 120000; omega⟩ (fun vb23 nb23 Mb23 Tb23 Fb23 => ?_)
          have Kb23 := Kb22.sb Fb23
          refine m_tos hC hJ hJS Tb23 (by (try simp only [List.length_append, List.length_cons, List.length_nil]); omega) dL_areContractsRight_183 (Nat.le_of_ble_eq_true rfl) ⟨Nat.le_of_ble_eq_true rfl, Nat.le_of_ble_eq_true rfl⟩ ⟨by show _ ≤ 3500; omega, by show _ ≤ 120000; omega⟩ (fun Mb24 Sb24 Qb24 => ?_)
          have Ub24 := Kb23.1.tr Qb24
          refine m_astore_n hC dL_areContractsRight_186 rfl (by decide) rfl ?_
          have hR9 : sN Mb23.1 (Mb23.1 + 1) (R_con W.1 (i + 1).toNat) Mb24 := by
            rw [R_con_s h0]
            first | rw [if_pos (by omega)] | rw [if_neg (by omega)]
            unfold R_c1
            simpa only [List.append_assoc, List.nil_append, List.append_nil] using Sb24
          exact m_lvs [1, 2, 3, 0, 4, 5] rfl (m_wd (by omega) (by omega) (REST _ _ (by have := Kb23.1.1; omega) hR9 Ub24))
  refine m_lvs [0, 1, 2, 3, 4] rfl (L1 9 0 1880 3760 (sa 2) (va 2) M14 (by omega) (by omega) (by omega) kK.rf (Or.inl hLS.t2) (by omega) (by omega) (by omega))

