theorem X_grA {T : h_T} {L : List (Nat → Int)} {j : Nat} {d mo : Int} (hz : T 0 0 % 7 = 0) (h0 : 0 < d) (hd : d = S_gn T j 6 (j : Int)) (hmo : mo = min (999 - d) (d / 10 + 1)) : hs (hs (S_rw (S_gn T j) L) 6 (j : Int) (S_rw (S_gn T j) L 6 (j : Int) + mo)) 0 7 (hs (S_rw (S_gn T j) L) 6 (j : Int) (S_rw (S_gn T j) L 6 (j : Int) + mo) 0 7 + mo) = S_rw (S_gn T (j + 1)) L := by
  have e : S_gn T (j + 1) = S_grow1 (S_gn T j) (j : Int) := by
    unfold S_gn
    rw [if_pos hz, if_pos hz]
    rfl
  have e7 : hs (S_rw (S_gn T j) L) 6 (j : Int) (S_rw (S_gn T j) L 6 (j : Int) + mo) 0 7 = S_gn T j 0 7 := by rw [hs_c (by decide), S_rw_n (by decide)]
  rw [e7, S_rw_c (c := 6) (by decide), S_rw_hs (Or.inl (by decide)), S_rw_hs (Or.inr (by decide)), e]
  unfold S_grow1
  rw [← hd, if_pos h0, hs_cm (c := 6) (c' := 0) (Or.inl (by decide)), show d + mo = S_grown d by unfold S_grown; omega, show S_grown d - d = mo by unfold S_grown; omega]
theorem X_grB {T : h_T} {L : List (Nat → Int)} {j : Nat} (hz : ¬ T 0 0 % 7 = 0 ∨ S_gn T j 6 (j : Int) ≤ 0) : hs (hs (S_rw (S_gn T j) L) 6 (j : Int) (S_rw (S_gn T j) L 6 (j : Int) + 0)) 0 7 (hs (S_rw (S_gn T j) L) 6 (j : Int) (S_rw (S_gn T j) L 6 (j : Int) + 0) 0 7 + 0) = S_rw (S_gn T (j + 1)) L := by
  have key : ∀ (G : h_T) (c : Nat) (i : Int), hs G c i (G c i + 0) = G := by
    intro G c i
    funext c' i'
    rw [hs_at]
    by_cases q : c' = c ∧ i' = i
    · rw [if_pos q, q.1, q.2, Int.add_zero]
    · rw [if_neg q]
  rw [key, key]
  have e : S_gn T (j + 1) = S_gn T j := by
    unfold S_gn at hz ⊢
    by_cases q : T 0 0 % 7 = 0
    · rw [if_pos q] at hz
      rw [if_pos q, if_pos q, S_grow]
      unfold S_grow1
      rw [if_neg (by omega)]
    · rw [if_neg q, if_neg q]
  rw [e]
theorem X_tm1 {G : h_T} {k : Nat} (h : S_tm G k 8 (k : Int) = 0) : S_tm G (k + 1) = S_wm (k : Int) 8 (hs (S_tm G k) 7 (k : Int) 0) (S_energy (hs (S_tm G k) 7 (k : Int) 0) (k : Int)) ∧ S_tc G (k + 1) = S_tc G k + S_wc (k : Int) 8 (hs (S_tm G k) 7 (k : Int) 0) (S_energy (hs (S_tm G k) 7 (k : Int) 0) (k : Int)) := by
  refine ⟨?_, ?_⟩
  · rw [S_tm]
    unfold S_turnm
    rw [if_pos h]
  · rw [S_tc]
    unfold S_turnc
    rw [if_pos h]
theorem X_tm2 {G : h_T} {k : Nat} (h : ¬ S_tm G k 8 (k : Int) = 0) : S_tm G (k + 1) = hs (S_tm G k) 7 (k : Int) (S_tm G k 7 (k : Int) + 1) ∧ S_tc G (k + 1) = S_tc G k + 0 := by
  refine ⟨?_, ?_⟩
  · rw [S_tm]
    unfold S_turnm
    rw [if_neg h]
  · rw [S_tc]
    unfold S_turnc
    rw [if_neg h]
theorem X_du1 {ga : h_T} {i : Nat} : hs (S_dust ga i) 1 (i : Int) (min 99 (S_dust ga i 1 (i : Int) + 3)) = S_dust ga (i + 1) := by
  rw [Int.min_comm]
  rfl
theorem X_pend {a : Nat} {w g : h_T} {M M2 : m_M} {K : Int} (hK : h_BK K g) (hKb : K ≤ 80000000) {k : Nat} (hk : (k : Int) = g 0 9) {j : Nat} (hj : (j : Int) = g 0 9) (hV : mmV a w (hs (S_rw (S_gn (S_tm (S_n1 g) k) j) (S_ln (S_tm (S_n1 g) k) (j : Int))) 0 4 (S_rw (S_gn (S_tm (S_n1 g) k) j) (S_ln (S_tm (S_n1 g) k) (j : Int)) 0 4 + S_tc (S_n1 g) k)) M2) (hf : m_fr a 10 M M2) : some (VI (S_tc (S_n1 g) k)) = some (VI (S_night g 0 4 - g 0 4)) ∧ mmV a w (S_night g) M2 ∧ m_fr a 10 M M2 := by
  obtain rfl : j = k := by omega
  have h := X_night (T := S_tm (S_n1 g) j) (m := S_tc (S_n1 g) j) (n := j) hK hKb (by omega) rfl rfl
  have hT9 : S_tm (S_n1 g) j 0 9 = (j : Int) := (S_tm_k (by decide) j).trans (hK.n1.2.1.trans hj.symm)
  refine ⟨by rw [h.2, show g 0 4 + S_tc (S_n1 g) j - g 0 4 = S_tc (S_n1 g) j by omega], ?_, hf⟩
  have h1 := h.1
  rw [hT9, ← d4_rw] at h1
  exact hV.eq h1
set_option maxHeartbeats 4000000 in
set_option maxRecDepth 100000 in
theorem t_X10_passes {D : va_G} {aC : Nat → ClassId} {s0 : State} {l : Launch} (hF : m_F D aC s0) (hl : l.stackTraces = false) {a : Nat} {w g : h_T} {M : m_M} (hV : mmV a w g M) (ha : s0.heap.size ≤ a) (hB : h_B g)  {K : Int} (hK : h_BK K g) (hKb : K ≤ 80000000) : m_Met D aC s0 l yX10_passes cX10_passes 5 (some .int) 6 (0) (0) [.ref a] M (fun v M' => v = some (VI (S_night g 0 4 - g 0 4)) ∧ mmV a w (S_night g) M' ∧ m_fr a 10 M M') m_nx := by
  refine m_entry (lv := [(0, .ref a)]) (by decide +kernel) (Nat.le_of_ble_eq_true rfl) rfl hF hl ?_
  intro p e s m args below meth c hC hr hno hnm
  change m_C D aC s0 RX10 _ _ _ _ _ _ _ _ _ at hC
  have h0 := hK.s 0 (by omega)
  have hn11 := hK.n11
  have hn9 := hK.n9
  have hn8 := hK.n8
  refine m_aload_n hC 0 dX10_passes_0 rfl rfl ?_
  refine m_getf hC dX10_passes_1 kf_X10_9 hV.ob rfl ?_
  refine m_iconst hC dX10_passes_4 ?_
  refine m_dup2 hC dX10_passes_5 rfl rfl ?_
  refine m_n0 hC hV dX10_passes_6 (by decide) ?_
  refine m_iconst hC dX10_passes_7 ?_
  refine m_iadd hC dX10_passes_8 ?_
  refine m_s0 hC hV ha (by first | exact ⟨by omega, by omega, by omega⟩ | (simp only [hs_c (show (0 : Nat) ≠ 6 by decide)]; exact ⟨by omega, by omega, by omega⟩)) dX10_passes_9 (by decide) (fun M1 R2 f3 => ?_)
  refine m_iconst hC dX10_passes_10 ?_
  refine m_istore_n hC dX10_passes_11 rfl (by decide) rfl ?_
  have hga : h_BK (K + 1) (hs g 0 0 (g 0 0 + 1)) := (hK.mono (by omega)).st0 (by decide) (by omega)
  have L1 : ∀ (n : Nat) (i : Nat) (M1 : m_M), 6 - (i : Int) < (n : Int) → (i : Int) ≤ 6 → mmV a w (S_dust (hs g 0 0 (g 0 0 + 1)) i) M1 → m_fr a 10 M M1 → m_W D aC s0 5 p l e (m_R 6 (0) (0)) s m args below meth c (0) (0) (m_Q D aC s0 below (fun v M' => v = some (VI (S_night g 0 4 - g 0 4)) ∧ mmV a w (S_night g) M' ∧ m_fr a 10 M M') m_nx args s (0) (0)) 12 [(1, VI (i : Int)), (0, .ref a)] [] M1 := by
    intro n
    induction n with
    | zero =>
      intro i M1 hn h1 hV1 hfr
      omega
    | succ n ih =>
      intro i M1 hn h1 hV1 hfr
      have hK1 := hga.dust i (by omega)
      have hn11 := hK1.n11
      have hn9 := hK1.n9
      have hn8 := hK1.n8
      refine m_iload_n hC 0 dX10_passes_12 rfl rfl ?_
      refine m_bipush hC dX10_passes_13 (by decide) ?_
      refine m_icmp_ge (tgt := 49) hC dX10_passes_15 (by decide) (by first | omega | (simp [hs_at] <;> omega)) (fun c4 => ?_) (fun c4 => ?_)
      · obtain rfl : i = 6 := by omega
        have R5 : mmV a w (S_n1 g) M1 := hV1
        have hN := hK.n1
        have hN9 : S_n1 g 0 9 = g 0 9 := hN.2.1
        refine m_iconst hC dX10_passes_49 ?_
        refine m_istore_n hC dX10_passes_50 rfl (by decide) rfl ?_
        refine m_iconst hC dX10_passes_51 ?_
        refine m_istore_n hC dX10_passes_52 rfl (by decide) rfl ?_
        have L2 : ∀ (n2 : Nat) (k : Nat) (M2 : m_M), g 0 9 - (k : Int) < (n2 : Int) → (k : Int) ≤ g 0 9 → mmV a w (S_tm (S_n1 g) k) M2 → m_fr a 10 M M2 → m_W D aC s0 5 p l e (m_R 6 (0) (0)) s m args below meth c (0) (0) (m_Q D aC s0 below (fun v M' => v = some (VI (S_night g 0 4 - g 0 4)) ∧ mmV a w (S_night g) M' ∧ m_fr a 10 M M') m_nx args s (0) (0)) 53 [(2, VI (k : Int)), (1, VI (S_tc (S_n1 g) k)), (0, .ref a)] [] M2 := by
          intro n2
          induction n2 with
          | zero =>
            intro k M2 hn2 h2 hV2 hfr2
            omega
          | succ n2 ih2 =>
            intro k M2 hn2 h2 hV2 hfr2
            have hT := hN.1.tm k (by omega)
            have hT9 : S_tm (S_n1 g) k 0 9 = g 0 9 := (S_tm_k (by decide) k).trans hN9
            have hB2 := hT.toB (by omega)
            have hn11 := hB2.n11
            have hn9 := hB2.n9
            have hn8 := hB2.n8
            refine m_iload_n hC 0 dX10_passes_53 rfl rfl ?_
            refine m_aload_n hC 2 dX10_passes_54 rfl rfl ?_
            refine m_getf hC dX10_passes_55 kf_X10_9 hV2.ob rfl ?_
            refine m_bipush hC dX10_passes_58 (by decide) ?_
            refine m_n0 hC hV2 dX10_passes_60 (by decide) ?_
            refine m_icmp_ge (tgt := 129) hC dX10_passes_61 (by decide) (by first | omega | (simp [hs_at] <;> omega)) (fun c61 => ?_) (fun c61 => ?_)
            · refine m_iconst hC dX10_passes_129 ?_
              refine m_istore_n hC dX10_passes_130 rfl (by decide) rfl ?_
              have hR := rOK.ofc hT (by omega)
              have L3 : ∀ (n3 : Nat) (j : Nat) (M3 : m_M), g 0 9 - (j : Int) < (n3 : Int) → (j : Int) ≤ g 0 9 → mmV a w (S_rw (S_gn (S_tm (S_n1 g) k) j) (S_ln (S_tm (S_n1 g) k) (j : Int))) M3 → m_fr a 10 M M3 → m_W D aC s0 5 p l e (m_R 6 (0) (0)) s m args below meth c (0) (0) (m_Q D aC s0 below (fun v M' => v = some (VI (S_night g 0 4 - g 0 4)) ∧ mmV a w (S_night g) M' ∧ m_fr a 10 M M') m_nx args s (0) (0)) 131 [(2, VI (j : Int)), (1, VI (S_tc (S_n1 g) k)), (0, .ref a)] [] M3 := by
                intro n3
                induction n3 with
                | zero =>
                  intro j M3 hn3 h3 hV3 hfr3
                  omega
                | succ n3 ih3 =>
                  intro j M3 hn3 h3 hV3 hfr3
                  have hG := hT.gn j (by omega)
                  have hG9 : (S_gn (S_tm (S_n1 g) k) j) 0 9 = g 0 9 := (S_gn_n (by decide) j).trans hT9
                  have hL3 : rOK (S_gn (S_tm (S_n1 g) k) j) (S_ln (S_tm (S_n1 g) k) (j : Int)) := (hR.ln _).of (S_gn_n (by decide) j) (S_gn_n (by decide) j)
                  have hB3 := hL3.B hG (by omega)
                  have hn11 := hB3.n11
                  have hn9 := hB3.n9
                  have hn8 := hB3.n8
                  have q9 : S_rw (S_gn (S_tm (S_n1 g) k) j) (S_ln (S_tm (S_n1 g) k) (j : Int)) 0 9 = g 0 9 := (S_rw_n (by decide)).trans hG9
                  refine m_iload_n hC 0 dX10_passes_131 rfl rfl ?_
                  refine m_aload_n hC 2 dX10_passes_132 rfl rfl ?_
                  refine m_getf hC dX10_passes_133 kf_X10_9 hV3.ob rfl ?_
                  refine m_bipush hC dX10_passes_136 (by decide) ?_
                  refine m_n0 hC hV3 dX10_passes_138 (by decide) ?_
                  refine m_icmp_ge (tgt := 234) hC dX10_passes_139 (by decide) (by first | omega | (simp [hs_at] <;> omega)) (fun c139 => ?_) (fun c139 => ?_)
                  · refine m_aload_n hC 2 dX10_passes_234 rfl rfl ?_
                    refine m_getf hC dX10_passes_235 kf_X10_9 hV3.ob rfl ?_
                    refine m_iconst hC dX10_passes_238 ?_
                    refine m_dup2 hC dX10_passes_239 rfl rfl ?_
                    refine m_n0 hC hV3 dX10_passes_240 (by decide) ?_
                    refine m_iload_n hC 1 dX10_passes_241 rfl rfl ?_
                    refine m_iadd hC dX10_passes_242 ?_
                    refine m_s0 hC hV3 ha (by first | exact ⟨by omega, by omega, by omega⟩ | (simp only [hs_c (show (0 : Nat) ≠ 6 by decide)]; exact ⟨by omega, by omega, by omega⟩)) dX10_passes_243 (by decide) (fun M6 R7 f8 => ?_)
                    refine m_iload_n hC 1 dX10_passes_244 rfl rfl ?_
                    exact m_iret hC dX10_passes_245 hr (by decide) (by decide) (X_pend hK hKb (k := k) (by omega) (j := j) (by omega) R7 (hfr3.tr f8))
                  · have hgo := hG.go (i := (j : Int)) (by omega)
                    have q7 : S_rw (S_gn (S_tm (S_n1 g) k) j) (S_ln (S_tm (S_n1 g) k) (j : Int)) 7 (j : Int) = (S_tm (S_n1 g) k) 7 (j : Int) := (congrFun (S_rw_c (by decide)) _).trans (congrFun (S_gn_oc (by decide) j) _)
                    have q7b : (S_gn (S_tm (S_n1 g) k) j) 7 (j : Int) = (S_tm (S_n1 g) k) 7 (j : Int) := congrFun (S_gn_oc (by decide) j) _
                    refine m_aload_n hC 2 dX10_passes_142 rfl rfl ?_
                    refine m_iload_n hC 0 dX10_passes_143 rfl rfl ?_
                    refine m_iconst hC dX10_passes_144 ?_
                    refine m_callV hC (t_X10_of hF hl hV3 ha hB3 (x := (j : Int)) (y := 3) 7 rfl (by decide) (by omega)) dX10_passes_145 kc_X10_of kV_X10_95 hV3.ob rfl rfl rfl rfl (Nat.le_of_ble_eq_true rfl) (by decide) (by decide) m_nox (fun v9 M9 h9 => ?_)
                    obtain ⟨rfl, h9⟩ := h9
                    replace h9 := h9.symm
                    subst h9
                    refine m_iconst hC dX10_passes_148 ?_
                    refine m_icmp_lt (tgt := 157) hC dX10_passes_149 (by decide) (by first | omega | (simp [hs_at] <;> omega)) (fun c149 => ?_) (fun c149 => ?_)
                    · have R10 : mmV a w (S_rw (S_gn (S_tm (S_n1 g) k) j) (S_ln (S_tm (S_n1 g) k) ((j : Int) + 1))) M3 := by rw [← X_ln2 (by omega)]; exact hV3
                      have hL4 : rOK (S_gn (S_tm (S_n1 g) k) j) (S_ln (S_tm (S_n1 g) k) ((j : Int) + 1)) := (hR.ln _).of (S_gn_n (by decide) j) (S_gn_n (by decide) j)
                      have hB4 := hL4.B hG (by omega)
                      have hm11 := hB4.n11
                      have hm9 := hB4.n9
                      have hm8 := hB4.n8
                      have h40 := hB4.s 0 (by omega)
                      have h47 := hB4.s 7 (by omega)
                      have q94 : S_rw (S_gn (S_tm (S_n1 g) k) j) (S_ln (S_tm (S_n1 g) k) ((j : Int) + 1)) 0 9 = g 0 9 := (S_rw_n (by decide)).trans hG9
                      have q64 : S_rw (S_gn (S_tm (S_n1 g) k) j) (S_ln (S_tm (S_n1 g) k) ((j : Int) + 1)) 6 (j : Int) = (S_gn (S_tm (S_n1 g) k) j) 6 (j : Int) := congrFun (S_rw_c (by decide)) _
                      have q04 : S_rw (S_gn (S_tm (S_n1 g) k) j) (S_ln (S_tm (S_n1 g) k) ((j : Int) + 1)) 0 0 = (S_tm (S_n1 g) k) 0 0 := (S_rw_n (by decide)).trans (S_gn_n (by decide) j)
                      refine m_aload_n hC 2 dX10_passes_157 rfl rfl ?_
                      refine m_iload_n hC 0 dX10_passes_158 rfl rfl ?_
                      refine m_iconst hC dX10_passes_159 ?_
                      refine m_callV hC (t_X10_of hF hl R10 ha hB4 (x := (j : Int)) (y := 2) 6 rfl (by decide) (by omega)) dX10_passes_160 kc_X10_of kV_X10_95 R10.ob rfl rfl rfl rfl (Nat.le_of_ble_eq_true rfl) (by decide) (by decide) m_nox (fun v9 M11 h9 => ?_)
                      obtain ⟨rfl, h9⟩ := h9
                      replace h9 := h9.symm
                      subst h9
                      obtain ⟨d, hdd⟩ : ∃ z, z = (S_gn (S_tm (S_n1 g) k) j) 6 (j : Int) := ⟨_, rfl⟩
                      rw [q64, ← hdd]
                      refine m_istore_n hC dX10_passes_163 rfl (by decide) rfl ?_
                      refine m_aload_n hC 3 dX10_passes_164 rfl rfl ?_
                      refine m_getf hC dX10_passes_165 kf_X10_9 R10.ob rfl ?_
                      refine m_iconst hC dX10_passes_168 ?_
                      refine m_n0 hC R10 dX10_passes_169 (by decide) ?_
                      refine m_bipush hC dX10_passes_170 (by decide) ?_
                      refine m_irem hC dX10_passes_172 (by first | omega | (simp [hs_at] <;> omega)) ?_
                      refine m_if_ne (tgt := 197) hC dX10_passes_173 (by decide) (by first | omega | (simp [hs_at] <;> omega)) (fun c173 => ?_) (fun c173 => ?_)
                      · refine m_iconst hC dX10_passes_197 ?_
                        refine m_istore hC dX10_passes_198 (by decide) rfl ?_
                        refine m_aload_n hC 4 dX10_passes_200 rfl rfl ?_
                        refine m_getf hC dX10_passes_201 kf_X10_9 R10.ob rfl ?_
                        refine m_aload_n hC 4 dX10_passes_204 rfl rfl ?_
                        refine m_iload_n hC 2 dX10_passes_205 rfl rfl ?_
                        refine m_iconst hC dX10_passes_206 ?_
                        refine m_callV hC (t_X10_place hF hl R10 ha hB4 (x := (j : Int)) (y := 2) (by omega)) dX10_passes_207 kc_X10_place kV_X10_80 R10.ob rfl rfl rfl rfl (Nat.le_of_ble_eq_true rfl) (by decide) (by decide) m_nox (fun v9 M12 h9 => ?_)
                        obtain ⟨rfl, h9⟩ := h9
                        replace h9 := h9.symm
                        subst h9
                        rw [if_pos (by omega)]
                        refine m_dup2 hC dX10_passes_210 rfl rfl ?_
                        refine m_n6 hC ((j : Int)) R10 dX10_passes_211 (by omega) (by omega) (by omega) ?_
                        refine m_iload hC 0 dX10_passes_212 rfl ?_
                        refine m_iadd hC dX10_passes_214 ?_
                        refine m_s6 hC ((j : Int)) R10 ha (by first | exact ⟨by omega, by omega, by omega⟩ | (simp only [hs_c (show (0 : Nat) ≠ 6 by decide)]; exact ⟨by omega, by omega, by omega⟩)) dX10_passes_215 (by omega) (by omega) (fun M13 R14 f15 => ?_)
                        refine m_aload_n hC 4 dX10_passes_216 rfl rfl ?_
                        refine m_getf hC dX10_passes_217 kf_X10_9 R14.ob rfl ?_
                        refine m_bipush hC dX10_passes_220 (by decide) ?_
                        refine m_dup2 hC dX10_passes_222 rfl rfl ?_
                        refine m_n0 hC R14 dX10_passes_223 (by decide) ?_
                        refine m_iload hC 0 dX10_passes_224 rfl ?_
                        refine m_iadd hC dX10_passes_226 ?_
                        refine m_s0 hC R14 ha (by first | exact ⟨by omega, by omega, by omega⟩ | (simp only [hs_c (show (0 : Nat) ≠ 6 by decide)]; exact ⟨by omega, by omega, by omega⟩)) dX10_passes_227 (by decide) (fun M16 R17 f18 => ?_)
                        have R19 : mmV a w (S_rw (S_gn (S_tm (S_n1 g) k) (j + 1)) (S_ln (S_tm (S_n1 g) k) ((j + 1 : Nat) : Int))) M16 := by rw [← X_grB (by first | (exact Or.inl (by omega)) | (exact Or.inr (by omega)))]; exact R17
                        refine m_iinc hC 2 dX10_passes_228 rfl (by decide) rfl ?_
                        refine m_goto (tgt := 131) hC dX10_passes_231 (by decide) ?_
                        refine m_lvs [0, 3, 4] rfl (ih3 (j + 1) _ (by omega) (by omega) R19 (hfr3.tr (f15.tr f18)))
                      · refine m_iload_n hC 0 dX10_passes_176 rfl rfl ?_
                        refine m_if_le (tgt := 197) hC dX10_passes_177 (by decide) (by first | omega | (simp [hs_at] <;> omega)) (fun c177 => ?_) (fun c177 => ?_)
                        · refine m_iconst hC dX10_passes_197 ?_
                          refine m_istore hC dX10_passes_198 (by decide) rfl ?_
                          refine m_aload_n hC 4 dX10_passes_200 rfl rfl ?_
                          refine m_getf hC dX10_passes_201 kf_X10_9 R10.ob rfl ?_
                          refine m_aload_n hC 4 dX10_passes_204 rfl rfl ?_
                          refine m_iload_n hC 2 dX10_passes_205 rfl rfl ?_
                          refine m_iconst hC dX10_passes_206 ?_
                          refine m_callV hC (t_X10_place hF hl R10 ha hB4 (x := (j : Int)) (y := 2) (by omega)) dX10_passes_207 kc_X10_place kV_X10_80 R10.ob rfl rfl rfl rfl (Nat.le_of_ble_eq_true rfl) (by decide) (by decide) m_nox (fun v9 M20 h9 => ?_)
                          obtain ⟨rfl, h9⟩ := h9
                          replace h9 := h9.symm
                          subst h9
                          rw [if_pos (by omega)]
                          refine m_dup2 hC dX10_passes_210 rfl rfl ?_
                          refine m_n6 hC ((j : Int)) R10 dX10_passes_211 (by omega) (by omega) (by omega) ?_
                          refine m_iload hC 0 dX10_passes_212 rfl ?_
                          refine m_iadd hC dX10_passes_214 ?_
                          refine m_s6 hC ((j : Int)) R10 ha (by first | exact ⟨by omega, by omega, by omega⟩ | (simp only [hs_c (show (0 : Nat) ≠ 6 by decide)]; exact ⟨by omega, by omega, by omega⟩)) dX10_passes_215 (by omega) (by omega) (fun M21 R22 f23 => ?_)
                          refine m_aload_n hC 4 dX10_passes_216 rfl rfl ?_
                          refine m_getf hC dX10_passes_217 kf_X10_9 R22.ob rfl ?_
                          refine m_bipush hC dX10_passes_220 (by decide) ?_
                          refine m_dup2 hC dX10_passes_222 rfl rfl ?_
                          refine m_n0 hC R22 dX10_passes_223 (by decide) ?_
                          refine m_iload hC 0 dX10_passes_224 rfl ?_
                          refine m_iadd hC dX10_passes_226 ?_
                          refine m_s0 hC R22 ha (by first | exact ⟨by omega, by omega, by omega⟩ | (simp only [hs_c (show (0 : Nat) ≠ 6 by decide)]; exact ⟨by omega, by omega, by omega⟩)) dX10_passes_227 (by decide) (fun M24 R25 f26 => ?_)
                          have R27 : mmV a w (S_rw (S_gn (S_tm (S_n1 g) k) (j + 1)) (S_ln (S_tm (S_n1 g) k) ((j + 1 : Nat) : Int))) M24 := by rw [← X_grB (by first | (exact Or.inl (by omega)) | (exact Or.inr (by omega)))]; exact R25
                          refine m_iinc hC 2 dX10_passes_228 rfl (by decide) rfl ?_
                          refine m_goto (tgt := 131) hC dX10_passes_231 (by decide) ?_
                          refine m_lvs [0, 3, 4] rfl (ih3 (j + 1) _ (by omega) (by omega) R27 (hfr3.tr (f23.tr f26)))
                        · refine m_sipush hC dX10_passes_180 (by decide) ?_
                          refine m_iload_n hC 0 dX10_passes_183 rfl rfl ?_
                          refine m_isub hC dX10_passes_184 ?_
                          refine m_iload_n hC 0 dX10_passes_185 rfl rfl ?_
                          refine m_bipush hC dX10_passes_186 (by decide) ?_
                          refine m_idiv hC dX10_passes_188 (by first | omega | (simp [hs_at] <;> omega)) ?_
                          refine m_iconst hC dX10_passes_189 ?_
                          refine m_iadd hC dX10_passes_190 ?_
                          refine m_mmin hC dX10_passes_191 kM_X10_135 (by first | omega | (simp [hs_at] <;> omega)) (by decide) (Nat.le_of_ble_eq_true rfl) (by decide) (by decide) ?_
                          refine m_goto (tgt := 198) hC dX10_passes_194 (by decide) ?_
                          obtain ⟨mo, hmo⟩ : ∃ z, z = min (999 - d) (d / 10 + 1) := ⟨_, rfl⟩
                          rw [← hmo]
                          refine m_istore hC dX10_passes_198 (by decide) rfl ?_
                          refine m_aload_n hC 4 dX10_passes_200 rfl rfl ?_
                          refine m_getf hC dX10_passes_201 kf_X10_9 R10.ob rfl ?_
                          refine m_aload_n hC 4 dX10_passes_204 rfl rfl ?_
                          refine m_iload_n hC 2 dX10_passes_205 rfl rfl ?_
                          refine m_iconst hC dX10_passes_206 ?_
                          refine m_callV hC (t_X10_place hF hl R10 ha hB4 (x := (j : Int)) (y := 2) (by omega)) dX10_passes_207 kc_X10_place kV_X10_80 R10.ob rfl rfl rfl rfl (Nat.le_of_ble_eq_true rfl) (by decide) (by decide) m_nox (fun v9 M28 h9 => ?_)
                          obtain ⟨rfl, h9⟩ := h9
                          replace h9 := h9.symm
                          subst h9
                          rw [if_pos (by omega)]
                          refine m_dup2 hC dX10_passes_210 rfl rfl ?_
                          refine m_n6 hC ((j : Int)) R10 dX10_passes_211 (by omega) (by omega) (by omega) ?_
                          refine m_iload hC 0 dX10_passes_212 rfl ?_
                          refine m_iadd hC dX10_passes_214 ?_
                          refine m_s6 hC ((j : Int)) R10 ha (by first | exact ⟨by omega, by omega, by omega⟩ | (simp only [hs_c (show (0 : Nat) ≠ 6 by decide)]; exact ⟨by omega, by omega, by omega⟩)) dX10_passes_215 (by omega) (by omega) (fun M29 R30 f31 => ?_)
                          refine m_aload_n hC 4 dX10_passes_216 rfl rfl ?_
                          refine m_getf hC dX10_passes_217 kf_X10_9 R30.ob rfl ?_
                          refine m_bipush hC dX10_passes_220 (by decide) ?_
                          refine m_dup2 hC dX10_passes_222 rfl rfl ?_
                          refine m_n0 hC R30 dX10_passes_223 (by decide) ?_
                          refine m_iload hC 0 dX10_passes_224 rfl ?_
                          refine m_iadd hC dX10_passes_226 ?_
                          refine m_s0 hC R30 ha (by first | exact ⟨by omega, by omega, by omega⟩ | (simp only [hs_c (show (0 : Nat) ≠ 6 by decide)]; exact ⟨by omega, by omega, by omega⟩)) dX10_passes_227 (by decide) (fun M32 R33 f34 => ?_)
                          have R35 : mmV a w (S_rw (S_gn (S_tm (S_n1 g) k) (j + 1)) (S_ln (S_tm (S_n1 g) k) ((j + 1 : Nat) : Int))) M32 := by rw [← X_grA (by omega) (by omega) hdd hmo]; exact R33
                          refine m_iinc hC 2 dX10_passes_228 rfl (by decide) rfl ?_
                          refine m_goto (tgt := 131) hC dX10_passes_231 (by decide) ?_
                          refine m_lvs [0, 3, 4] rfl (ih3 (j + 1) _ (by omega) (by omega) R35 (hfr3.tr (f31.tr f34)))
                    · refine m_aload_n hC 2 dX10_passes_152 rfl rfl ?_
                      refine m_iload_n hC 0 dX10_passes_153 rfl rfl ?_
                      refine m_callV hC (t_X10_breaks hF hl hV3 ha hL3 hG (by omega) (x := (j : Int)) (by omega)) dX10_passes_154 kc_X10_breaks kV_X10_166 hV3.ob rfl rfl rfl rfl (Nat.le_of_ble_eq_true rfl) (by decide) (by decide) m_nox (fun v9 M36 h9 => ?_)
                      obtain ⟨rfl, R37, f38⟩ := h9
                      have R39 : mmV a w (S_rw (S_gn (S_tm (S_n1 g) k) j) (S_ln (S_tm (S_n1 g) k) ((j : Int) + 1))) M36 := by rw [← X_ln1 (by omega)]; exact R37
                      have hL4 : rOK (S_gn (S_tm (S_n1 g) k) j) (S_ln (S_tm (S_n1 g) k) ((j : Int) + 1)) := (hR.ln _).of (S_gn_n (by decide) j) (S_gn_n (by decide) j)
                      have hB4 := hL4.B hG (by omega)
                      have hm11 := hB4.n11
                      have hm9 := hB4.n9
                      have hm8 := hB4.n8
                      have h40 := hB4.s 0 (by omega)
                      have h47 := hB4.s 7 (by omega)
                      have q94 : S_rw (S_gn (S_tm (S_n1 g) k) j) (S_ln (S_tm (S_n1 g) k) ((j : Int) + 1)) 0 9 = g 0 9 := (S_rw_n (by decide)).trans hG9
                      have q64 : S_rw (S_gn (S_tm (S_n1 g) k) j) (S_ln (S_tm (S_n1 g) k) ((j : Int) + 1)) 6 (j : Int) = (S_gn (S_tm (S_n1 g) k) j) 6 (j : Int) := congrFun (S_rw_c (by decide)) _
                      have q04 : S_rw (S_gn (S_tm (S_n1 g) k) j) (S_ln (S_tm (S_n1 g) k) ((j : Int) + 1)) 0 0 = (S_tm (S_n1 g) k) 0 0 := (S_rw_n (by decide)).trans (S_gn_n (by decide) j)
                      refine m_aload_n hC 2 dX10_passes_157 rfl rfl ?_
                      refine m_iload_n hC 0 dX10_passes_158 rfl rfl ?_
                      refine m_iconst hC dX10_passes_159 ?_
                      refine m_callV hC (t_X10_of hF hl R39 ha hB4 (x := (j : Int)) (y := 2) 6 rfl (by decide) (by omega)) dX10_passes_160 kc_X10_of kV_X10_95 R39.ob rfl rfl rfl rfl (Nat.le_of_ble_eq_true rfl) (by decide) (by decide) m_nox (fun v9 M40 h9 => ?_)
                      obtain ⟨rfl, h9⟩ := h9
                      replace h9 := h9.symm
                      subst h9
                      obtain ⟨d, hdd⟩ : ∃ z, z = (S_gn (S_tm (S_n1 g) k) j) 6 (j : Int) := ⟨_, rfl⟩
                      rw [q64, ← hdd]
                      refine m_istore_n hC dX10_passes_163 rfl (by decide) rfl ?_
                      refine m_aload_n hC 3 dX10_passes_164 rfl rfl ?_
                      refine m_getf hC dX10_passes_165 kf_X10_9 R39.ob rfl ?_
                      refine m_iconst hC dX10_passes_168 ?_
                      refine m_n0 hC R39 dX10_passes_169 (by decide) ?_
                      refine m_bipush hC dX10_passes_170 (by decide) ?_
                      refine m_irem hC dX10_passes_172 (by first | omega | (simp [hs_at] <;> omega)) ?_
                      refine m_if_ne (tgt := 197) hC dX10_passes_173 (by decide) (by first | omega | (simp [hs_at] <;> omega)) (fun c173 => ?_) (fun c173 => ?_)
                      · refine m_iconst hC dX10_passes_197 ?_
                        refine m_istore hC dX10_passes_198 (by decide) rfl ?_
                        refine m_aload_n hC 4 dX10_passes_200 rfl rfl ?_
                        refine m_getf hC dX10_passes_201 kf_X10_9 R39.ob rfl ?_
                        refine m_aload_n hC 4 dX10_passes_204 rfl rfl ?_
                        refine m_iload_n hC 2 dX10_passes_205 rfl rfl ?_
                        refine m_iconst hC dX10_passes_206 ?_
                        refine m_callV hC (t_X10_place hF hl R39 ha hB4 (x := (j : Int)) (y := 2) (by omega)) dX10_passes_207 kc_X10_place kV_X10_80 R39.ob rfl rfl rfl rfl (Nat.le_of_ble_eq_true rfl) (by decide) (by decide) m_nox (fun v9 M41 h9 => ?_)
                        obtain ⟨rfl, h9⟩ := h9
                        replace h9 := h9.symm
                        subst h9
                        rw [if_pos (by omega)]
                        refine m_dup2 hC dX10_passes_210 rfl rfl ?_
                        refine m_n6 hC ((j : Int)) R39 dX10_passes_211 (by omega) (by omega) (by omega) ?_
                        refine m_iload hC 0 dX10_passes_212 rfl ?_
                        refine m_iadd hC dX10_passes_214 ?_
                        refine m_s6 hC ((j : Int)) R39 ha (by first | exact ⟨by omega, by omega, by omega⟩ | (simp only [hs_c (show (0 : Nat) ≠ 6 by decide)]; exact ⟨by omega, by omega, by omega⟩)) dX10_passes_215 (by omega) (by omega) (fun M42 R43 f44 => ?_)
                        refine m_aload_n hC 4 dX10_passes_216 rfl rfl ?_
                        refine m_getf hC dX10_passes_217 kf_X10_9 R43.ob rfl ?_
                        refine m_bipush hC dX10_passes_220 (by decide) ?_
                        refine m_dup2 hC dX10_passes_222 rfl rfl ?_
                        refine m_n0 hC R43 dX10_passes_223 (by decide) ?_
                        refine m_iload hC 0 dX10_passes_224 rfl ?_
                        refine m_iadd hC dX10_passes_226 ?_
                        refine m_s0 hC R43 ha (by first | exact ⟨by omega, by omega, by omega⟩ | (simp only [hs_c (show (0 : Nat) ≠ 6 by decide)]; exact ⟨by omega, by omega, by omega⟩)) dX10_passes_227 (by decide) (fun M45 R46 f47 => ?_)
                        have R48 : mmV a w (S_rw (S_gn (S_tm (S_n1 g) k) (j + 1)) (S_ln (S_tm (S_n1 g) k) ((j + 1 : Nat) : Int))) M45 := by rw [← X_grB (by first | (exact Or.inl (by omega)) | (exact Or.inr (by omega)))]; exact R46
                        refine m_iinc hC 2 dX10_passes_228 rfl (by decide) rfl ?_
                        refine m_goto (tgt := 131) hC dX10_passes_231 (by decide) ?_
                        refine m_lvs [0, 3, 4] rfl (ih3 (j + 1) _ (by omega) (by omega) R48 (hfr3.tr (f38.tr (f44.tr f47))))
                      · refine m_iload_n hC 0 dX10_passes_176 rfl rfl ?_
                        refine m_if_le (tgt := 197) hC dX10_passes_177 (by decide) (by first | omega | (simp [hs_at] <;> omega)) (fun c177 => ?_) (fun c177 => ?_)
                        · refine m_iconst hC dX10_passes_197 ?_
                          refine m_istore hC dX10_passes_198 (by decide) rfl ?_
                          refine m_aload_n hC 4 dX10_passes_200 rfl rfl ?_
                          refine m_getf hC dX10_passes_201 kf_X10_9 R39.ob rfl ?_
                          refine m_aload_n hC 4 dX10_passes_204 rfl rfl ?_
                          refine m_iload_n hC 2 dX10_passes_205 rfl rfl ?_
                          refine m_iconst hC dX10_passes_206 ?_
                          refine m_callV hC (t_X10_place hF hl R39 ha hB4 (x := (j : Int)) (y := 2) (by omega)) dX10_passes_207 kc_X10_place kV_X10_80 R39.ob rfl rfl rfl rfl (Nat.le_of_ble_eq_true rfl) (by decide) (by decide) m_nox (fun v9 M49 h9 => ?_)
                          obtain ⟨rfl, h9⟩ := h9
                          replace h9 := h9.symm
                          subst h9
                          rw [if_pos (by omega)]
                          refine m_dup2 hC dX10_passes_210 rfl rfl ?_
                          refine m_n6 hC ((j : Int)) R39 dX10_passes_211 (by omega) (by omega) (by omega) ?_
                          refine m_iload hC 0 dX10_passes_212 rfl ?_
                          refine m_iadd hC dX10_passes_214 ?_
                          refine m_s6 hC ((j : Int)) R39 ha (by first | exact ⟨by omega, by omega, by omega⟩ | (simp only [hs_c (show (0 : Nat) ≠ 6 by decide)]; exact ⟨by omega, by omega, by omega⟩)) dX10_passes_215 (by omega) (by omega) (fun M50 R51 f52 => ?_)
                          refine m_aload_n hC 4 dX10_passes_216 rfl rfl ?_
                          refine m_getf hC dX10_passes_217 kf_X10_9 R51.ob rfl ?_
                          refine m_bipush hC dX10_passes_220 (by decide) ?_
                          refine m_dup2 hC dX10_passes_222 rfl rfl ?_
                          refine m_n0 hC R51 dX10_passes_223 (by decide) ?_
                          refine m_iload hC 0 dX10_passes_224 rfl ?_
                          refine m_iadd hC dX10_passes_226 ?_
                          refine m_s0 hC R51 ha (by first | exact ⟨by omega, by omega, by omega⟩ | (simp only [hs_c (show (0 : Nat) ≠ 6 by decide)]; exact ⟨by omega, by omega, by omega⟩)) dX10_passes_227 (by decide) (fun M53 R54 f55 => ?_)
                          have R56 : mmV a w (S_rw (S_gn (S_tm (S_n1 g) k) (j + 1)) (S_ln (S_tm (S_n1 g) k) ((j + 1 : Nat) : Int))) M53 := by rw [← X_grB (by first | (exact Or.inl (by omega)) | (exact Or.inr (by omega)))]; exact R54
                          refine m_iinc hC 2 dX10_passes_228 rfl (by decide) rfl ?_
                          refine m_goto (tgt := 131) hC dX10_passes_231 (by decide) ?_
                          refine m_lvs [0, 3, 4] rfl (ih3 (j + 1) _ (by omega) (by omega) R56 (hfr3.tr (f38.tr (f52.tr f55))))
                        · refine m_sipush hC dX10_passes_180 (by decide) ?_
                          refine m_iload_n hC 0 dX10_passes_183 rfl rfl ?_
                          refine m_isub hC dX10_passes_184 ?_
                          refine m_iload_n hC 0 dX10_passes_185 rfl rfl ?_
                          refine m_bipush hC dX10_passes_186 (by decide) ?_
                          refine m_idiv hC dX10_passes_188 (by first | omega | (simp [hs_at] <;> omega)) ?_
                          refine m_iconst hC dX10_passes_189 ?_
                          refine m_iadd hC dX10_passes_190 ?_
                          refine m_mmin hC dX10_passes_191 kM_X10_135 (by first | omega | (simp [hs_at] <;> omega)) (by decide) (Nat.le_of_ble_eq_true rfl) (by decide) (by decide) ?_
                          refine m_goto (tgt := 198) hC dX10_passes_194 (by decide) ?_
                          obtain ⟨mo, hmo⟩ : ∃ z, z = min (999 - d) (d / 10 + 1) := ⟨_, rfl⟩
                          rw [← hmo]
                          refine m_istore hC dX10_passes_198 (by decide) rfl ?_
                          refine m_aload_n hC 4 dX10_passes_200 rfl rfl ?_
                          refine m_getf hC dX10_passes_201 kf_X10_9 R39.ob rfl ?_
                          refine m_aload_n hC 4 dX10_passes_204 rfl rfl ?_
                          refine m_iload_n hC 2 dX10_passes_205 rfl rfl ?_
                          refine m_iconst hC dX10_passes_206 ?_
                          refine m_callV hC (t_X10_place hF hl R39 ha hB4 (x := (j : Int)) (y := 2) (by omega)) dX10_passes_207 kc_X10_place kV_X10_80 R39.ob rfl rfl rfl rfl (Nat.le_of_ble_eq_true rfl) (by decide) (by decide) m_nox (fun v9 M57 h9 => ?_)
                          obtain ⟨rfl, h9⟩ := h9
                          replace h9 := h9.symm
                          subst h9
                          rw [if_pos (by omega)]
                          refine m_dup2 hC dX10_passes_210 rfl rfl ?_
                          refine m_n6 hC ((j : Int)) R39 dX10_passes_211 (by omega) (by omega) (by omega) ?_
                          refine m_iload hC 0 dX10_passes_212 rfl ?_
                          refine m_iadd hC dX10_passes_214 ?_
                          refine m_s6 hC ((j : Int)) R39 ha (by first | exact ⟨by omega, by omega, by omega⟩ | (simp only [hs_c (show (0 : Nat) ≠ 6 by decide)]; exact ⟨by omega, by omega, by omega⟩)) dX10_passes_215 (by omega) (by omega) (fun M58 R59 f60 => ?_)
                          refine m_aload_n hC 4 dX10_passes_216 rfl rfl ?_
                          refine m_getf hC dX10_passes_217 kf_X10_9 R59.ob rfl ?_
                          refine m_bipush hC dX10_passes_220 (by decide) ?_
                          refine m_dup2 hC dX10_passes_222 rfl rfl ?_
                          refine m_n0 hC R59 dX10_passes_223 (by decide) ?_
                          refine m_iload hC 0 dX10_passes_224 rfl ?_
                          refine m_iadd hC dX10_passes_226 ?_
                          refine m_s0 hC R59 ha (by first | exact ⟨by omega, by omega, by omega⟩ | (simp only [hs_c (show (0 : Nat) ≠ 6 by decide)]; exact ⟨by omega, by omega, by omega⟩)) dX10_passes_227 (by decide) (fun M61 R62 f63 => ?_)
                          have R64 : mmV a w (S_rw (S_gn (S_tm (S_n1 g) k) (j + 1)) (S_ln (S_tm (S_n1 g) k) ((j + 1 : Nat) : Int))) M61 := by rw [← X_grA (by omega) (by omega) hdd hmo]; exact R62
                          refine m_iinc hC 2 dX10_passes_228 rfl (by decide) rfl ?_
                          refine m_goto (tgt := 131) hC dX10_passes_231 (by decide) ?_
                          refine m_lvs [0, 3, 4] rfl (ih3 (j + 1) _ (by omega) (by omega) R64 (hfr3.tr (f38.tr (f60.tr f63))))
              refine m_lvs [0, 1, 2] rfl (L3 6 0 M2 (by omega) (by omega) (by rw [show S_gn (S_tm (S_n1 g) k) 0 = (S_tm (S_n1 g) k) by unfold S_gn; split <;> rfl, show ((0 : Nat) : Int) = 0 from rfl, X_ln0 hR]; exact hV2.eq (X_rwi hn11.1)) hfr2)
            · have hgo := hT.go (i := (k : Int)) (by omega)
              refine m_aload_n hC 2 dX10_passes_64 rfl rfl ?_
              refine m_iload_n hC 0 dX10_passes_65 rfl rfl ?_
              refine m_iconst hC dX10_passes_66 ?_
              refine m_callV hC (t_X10_of hF hl hV2 ha hB2 (x := (k : Int)) (y := 4) 8 rfl (by decide) (by omega)) dX10_passes_67 kc_X10_of kV_X10_95 hV2.ob rfl rfl rfl rfl (Nat.le_of_ble_eq_true rfl) (by decide) (by decide) m_nox (fun v9 M65 h9 => ?_)
              obtain ⟨rfl, h9⟩ := h9
              replace h9 := h9.symm
              subst h9
              refine m_iconst hC dX10_passes_70 ?_
              refine m_dia_icmp_ne hC dX10_passes_71 dX10_passes_74 dX10_passes_75 dX10_passes_78 rfl rfl (by first | omega | (simp [hs_at] <;> omega)) ?_
              refine m_istore_n hC dX10_passes_79 rfl (by decide) rfl ?_
              refine m_aload_n hC 3 dX10_passes_80 rfl rfl ?_
              refine m_getf hC dX10_passes_81 kf_X10_9 hV2.ob rfl ?_
              refine m_aload_n hC 3 dX10_passes_84 rfl rfl ?_
              refine m_iload_n hC 1 dX10_passes_85 rfl rfl ?_
              refine m_iconst hC dX10_passes_86 ?_
              refine m_callV hC (t_X10_place hF hl hV2 ha hB2 (x := (k : Int)) (y := 3) (by omega)) dX10_passes_87 kc_X10_place kV_X10_80 hV2.ob rfl rfl rfl rfl (Nat.le_of_ble_eq_true rfl) (by decide) (by decide) m_nox (fun v9 M66 h9 => ?_)
              obtain ⟨rfl, h9⟩ := h9
              replace h9 := h9.symm
              subst h9
              rw [if_pos (by omega)]
              refine m_iload_n hC 0 dX10_passes_90 rfl rfl ?_
              refine m_if_eq (tgt := 105) hC dX10_passes_91 (by decide) b01_r (fun c91 => ?_) (fun c91 => ?_)
              · have c8 : S_tm (S_n1 g) k 8 (k : Int) = 0 := by have := b01_eq.mp c91; omega
                refine m_iconst hC dX10_passes_105 ?_
                refine m_s7 hC ((k : Int)) hV2 ha (by first | exact ⟨by omega, by omega, by omega⟩ | (simp only [hs_c (show (0 : Nat) ≠ 6 by decide)]; exact ⟨by omega, by omega, by omega⟩)) dX10_passes_106 (by omega) (by omega) (fun M67 R68 f69 => ?_)
                refine m_iload_n hC 2 dX10_passes_107 rfl rfl ?_
                refine m_iload_n hC 0 dX10_passes_108 rfl rfl ?_
                refine m_if_eq (tgt := 116) hC dX10_passes_109 (by decide) b01_r (fun c109 => ?_) (fun c109 => ?_)
                · refine m_aload_n hC 3 dX10_passes_116 rfl rfl ?_
                  refine m_iload_n hC 1 dX10_passes_117 rfl rfl ?_
                  refine m_callV hC (t_X10_works hF hl R68 ha ((hT.st7 (i := (k : Int)) (v := 0) (by omega)).toB (by omega)) (x := (k : Int)) (by show 0 ≤ (k : Int) ∧ (k : Int) < S_tm (S_n1 g) k 0 9; omega) (hT.st7 (by omega)) (by omega)) dX10_passes_118 kc_X10_works kV_X10_163 R68.ob rfl rfl rfl rfl (Nat.le_of_ble_eq_true rfl) (by decide) (by decide) m_nox (fun v9 M70 h9 => ?_)
                  obtain ⟨rfl, R71, f72⟩ := h9
                  refine m_iadd hC dX10_passes_121 ?_
                  rw [← (X_tm1 c8).2]
                  refine m_istore_n hC dX10_passes_122 rfl (by decide) rfl ?_
                  refine m_iinc hC 2 dX10_passes_123 rfl (by decide) rfl ?_
                  refine m_goto (tgt := 53) hC dX10_passes_126 (by decide) ?_
                  refine m_lvs [0, 1, 3] rfl (ih2 (k + 1) _ (by omega) (by omega) (by rw [(X_tm1 c8).1]; exact R71) (hfr2.tr (f69.tr f72)))
                · exact absurd c91 c109
              · have c8 : ¬ S_tm (S_n1 g) k 8 (k : Int) = 0 := by have := b01_ne.mp c91; omega
                refine m_aload_n hC 3 dX10_passes_94 rfl rfl ?_
                refine m_iload_n hC 1 dX10_passes_95 rfl rfl ?_
                refine m_iconst hC dX10_passes_96 ?_
                refine m_callV hC (t_X10_of hF hl hV2 ha hB2 (x := (k : Int)) (y := 3) 7 rfl (by decide) (by omega)) dX10_passes_97 kc_X10_of kV_X10_95 hV2.ob rfl rfl rfl rfl (Nat.le_of_ble_eq_true rfl) (by decide) (by decide) m_nox (fun v9 M73 h9 => ?_)
                obtain ⟨rfl, h9⟩ := h9
                replace h9 := h9.symm
                subst h9
                refine m_iconst hC dX10_passes_100 ?_
                refine m_iadd hC dX10_passes_101 ?_
                refine m_goto (tgt := 106) hC dX10_passes_102 (by decide) ?_
                refine m_s7 hC ((k : Int)) hV2 ha (by first | exact ⟨by omega, by omega, by omega⟩ | (simp only [hs_c (show (0 : Nat) ≠ 6 by decide)]; exact ⟨by omega, by omega, by omega⟩)) dX10_passes_106 (by omega) (by omega) (fun M74 R75 f76 => ?_)
                refine m_iload_n hC 2 dX10_passes_107 rfl rfl ?_
                refine m_iload_n hC 0 dX10_passes_108 rfl rfl ?_
                refine m_if_eq (tgt := 116) hC dX10_passes_109 (by decide) b01_r (fun c109 => ?_) (fun c109 => ?_)
                · exact absurd c109 c91
                · refine m_iconst hC dX10_passes_112 ?_
                  refine m_goto (tgt := 121) hC dX10_passes_113 (by decide) ?_
                  refine m_iadd hC dX10_passes_121 ?_
                  rw [← (X_tm2 c8).2]
                  refine m_istore_n hC dX10_passes_122 rfl (by decide) rfl ?_
                  refine m_iinc hC 2 dX10_passes_123 rfl (by decide) rfl ?_
                  refine m_goto (tgt := 53) hC dX10_passes_126 (by decide) ?_
                  refine m_lvs [0, 1, 3] rfl (ih2 (k + 1) _ (by omega) (by omega) (by rw [(X_tm2 c8).1]; exact R75) (hfr2.tr f76))
        refine m_lvs [0, 1, 2] rfl (L2 6 0 M1 (by omega) (by omega) R5 hfr)
      · have hdu := hK1.du (i := (i : Int)) (by omega)
        refine m_aload_n hC 1 dX10_passes_18 rfl rfl ?_
        refine m_getf hC dX10_passes_19 kf_X10_9 hV1.ob rfl ?_
        refine m_bipush hC dX10_passes_22 (by decide) ?_
        refine m_iload_n hC 0 dX10_passes_24 rfl rfl ?_
        refine m_iadd hC dX10_passes_25 ?_
        refine m_bipush hC dX10_passes_26 (by decide) ?_
        refine m_aload_n hC 1 dX10_passes_28 rfl rfl ?_
        refine m_getf hC dX10_passes_29 kf_X10_9 hV1.ob rfl ?_
        refine m_bipush hC dX10_passes_32 (by decide) ?_
        refine m_iload_n hC 0 dX10_passes_34 rfl rfl ?_
        refine m_iadd hC dX10_passes_35 ?_
        refine m_n1 hC ((i : Int)) hV1 dX10_passes_36 (by omega) (by omega) (by decide) ?_
        refine m_iconst hC dX10_passes_37 ?_
        refine m_iadd hC dX10_passes_38 ?_
        refine m_mmin hC dX10_passes_39 kM_X10_135 (by first | omega | (simp [hs_at] <;> omega)) (by decide) (Nat.le_of_ble_eq_true rfl) (by decide) (by decide) ?_
        refine m_s1 hC ((i : Int)) hV1 ha (by first | exact ⟨by omega, by omega, by omega⟩ | (simp only [hs_c (show (0 : Nat) ≠ 6 by decide)]; exact ⟨by omega, by omega, by omega⟩)) dX10_passes_42 (by omega) (by omega) (fun M77 R78 f79 => ?_)
        refine m_iinc hC 0 dX10_passes_43 rfl (by decide) rfl ?_
        refine m_goto (tgt := 12) hC dX10_passes_46 (by decide) ?_
        refine m_lvs [0, 1] rfl (ih (i + 1) _ (by omega) (by omega) (by rw [← X_du1]; exact R78) (hfr.tr f79))
  refine m_lvs [0, 1] rfl (L1 7 0 M1 (by omega) (by omega) R2 f3)

theorem m_veq {D : va_G} {aC : Nat → ClassId} {s0 : State} {nL : Nat} {p : Program} {l : Launch} {e : Env} {R : Room} {s : State} {m : MethodId} {args : Array Value} {below : List Frame} {meth : Method} {c : Code} {cells slots : Nat} {Q : State → Prop} {pc : Nat} {lv : List (Nat × Value)} {st : List Value} {M : m_M} {z z2 : Int} (h : z = z2) (kk : m_W D aC s0 nL p l e R s m args below meth c cells slots Q pc lv (VI z2 :: st) M) : m_W D aC s0 nL p l e R s m args below meth c cells slots Q pc lv (VI z :: st) M := h ▸ kk
set_option maxHeartbeats 4000000 in
set_option maxRecDepth 100000 in
theorem t_X10_waits {D : va_G} {aC : Nat → ClassId} {s0 : State} {l : Launch} (hF : m_F D aC s0) (hl : l.stackTraces = false) {a : Nat} {w g : h_T} {M : m_M} (hV : mmV a w g M) (ha : s0.heap.size ≤ a) (hB : h_B g) {x : Int} (hx : -2147483648 ≤ x ∧ x < 2147483648) {K : Int} (hK : h_BK K g) (hKb : K ≤ 79000000) : m_Met D aC s0 l yX10_waits cX10_waits 4 (some .int) 7 (0) (0) [.ref a, VI x] M (m_op a w [-2] (S_pass g x) M) m_nx := by
  refine m_entry (lv := [(0, .ref a), (1, VI x)]) (by decide +kernel) (Nat.le_of_ble_eq_true rfl) rfl hF hl ?_
  intro p e s m args below meth c hC hr hno hnm
  change m_C D aC s0 RX10 _ _ _ _ _ _ _ _ _ at hC
  have h99 : g 0 4 - g 0 4 = 0 := by omega
  refine m_aload_n hC 0 dX10_waits_0 rfl rfl ?_
  refine m_iload_n hC 1 dX10_waits_1 rfl rfl ?_
  refine m_iconst hC dX10_waits_2 ?_
  refine m_bipush hC dX10_waits_3 (by decide) ?_
  refine m_callS hC (t_X10_isIn hF hl (z := x) (lo := 1) (hi := 60) (by omega)) dX10_waits_5 kc_X10_isIn kS_X10_69 rfl rfl (Nat.le_of_ble_eq_true rfl) (by decide) (by decide) m_nox (fun v9 M1 h9 => ?_)
  obtain ⟨rfl, h9⟩ := h9
  replace h9 := h9.symm
  subst h9
  refine m_callV hC (t_X10_goes hF hl hV ha hB (z := b01 (1 ≤ x ∧ x ≤ 60)) (by first | exact b01_r | omega)) dX10_waits_8 kc_X10_goes kV_X10_61 hV.ob rfl rfl rfl rfl (Nat.le_of_ble_eq_true rfl) (by decide) (by decide) m_nox (fun v9 M2 h9 => ?_)
  obtain ⟨rfl, R3, f4⟩ := h9
  refine m_if_ne (tgt := 16) hC dX10_waits_11 (by decide) b01_r (fun ch => ?_) (fun ch => ?_)
  · have k1 := b01_ne.mp (b01_ne.mp ch)
    rw [if_neg (b01_ne.mp ch)] at R3
    refine m_iconst hC dX10_waits_16 ?_
    refine m_veq (z2 := S_nights g 0 0 4 - g 0 4) (by show 0 = g 0 4 - g 0 4; omega) ?_
    refine m_istore_n hC dX10_waits_17 rfl (by decide) rfl ?_
    refine m_iconst hC dX10_waits_18 ?_
    refine m_istore_n hC dX10_waits_19 rfl (by decide) rfl ?_
    have L : ∀ (n : Nat) (i : Nat) (M1 : m_M), x - (i : Int) < (n : Int) → (i : Int) ≤ x → mmV a (hs w 0 14 0) (S_nights g i) M1 → m_fr a 10 M M1 → m_W D aC s0 4 p l e (m_R 7 (0) (0)) s m args below meth c (0) (0) (m_Q D aC s0 below (m_op a w [-2] (S_pass g x) M) m_nx args s (0) (0)) 20 [(3, VI (i : Int)), (2, VI (S_nights g i 0 4 - g 0 4)), (1, VI x), (0, .ref a)] [] M1 := by
      intro n
      induction n with
      | zero =>
        intro i M1 hn h1 hV1 hfr
        omega
      | succ n ih =>
        intro i M1 hn h1 hV1 hfr
        have hN := (hK.nights i).1
        refine m_iload_n hC 0 dX10_waits_20 rfl rfl ?_
        refine m_iload_n hC 2 dX10_waits_21 rfl rfl ?_
        refine m_icmp_ge (tgt := 38) hC dX10_waits_22 (by decide) (by first | omega | (simp [hs_at] <;> omega)) (fun ck => ?_) (fun ck => ?_)
        · refine m_iload_n hC 1 dX10_waits_38 rfl rfl ?_
          exact m_iret hC dX10_waits_39 hr (by decide) (by decide) (m_opy (S := S_pass g x) (z := S_nights g i 0 4 - g 0 4) (g := S_nights g i) (by unfold S_pass; rw [if_neg (by omega), show x.toNat = i by omega]) (by have := S_nights_done g i; omega) hV1 (hfr.tr m_fr.rf))
        · refine m_iload_n hC 1 dX10_waits_25 rfl rfl ?_
          refine m_aload_n hC 3 dX10_waits_26 rfl rfl ?_
          refine m_callV hC (t_X10_passes hF hl hV1 ha (hN.toB (by omega)) hN (by omega)) dX10_waits_27 kc_X10_passes kV_X10_169 hV1.ob rfl rfl rfl rfl (Nat.le_of_ble_eq_true rfl) (by decide) (by decide) m_nox (fun v9 M5 h9 => ?_)
          obtain ⟨rfl, R6, f7⟩ := h9
          refine m_iadd hC dX10_waits_30 ?_
          rw [show S_nights g i 0 4 - g 0 4 + (S_night (S_nights g i) 0 4 - S_nights g i 0 4) = S_nights g (i + 1) 0 4 - g 0 4 by rw [S_nights]; omega]
          refine m_istore_n hC dX10_waits_31 rfl (by decide) rfl ?_
          refine m_iinc hC 1 dX10_waits_32 rfl (by decide) rfl ?_
          refine m_goto (tgt := 20) hC dX10_waits_35 (by decide) ?_
          refine m_lvs [0, 1, 2, 3] rfl (ih (i + 1) _ (by omega) (by omega) R6 (hfr.tr f7))
    refine m_lvs [0, 1, 3, 2] rfl (L (x.toNat + 1) 0 M2 (by omega) (by omega) R3 f4)
  · refine m_iconst hC dX10_waits_14 ?_
    exact m_iret hC dX10_waits_15 hr (by decide) (by decide) (m_opg (fun hP => by unfold S_pass; rw [if_pos (by omega)]; exact ⟨by (try dsimp only); omega, rfl, by simp [o_th, o_ix]⟩) ch R3 f4)

