/-! the law lays its household, and does something -/
set_option maxHeartbeats 4000000 in
set_option maxRecDepth 100000 in
theorem t_L_any {D : va_G} {aC : Nat → ClassId} {s0 : State} {l : Launch} (hF : m_F D aC s0) (hl : l.stackTraces = false) {fo ks vs : Nat → Nat} {fA sA dO dT : Nat} (hJ : m_J s0 fo ks vs fA sA dO dT) (hX : m_TH s0) (hN : m_NC s0) {x w : Nat} {W : gW} {M : m_M} {K : Int} (hG : gIn s0.heap.size fo x w W M) (hI : lI K W) (hK : K ≤ 70000000) {b L : Nat} {xs : Nat → Int32} (hS : sS s0 b L xs) {i : Int} (hi : 0 ≤ i ∧ i < 10000) : m_Met D aC s0 l yL_any cL_any 5 (some .int) 15 (940) (1880) [.ref x, .ref b, VI i] M (dQ s0.heap.size fo x w (K + 5300) M) m_nx := by
  refine m_entry (lv := [(0, .ref x), (1, .ref b), (2, VI i)]) (by decide +kernel) (Nat.le_of_ble_eq_true rfl) rfl hF hl ?_
  intro p e s m args below meth c hC hr hno hnm
  change m_C D aC s0 RL _ _ _ _ _ _ _ _ _ at hC
  have hB := hI.B (by omega)
  have n8 := hB.n8
  have n9 := hB.n9
  have n11 := hB.n11
  refine m_aload_n hC 1 dL_any_0 rfl rfl ?_
  refine m_iload_n hC 2 dL_any_1 rfl rfl ?_
  refine m_iconst hC dL_any_2 ?_
  refine m_iadd hC dL_any_3 ?_
  refine m_iconst hC dL_any_4 ?_
  refine m_aload_n hC 0 dL_any_5 rfl rfl ?_
  refine m_qV hC (Q_goblinCount hF hl hX hG.2.1 hG.2.2.1 hB) dL_any_6 kc_X9_goblinCount kV_L_124 hG.2.1 rfl rfl rfl rfl (Nat.le_of_ble_eq_true rfl) ⟨Nat.le_of_ble_eq_true rfl, Nat.le_of_ble_eq_true rfl⟩ ⟨Nat.le_of_ble_eq_true rfl, Nat.le_of_ble_eq_true rfl⟩ ?_
  refine m_mmax hC dL_any_9 kM_L_127 (by first | omega | (simp [hs_at] <;> omega)) (Nat.le_of_ble_eq_true rfl) (Nat.le_of_ble_eq_true rfl) (Nat.le_of_ble_eq_true rfl) (Nat.le_of_ble_eq_true rfl) ?_
  refine m_callSt hC (t_L_pick hF hl hS (by omega) (by omega)) dL_any_12 kc_L_pick kS_L_117 rfl rfl (Nat.le_of_ble_eq_true rfl) ⟨Nat.le_of_ble_eq_true rfl, Nat.le_of_ble_eq_true rfl⟩ ⟨Nat.le_of_ble_eq_true rfl, Nat.le_of_ble_eq_true rfl⟩ (fun v M9 h => by rw [h.2]) (fun _ _ h => h) (fun v9 M9 h9 => ?_)
  obtain ⟨⟨zp1, hzp1, rfl⟩, h9⟩ := h9
  replace h9 := h9.symm
  subst h9
  refine m_istore_n hC dL_any_15 rfl (by decide) rfl ?_
  refine m_aload_n hC 2 dL_any_16 rfl rfl ?_
  refine m_iload_n hC 3 dL_any_17 rfl rfl ?_
  refine m_iconst hC dL_any_18 ?_
  refine m_iadd hC dL_any_19 ?_
  refine m_iconst hC dL_any_20 ?_
  refine m_aload_n hC 1 dL_any_21 rfl rfl ?_
  refine m_qV hC (Q_broomCount hF hl hX hG.2.1 hG.2.2.1 hB) dL_any_22 kc_X9_broomCount kV_L_132 hG.2.1 rfl rfl rfl rfl (Nat.le_of_ble_eq_true rfl) ⟨Nat.le_of_ble_eq_true rfl, Nat.le_of_ble_eq_true rfl⟩ ⟨Nat.le_of_ble_eq_true rfl, Nat.le_of_ble_eq_true rfl⟩ ?_
  refine m_mmax hC dL_any_25 kM_L_127 (by first | omega | (simp [hs_at] <;> omega)) (Nat.le_of_ble_eq_true rfl) (Nat.le_of_ble_eq_true rfl) (Nat.le_of_ble_eq_true rfl) (Nat.le_of_ble_eq_true rfl) ?_
  refine m_callSt hC (t_L_pick hF hl hS (by omega) (by omega)) dL_any_28 kc_L_pick kS_L_117 rfl rfl (Nat.le_of_ble_eq_true rfl) ⟨Nat.le_of_ble_eq_true rfl, Nat.le_of_ble_eq_true rfl⟩ ⟨Nat.le_of_ble_eq_true rfl, Nat.le_of_ble_eq_true rfl⟩ (fun v M9 h => by rw [h.2]) (fun _ _ h => h) (fun v9 M9 h9 => ?_)
  obtain ⟨⟨zp2, hzp2, rfl⟩, h9⟩ := h9
  replace h9 := h9.symm
  subst h9
  refine m_istore hC dL_any_31 (by decide) rfl ?_
  refine m_aload_n hC 3 dL_any_33 rfl rfl ?_
  refine m_iload_n hC 4 dL_any_34 rfl rfl ?_
  refine m_bipush hC dL_any_35 (by decide) ?_
  refine m_callSt hC (t_L_pick hF hl hS (by omega) (by omega)) dL_any_37 kc_L_pick kS_L_117 rfl rfl (Nat.le_of_ble_eq_true rfl) ⟨Nat.le_of_ble_eq_true rfl, Nat.le_of_ble_eq_true rfl⟩ ⟨Nat.le_of_ble_eq_true rfl, Nat.le_of_ble_eq_true rfl⟩ (fun v M9 h => by rw [h.2]) (fun _ _ h => h) (fun v9 M9 h9 => ?_)
  obtain ⟨⟨zp3, hzp3, rfl⟩, h9⟩ := h9
  replace h9 := h9.symm
  subst h9
  have hcs : zp3 = 0 ∨ zp3 = 1 ∨ zp3 = 2 ∨ zp3 = 3 ∨ zp3 = 4 ∨ zp3 = 5 ∨ zp3 = 6 ∨ zp3 = 7 ∨ zp3 = 8 ∨ zp3 = 9 ∨ zp3 = 10 ∨ zp3 = 11 ∨ zp3 = 12 ∨ zp3 = 13 ∨ zp3 = 14 ∨ zp3 = 15 ∨ zp3 = 16 ∨ zp3 = 17 ∨ zp3 = 18 ∨ zp3 = 19 ∨ 20 ≤ zp3 := by omega
  rcases hcs with rfl | rfl | rfl | rfl | rfl | rfl | rfl | rfl | rfl | rfl | rfl | rfl | rfl | rfl | rfl | rfl | rfl | rfl | rfl | rfl | hz20
  · refine m_tin (tgt := 136) hC dL_any_40 (by decide) (by decide) rfl (by decide) ?_
    refine m_aload_n hC 2 dL_any_136 rfl rfl ?_
    refine m_iconst hC dL_any_137 ?_
    refine m_iconst hC dL_any_138 ?_
    refine m_aload_n hC 3 dL_any_139 rfl rfl ?_
    refine m_iload_n hC 4 dL_any_140 rfl rfl ?_
    refine m_iconst hC dL_any_141 ?_
    refine m_iadd hC dL_any_142 ?_
    refine m_bipush hC dL_any_143 (by decide) ?_
    refine m_callSt hC (t_L_pick hF hl hS (by omega) (by omega)) dL_any_145 kc_L_pick kS_L_117 rfl rfl (Nat.le_of_ble_eq_true rfl) ⟨Nat.le_of_ble_eq_true rfl, Nat.le_of_ble_eq_true rfl⟩ ⟨Nat.le_of_ble_eq_true rfl, Nat.le_of_ble_eq_true rfl⟩ (fun v M9 h => by rw [h.2]) (fun _ _ h => h) (fun v9 M9 h9 => ?_)
    obtain ⟨⟨zp4, hzp4, rfl⟩, h9⟩ := h9
    replace h9 := h9.symm
    subst h9
    refine m_iadd hC dL_any_148 ?_
    refine m_iconst hC dL_any_149 ?_
    refine m_iconst hC dL_any_150 ?_
    refine m_iconst hC dL_any_151 ?_
    refine m_callSW hC (d_addGoblin hF hl hJ hX hN hG hI (by omega) ⟨⟨by omega, by omega⟩, ⟨by omega, by omega⟩, ⟨by omega, by omega⟩, ⟨by omega, by omega⟩⟩) dL_any_152 kw_L_deed kS_L_121 rfl rfl (Nat.le_of_ble_eq_true rfl) ⟨Nat.le_of_ble_eq_true rfl, Nat.le_of_ble_eq_true rfl⟩ ⟨Nat.le_of_ble_eq_true rfl, Nat.le_of_ble_eq_true rfl⟩ (fun v9 M1 h9 => ?_)
    obtain ⟨zd5, W4, rfl, hG2, hf3, hI6⟩ := h9
    exact m_iret hC dL_any_155 hr (Nat.le_of_ble_eq_true rfl) (Nat.le_of_ble_eq_true rfl) (⟨_, W4, rfl, hG2, hf3, hI6⟩)
  · refine m_tin (tgt := 156) hC dL_any_40 (by decide) (by decide) rfl (by decide) ?_
    refine m_aload_n hC 2 dL_any_156 rfl rfl ?_
    refine m_iconst hC dL_any_157 ?_
    refine m_iconst hC dL_any_158 ?_
    refine m_aload_n hC 3 dL_any_159 rfl rfl ?_
    refine m_iload_n hC 4 dL_any_160 rfl rfl ?_
    refine m_iconst hC dL_any_161 ?_
    refine m_iadd hC dL_any_162 ?_
    refine m_bipush hC dL_any_163 (by decide) ?_
    refine m_callSt hC (t_L_pick hF hl hS (by omega) (by omega)) dL_any_165 kc_L_pick kS_L_117 rfl rfl (Nat.le_of_ble_eq_true rfl) ⟨Nat.le_of_ble_eq_true rfl, Nat.le_of_ble_eq_true rfl⟩ ⟨Nat.le_of_ble_eq_true rfl, Nat.le_of_ble_eq_true rfl⟩ (fun v M9 h => by rw [h.2]) (fun _ _ h => h) (fun v9 M9 h9 => ?_)
    obtain ⟨⟨zp5, hzp5, rfl⟩, h9⟩ := h9
    replace h9 := h9.symm
    subst h9
    refine m_iadd hC dL_any_168 ?_
    refine m_iconst hC dL_any_169 ?_
    refine m_iconst hC dL_any_170 ?_
    refine m_iconst hC dL_any_171 ?_
    refine m_callSW hC (d_addBroom hF hl hJ hX hN hG hI (by omega) ⟨⟨by omega, by omega⟩, ⟨by omega, by omega⟩, ⟨by omega, by omega⟩, ⟨by omega, by omega⟩⟩) dL_any_172 kw_L_deed kS_L_121 rfl rfl (Nat.le_of_ble_eq_true rfl) ⟨Nat.le_of_ble_eq_true rfl, Nat.le_of_ble_eq_true rfl⟩ ⟨Nat.le_of_ble_eq_true rfl, Nat.le_of_ble_eq_true rfl⟩ (fun v9 M7 h9 => ?_)
    obtain ⟨zd11, W10, rfl, hG8, hf9, hI12⟩ := h9
    exact m_iret hC dL_any_175 hr (Nat.le_of_ble_eq_true rfl) (Nat.le_of_ble_eq_true rfl) (⟨_, W10, rfl, hG8, hf9, hI12⟩)
  · refine m_tin (tgt := 176) hC dL_any_40 (by decide) (by decide) rfl (by decide) ?_
    refine m_aload_n hC 2 dL_any_176 rfl rfl ?_
    refine m_iconst hC dL_any_177 ?_
    refine m_iload hC 0 dL_any_178 rfl ?_
    refine m_iconst hC dL_any_180 ?_
    refine m_iconst hC dL_any_181 ?_
    refine m_iconst hC dL_any_182 ?_
    refine m_callSW hC (d_banishBroom hF hl hJ hX hN hG hI (by omega) ⟨⟨by omega, by omega⟩, ⟨by omega, by omega⟩, ⟨by omega, by omega⟩, ⟨by omega, by omega⟩⟩) dL_any_183 kw_L_deed kS_L_121 rfl rfl (Nat.le_of_ble_eq_true rfl) ⟨Nat.le_of_ble_eq_true rfl, Nat.le_of_ble_eq_true rfl⟩ ⟨Nat.le_of_ble_eq_true rfl, Nat.le_of_ble_eq_true rfl⟩ (fun v9 M13 h9 => ?_)
    obtain ⟨zd17, W16, rfl, hG14, hf15, hI18⟩ := h9
    exact m_iret hC dL_any_186 hr (Nat.le_of_ble_eq_true rfl) (Nat.le_of_ble_eq_true rfl) (⟨_, W16, rfl, hG14, hf15, hI18⟩)
  · refine m_tin (tgt := 176) hC dL_any_40 (by decide) (by decide) rfl (by decide) ?_
    refine m_aload_n hC 2 dL_any_176 rfl rfl ?_
    refine m_iconst hC dL_any_177 ?_
    refine m_iload hC 0 dL_any_178 rfl ?_
    refine m_iconst hC dL_any_180 ?_
    refine m_iconst hC dL_any_181 ?_
    refine m_iconst hC dL_any_182 ?_
    refine m_callSW hC (d_banishBroom hF hl hJ hX hN hG hI (by omega) ⟨⟨by omega, by omega⟩, ⟨by omega, by omega⟩, ⟨by omega, by omega⟩, ⟨by omega, by omega⟩⟩) dL_any_183 kw_L_deed kS_L_121 rfl rfl (Nat.le_of_ble_eq_true rfl) ⟨Nat.le_of_ble_eq_true rfl, Nat.le_of_ble_eq_true rfl⟩ ⟨Nat.le_of_ble_eq_true rfl, Nat.le_of_ble_eq_true rfl⟩ (fun v9 M19 h9 => ?_)
    obtain ⟨zd23, W22, rfl, hG20, hf21, hI24⟩ := h9
    exact m_iret hC dL_any_186 hr (Nat.le_of_ble_eq_true rfl) (Nat.le_of_ble_eq_true rfl) (⟨_, W22, rfl, hG20, hf21, hI24⟩)
  · refine m_tin (tgt := 187) hC dL_any_40 (by decide) (by decide) rfl (by decide) ?_
    refine m_aload_n hC 2 dL_any_187 rfl rfl ?_
    refine m_iconst hC dL_any_188 ?_
    refine m_iload hC 0 dL_any_189 rfl ?_
    refine m_iconst hC dL_any_191 ?_
    refine m_iconst hC dL_any_192 ?_
    refine m_iconst hC dL_any_193 ?_
    refine m_callSW hC (d_recallBroom hF hl hJ hX hN hG hI (by omega) ⟨⟨by omega, by omega⟩, ⟨by omega, by omega⟩, ⟨by omega, by omega⟩, ⟨by omega, by omega⟩⟩) dL_any_194 kw_L_deed kS_L_121 rfl rfl (Nat.le_of_ble_eq_true rfl) ⟨Nat.le_of_ble_eq_true rfl, Nat.le_of_ble_eq_true rfl⟩ ⟨Nat.le_of_ble_eq_true rfl, Nat.le_of_ble_eq_true rfl⟩ (fun v9 M25 h9 => ?_)
    obtain ⟨zd29, W28, rfl, hG26, hf27, hI30⟩ := h9
    exact m_iret hC dL_any_197 hr (Nat.le_of_ble_eq_true rfl) (Nat.le_of_ble_eq_true rfl) (⟨_, W28, rfl, hG26, hf27, hI30⟩)
  · refine m_tin (tgt := 187) hC dL_any_40 (by decide) (by decide) rfl (by decide) ?_
    refine m_aload_n hC 2 dL_any_187 rfl rfl ?_
    refine m_iconst hC dL_any_188 ?_
    refine m_iload hC 0 dL_any_189 rfl ?_
    refine m_iconst hC dL_any_191 ?_
    refine m_iconst hC dL_any_192 ?_
    refine m_iconst hC dL_any_193 ?_
    refine m_callSW hC (d_recallBroom hF hl hJ hX hN hG hI (by omega) ⟨⟨by omega, by omega⟩, ⟨by omega, by omega⟩, ⟨by omega, by omega⟩, ⟨by omega, by omega⟩⟩) dL_any_194 kw_L_deed kS_L_121 rfl rfl (Nat.le_of_ble_eq_true rfl) ⟨Nat.le_of_ble_eq_true rfl, Nat.le_of_ble_eq_true rfl⟩ ⟨Nat.le_of_ble_eq_true rfl, Nat.le_of_ble_eq_true rfl⟩ (fun v9 M31 h9 => ?_)
    obtain ⟨zd35, W34, rfl, hG32, hf33, hI36⟩ := h9
    exact m_iret hC dL_any_197 hr (Nat.le_of_ble_eq_true rfl) (Nat.le_of_ble_eq_true rfl) (⟨_, W34, rfl, hG32, hf33, hI36⟩)
  · refine m_tin (tgt := 198) hC dL_any_40 (by decide) (by decide) rfl (by decide) ?_
    refine m_aload_n hC 2 dL_any_198 rfl rfl ?_
    refine m_iconst hC dL_any_199 ?_
    refine m_iload_n hC 1 dL_any_200 rfl rfl ?_
    refine m_aload_n hC 3 dL_any_201 rfl rfl ?_
    refine m_iload_n hC 4 dL_any_202 rfl rfl ?_
    refine m_iconst hC dL_any_203 ?_
    refine m_iadd hC dL_any_204 ?_
    refine m_bipush hC dL_any_205 (by decide) ?_
    refine m_callSt hC (t_L_pick hF hl hS (by omega) (by omega)) dL_any_207 kc_L_pick kS_L_117 rfl rfl (Nat.le_of_ble_eq_true rfl) ⟨Nat.le_of_ble_eq_true rfl, Nat.le_of_ble_eq_true rfl⟩ ⟨Nat.le_of_ble_eq_true rfl, Nat.le_of_ble_eq_true rfl⟩ (fun v M9 h => by rw [h.2]) (fun _ _ h => h) (fun v9 M9 h9 => ?_)
    obtain ⟨⟨zp6, hzp6, rfl⟩, h9⟩ := h9
    replace h9 := h9.symm
    subst h9
    refine m_iconst hC dL_any_210 ?_
    refine m_aload_n hC 3 dL_any_211 rfl rfl ?_
    refine m_iload_n hC 4 dL_any_212 rfl rfl ?_
    refine m_iconst hC dL_any_213 ?_
    refine m_iadd hC dL_any_214 ?_
    refine m_bipush hC dL_any_215 (by decide) ?_
    refine m_callSt hC (t_L_pick hF hl hS (by omega) (by omega)) dL_any_217 kc_L_pick kS_L_117 rfl rfl (Nat.le_of_ble_eq_true rfl) ⟨Nat.le_of_ble_eq_true rfl, Nat.le_of_ble_eq_true rfl⟩ ⟨Nat.le_of_ble_eq_true rfl, Nat.le_of_ble_eq_true rfl⟩ (fun v M9 h => by rw [h.2]) (fun _ _ h => h) (fun v9 M9 h9 => ?_)
    obtain ⟨⟨zp7, hzp7, rfl⟩, h9⟩ := h9
    replace h9 := h9.symm
    subst h9
    refine m_iadd hC dL_any_220 ?_
    refine m_iconst hC dL_any_221 ?_
    refine m_aload_n hC 3 dL_any_222 rfl rfl ?_
    refine m_iload_n hC 4 dL_any_223 rfl rfl ?_
    refine m_iconst hC dL_any_224 ?_
    refine m_iadd hC dL_any_225 ?_
    refine m_bipush hC dL_any_226 (by decide) ?_
    refine m_callSt hC (t_L_pick hF hl hS (by omega) (by omega)) dL_any_228 kc_L_pick kS_L_117 rfl rfl (Nat.le_of_ble_eq_true rfl) ⟨Nat.le_of_ble_eq_true rfl, Nat.le_of_ble_eq_true rfl⟩ ⟨Nat.le_of_ble_eq_true rfl, Nat.le_of_ble_eq_true rfl⟩ (fun v M9 h => by rw [h.2]) (fun _ _ h => h) (fun v9 M9 h9 => ?_)
    obtain ⟨⟨zp8, hzp8, rfl⟩, h9⟩ := h9
    replace h9 := h9.symm
    subst h9
    refine m_iadd hC dL_any_231 ?_
    refine m_callSW hC (d_hire hF hl hJ hX hN hG hI (by omega) ⟨⟨by omega, by omega⟩, ⟨by omega, by omega⟩, ⟨by omega, by omega⟩, ⟨by omega, by omega⟩⟩) dL_any_232 kw_L_deed kS_L_121 rfl rfl (Nat.le_of_ble_eq_true rfl) ⟨Nat.le_of_ble_eq_true rfl, Nat.le_of_ble_eq_true rfl⟩ ⟨Nat.le_of_ble_eq_true rfl, Nat.le_of_ble_eq_true rfl⟩ (fun v9 M37 h9 => ?_)
    obtain ⟨zd41, W40, rfl, hG38, hf39, hI42⟩ := h9
    exact m_iret hC dL_any_235 hr (Nat.le_of_ble_eq_true rfl) (Nat.le_of_ble_eq_true rfl) (⟨_, W40, rfl, hG38, hf39, hI42⟩)
  · refine m_tin (tgt := 198) hC dL_any_40 (by decide) (by decide) rfl (by decide) ?_
    refine m_aload_n hC 2 dL_any_198 rfl rfl ?_
    refine m_iconst hC dL_any_199 ?_
    refine m_iload_n hC 1 dL_any_200 rfl rfl ?_
    refine m_aload_n hC 3 dL_any_201 rfl rfl ?_
    refine m_iload_n hC 4 dL_any_202 rfl rfl ?_
    refine m_iconst hC dL_any_203 ?_
    refine m_iadd hC dL_any_204 ?_
    refine m_bipush hC dL_any_205 (by decide) ?_
    refine m_callSt hC (t_L_pick hF hl hS (by omega) (by omega)) dL_any_207 kc_L_pick kS_L_117 rfl rfl (Nat.le_of_ble_eq_true rfl) ⟨Nat.le_of_ble_eq_true rfl, Nat.le_of_ble_eq_true rfl⟩ ⟨Nat.le_of_ble_eq_true rfl, Nat.le_of_ble_eq_true rfl⟩ (fun v M9 h => by rw [h.2]) (fun _ _ h => h) (fun v9 M9 h9 => ?_)
    obtain ⟨⟨zp9, hzp9, rfl⟩, h9⟩ := h9
    replace h9 := h9.symm
    subst h9
    refine m_iconst hC dL_any_210 ?_
    refine m_aload_n hC 3 dL_any_211 rfl rfl ?_
    refine m_iload_n hC 4 dL_any_212 rfl rfl ?_
    refine m_iconst hC dL_any_213 ?_
    refine m_iadd hC dL_any_214 ?_
    refine m_bipush hC dL_any_215 (by decide) ?_
    refine m_callSt hC (t_L_pick hF hl hS (by omega) (by omega)) dL_any_217 kc_L_pick kS_L_117 rfl rfl (Nat.le_of_ble_eq_true rfl) ⟨Nat.le_of_ble_eq_true rfl, Nat.le_of_ble_eq_true rfl⟩ ⟨Nat.le_of_ble_eq_true rfl, Nat.le_of_ble_eq_true rfl⟩ (fun v M9 h => by rw [h.2]) (fun _ _ h => h) (fun v9 M9 h9 => ?_)
    obtain ⟨⟨zp10, hzp10, rfl⟩, h9⟩ := h9
    replace h9 := h9.symm
    subst h9
    refine m_iadd hC dL_any_220 ?_
    refine m_iconst hC dL_any_221 ?_
    refine m_aload_n hC 3 dL_any_222 rfl rfl ?_
    refine m_iload_n hC 4 dL_any_223 rfl rfl ?_
    refine m_iconst hC dL_any_224 ?_
    refine m_iadd hC dL_any_225 ?_
    refine m_bipush hC dL_any_226 (by decide) ?_
    refine m_callSt hC (t_L_pick hF hl hS (by omega) (by omega)) dL_any_228 kc_L_pick kS_L_117 rfl rfl (Nat.le_of_ble_eq_true rfl) ⟨Nat.le_of_ble_eq_true rfl, Nat.le_of_ble_eq_true rfl⟩ ⟨Nat.le_of_ble_eq_true rfl, Nat.le_of_ble_eq_true rfl⟩ (fun v M9 h => by rw [h.2]) (fun _ _ h => h) (fun v9 M9 h9 => ?_)
    obtain ⟨⟨zp11, hzp11, rfl⟩, h9⟩ := h9
    replace h9 := h9.symm
    subst h9
    refine m_iadd hC dL_any_231 ?_
    refine m_callSW hC (d_hire hF hl hJ hX hN hG hI (by omega) ⟨⟨by omega, by omega⟩, ⟨by omega, by omega⟩, ⟨by omega, by omega⟩, ⟨by omega, by omega⟩⟩) dL_any_232 kw_L_deed kS_L_121 rfl rfl (Nat.le_of_ble_eq_true rfl) ⟨Nat.le_of_ble_eq_true rfl, Nat.le_of_ble_eq_true rfl⟩ ⟨Nat.le_of_ble_eq_true rfl, Nat.le_of_ble_eq_true rfl⟩ (fun v9 M43 h9 => ?_)
    obtain ⟨zd47, W46, rfl, hG44, hf45, hI48⟩ := h9
    exact m_iret hC dL_any_235 hr (Nat.le_of_ble_eq_true rfl) (Nat.le_of_ble_eq_true rfl) (⟨_, W46, rfl, hG44, hf45, hI48⟩)
  · refine m_tin (tgt := 198) hC dL_any_40 (by decide) (by decide) rfl (by decide) ?_
    refine m_aload_n hC 2 dL_any_198 rfl rfl ?_
    refine m_iconst hC dL_any_199 ?_
    refine m_iload_n hC 1 dL_any_200 rfl rfl ?_
    refine m_aload_n hC 3 dL_any_201 rfl rfl ?_
    refine m_iload_n hC 4 dL_any_202 rfl rfl ?_
    refine m_iconst hC dL_any_203 ?_
    refine m_iadd hC dL_any_204 ?_
    refine m_bipush hC dL_any_205 (by decide) ?_
    refine m_callSt hC (t_L_pick hF hl hS (by omega) (by omega)) dL_any_207 kc_L_pick kS_L_117 rfl rfl (Nat.le_of_ble_eq_true rfl) ⟨Nat.le_of_ble_eq_true rfl, Nat.le_of_ble_eq_true rfl⟩ ⟨Nat.le_of_ble_eq_true rfl, Nat.le_of_ble_eq_true rfl⟩ (fun v M9 h => by rw [h.2]) (fun _ _ h => h) (fun v9 M9 h9 => ?_)
    obtain ⟨⟨zp12, hzp12, rfl⟩, h9⟩ := h9
    replace h9 := h9.symm
    subst h9
    refine m_iconst hC dL_any_210 ?_
    refine m_aload_n hC 3 dL_any_211 rfl rfl ?_
    refine m_iload_n hC 4 dL_any_212 rfl rfl ?_
    refine m_iconst hC dL_any_213 ?_
    refine m_iadd hC dL_any_214 ?_
    refine m_bipush hC dL_any_215 (by decide) ?_
    refine m_callSt hC (t_L_pick hF hl hS (by omega) (by omega)) dL_any_217 kc_L_pick kS_L_117 rfl rfl (Nat.le_of_ble_eq_true rfl) ⟨Nat.le_of_ble_eq_true rfl, Nat.le_of_ble_eq_true rfl⟩ ⟨Nat.le_of_ble_eq_true rfl, Nat.le_of_ble_eq_true rfl⟩ (fun v M9 h => by rw [h.2]) (fun _ _ h => h) (fun v9 M9 h9 => ?_)
    obtain ⟨⟨zp13, hzp13, rfl⟩, h9⟩ := h9
    replace h9 := h9.symm
    subst h9
    refine m_iadd hC dL_any_220 ?_
    refine m_iconst hC dL_any_221 ?_
    refine m_aload_n hC 3 dL_any_222 rfl rfl ?_
    refine m_iload_n hC 4 dL_any_223 rfl rfl ?_
    refine m_iconst hC dL_any_224 ?_
    refine m_iadd hC dL_any_225 ?_
    refine m_bipush hC dL_any_226 (by decide) ?_
    refine m_callSt hC (t_L_pick hF hl hS (by omega) (by omega)) dL_any_228 kc_L_pick kS_L_117 rfl rfl (Nat.le_of_ble_eq_true rfl) ⟨Nat.le_of_ble_eq_true rfl, Nat.le_of_ble_eq_true rfl⟩ ⟨Nat.le_of_ble_eq_true rfl, Nat.le_of_ble_eq_true rfl⟩ (fun v M9 h => by rw [h.2]) (fun _ _ h => h) (fun v9 M9 h9 => ?_)
    obtain ⟨⟨zp14, hzp14, rfl⟩, h9⟩ := h9
    replace h9 := h9.symm
    subst h9
    refine m_iadd hC dL_any_231 ?_
    refine m_callSW hC (d_hire hF hl hJ hX hN hG hI (by omega) ⟨⟨by omega, by omega⟩, ⟨by omega, by omega⟩, ⟨by omega, by omega⟩, ⟨by omega, by omega⟩⟩) dL_any_232 kw_L_deed kS_L_121 rfl rfl (Nat.le_of_ble_eq_true rfl) ⟨Nat.le_of_ble_eq_true rfl, Nat.le_of_ble_eq_true rfl⟩ ⟨Nat.le_of_ble_eq_true rfl, Nat.le_of_ble_eq_true rfl⟩ (fun v9 M49 h9 => ?_)
    obtain ⟨zd53, W52, rfl, hG50, hf51, hI54⟩ := h9
    exact m_iret hC dL_any_235 hr (Nat.le_of_ble_eq_true rfl) (Nat.le_of_ble_eq_true rfl) (⟨_, W52, rfl, hG50, hf51, hI54⟩)
  · refine m_tin (tgt := 198) hC dL_any_40 (by decide) (by decide) rfl (by decide) ?_
    refine m_aload_n hC 2 dL_any_198 rfl rfl ?_
    refine m_iconst hC dL_any_199 ?_
    refine m_iload_n hC 1 dL_any_200 rfl rfl ?_
    refine m_aload_n hC 3 dL_any_201 rfl rfl ?_
    refine m_iload_n hC 4 dL_any_202 rfl rfl ?_
    refine m_iconst hC dL_any_203 ?_
    refine m_iadd hC dL_any_204 ?_
    refine m_bipush hC dL_any_205 (by decide) ?_
    refine m_callSt hC (t_L_pick hF hl hS (by omega) (by omega)) dL_any_207 kc_L_pick kS_L_117 rfl rfl (Nat.le_of_ble_eq_true rfl) ⟨Nat.le_of_ble_eq_true rfl, Nat.le_of_ble_eq_true rfl⟩ ⟨Nat.le_of_ble_eq_true rfl, Nat.le_of_ble_eq_true rfl⟩ (fun v M9 h => by rw [h.2]) (fun _ _ h => h) (fun v9 M9 h9 => ?_)
    obtain ⟨⟨zp15, hzp15, rfl⟩, h9⟩ := h9
    replace h9 := h9.symm
    subst h9
    refine m_iconst hC dL_any_210 ?_
    refine m_aload_n hC 3 dL_any_211 rfl rfl ?_
    refine m_iload_n hC 4 dL_any_212 rfl rfl ?_
    refine m_iconst hC dL_any_213 ?_
    refine m_iadd hC dL_any_214 ?_
    refine m_bipush hC dL_any_215 (by decide) ?_
    refine m_callSt hC (t_L_pick hF hl hS (by omega) (by omega)) dL_any_217 kc_L_pick kS_L_117 rfl rfl (Nat.le_of_ble_eq_true rfl) ⟨Nat.le_of_ble_eq_true rfl, Nat.le_of_ble_eq_true rfl⟩ ⟨Nat.le_of_ble_eq_true rfl, Nat.le_of_ble_eq_true rfl⟩ (fun v M9 h => by rw [h.2]) (fun _ _ h => h) (fun v9 M9 h9 => ?_)
    obtain ⟨⟨zp16, hzp16, rfl⟩, h9⟩ := h9
    replace h9 := h9.symm
    subst h9
    refine m_iadd hC dL_any_220 ?_
    refine m_iconst hC dL_any_221 ?_
    refine m_aload_n hC 3 dL_any_222 rfl rfl ?_
    refine m_iload_n hC 4 dL_any_223 rfl rfl ?_
    refine m_iconst hC dL_any_224 ?_
    refine m_iadd hC dL_any_225 ?_
    refine m_bipush hC dL_any_226 (by decide) ?_
    refine m_callSt hC (t_L_pick hF hl hS (by omega) (by omega)) dL_any_228 kc_L_pick kS_L_117 rfl rfl (Nat.le_of_ble_eq_true rfl) ⟨Nat.le_of_ble_eq_true rfl, Nat.le_of_ble_eq_true rfl⟩ ⟨Nat.le_of_ble_eq_true rfl, Nat.le_of_ble_eq_true rfl⟩ (fun v M9 h => by rw [h.2]) (fun _ _ h => h) (fun v9 M9 h9 => ?_)
    obtain ⟨⟨zp17, hzp17, rfl⟩, h9⟩ := h9
    replace h9 := h9.symm
    subst h9
    refine m_iadd hC dL_any_231 ?_
    refine m_callSW hC (d_hire hF hl hJ hX hN hG hI (by omega) ⟨⟨by omega, by omega⟩, ⟨by omega, by omega⟩, ⟨by omega, by omega⟩, ⟨by omega, by omega⟩⟩) dL_any_232 kw_L_deed kS_L_121 rfl rfl (Nat.le_of_ble_eq_true rfl) ⟨Nat.le_of_ble_eq_true rfl, Nat.le_of_ble_eq_true rfl⟩ ⟨Nat.le_of_ble_eq_true rfl, Nat.le_of_ble_eq_true rfl⟩ (fun v9 M55 h9 => ?_)
    obtain ⟨zd59, W58, rfl, hG56, hf57, hI60⟩ := h9
    exact m_iret hC dL_any_235 hr (Nat.le_of_ble_eq_true rfl) (Nat.le_of_ble_eq_true rfl) (⟨_, W58, rfl, hG56, hf57, hI60⟩)
  · refine m_tin (tgt := 198) hC dL_any_40 (by decide) (by decide) rfl (by decide) ?_
    refine m_aload_n hC 2 dL_any_198 rfl rfl ?_
    refine m_iconst hC dL_any_199 ?_
    refine m_iload_n hC 1 dL_any_200 rfl rfl ?_
    refine m_aload_n hC 3 dL_any_201 rfl rfl ?_
    refine m_iload_n hC 4 dL_any_202 rfl rfl ?_
    refine m_iconst hC dL_any_203 ?_
    refine m_iadd hC dL_any_204 ?_
    refine m_bipush hC dL_any_205 (by decide) ?_
    refine m_callSt hC (t_L_pick hF hl hS (by omega) (by omega)) dL_any_207 kc_L_pick kS_L_117 rfl rfl (Nat.le_of_ble_eq_true rfl) ⟨Nat.le_of_ble_eq_true rfl, Nat.le_of_ble_eq_true rfl⟩ ⟨Nat.le_of_ble_eq_true rfl, Nat.le_of_ble_eq_true rfl⟩ (fun v M9 h => by rw [h.2]) (fun _ _ h => h) (fun v9 M9 h9 => ?_)
    obtain ⟨⟨zp18, hzp18, rfl⟩, h9⟩ := h9
    replace h9 := h9.symm
    subst h9
    refine m_iconst hC dL_any_210 ?_
    refine m_aload_n hC 3 dL_any_211 rfl rfl ?_
    refine m_iload_n hC 4 dL_any_212 rfl rfl ?_
    refine m_iconst hC dL_any_213 ?_
    refine m_iadd hC dL_any_214 ?_
    refine m_bipush hC dL_any_215 (by decide) ?_
    refine m_callSt hC (t_L_pick hF hl hS (by omega) (by omega)) dL_any_217 kc_L_pick kS_L_117 rfl rfl (Nat.le_of_ble_eq_true rfl) ⟨Nat.le_of_ble_eq_true rfl, Nat.le_of_ble_eq_true rfl⟩ ⟨Nat.le_of_ble_eq_true rfl, Nat.le_of_ble_eq_true rfl⟩ (fun v M9 h => by rw [h.2]) (fun _ _ h => h) (fun v9 M9 h9 => ?_)
    obtain ⟨⟨zp19, hzp19, rfl⟩, h9⟩ := h9
    replace h9 := h9.symm
    subst h9
    refine m_iadd hC dL_any_220 ?_
    refine m_iconst hC dL_any_221 ?_
    refine m_aload_n hC 3 dL_any_222 rfl rfl ?_
    refine m_iload_n hC 4 dL_any_223 rfl rfl ?_
    refine m_iconst hC dL_any_224 ?_
    refine m_iadd hC dL_any_225 ?_
    refine m_bipush hC dL_any_226 (by decide) ?_
    refine m_callSt hC (t_L_pick hF hl hS (by omega) (by omega)) dL_any_228 kc_L_pick kS_L_117 rfl rfl (Nat.le_of_ble_eq_true rfl) ⟨Nat.le_of_ble_eq_true rfl, Nat.le_of_ble_eq_true rfl⟩ ⟨Nat.le_of_ble_eq_true rfl, Nat.le_of_ble_eq_true rfl⟩ (fun v M9 h => by rw [h.2]) (fun _ _ h => h) (fun v9 M9 h9 => ?_)
    obtain ⟨⟨zp20, hzp20, rfl⟩, h9⟩ := h9
    replace h9 := h9.symm
    subst h9
    refine m_iadd hC dL_any_231 ?_
    refine m_callSW hC (d_hire hF hl hJ hX hN hG hI (by omega) ⟨⟨by omega, by omega⟩, ⟨by omega, by omega⟩, ⟨by omega, by omega⟩, ⟨by omega, by omega⟩⟩) dL_any_232 kw_L_deed kS_L_121 rfl rfl (Nat.le_of_ble_eq_true rfl) ⟨Nat.le_of_ble_eq_true rfl, Nat.le_of_ble_eq_true rfl⟩ ⟨Nat.le_of_ble_eq_true rfl, Nat.le_of_ble_eq_true rfl⟩ (fun v9 M61 h9 => ?_)
    obtain ⟨zd65, W64, rfl, hG62, hf63, hI66⟩ := h9
    exact m_iret hC dL_any_235 hr (Nat.le_of_ble_eq_true rfl) (Nat.le_of_ble_eq_true rfl) (⟨_, W64, rfl, hG62, hf63, hI66⟩)
  · refine m_tin (tgt := 236) hC dL_any_40 (by decide) (by decide) rfl (by decide) ?_
    refine m_aload_n hC 2 dL_any_236 rfl rfl ?_
    refine m_qV hC (Q_openContracts hF hl hX hG.2.1 hG.2.2.1 hB) dL_any_237 kc_X9_openContracts kV_L_135 hG.2.1 rfl rfl rfl rfl (Nat.le_of_ble_eq_true rfl) ⟨Nat.le_of_ble_eq_true rfl, Nat.le_of_ble_eq_true rfl⟩ ⟨Nat.le_of_ble_eq_true rfl, Nat.le_of_ble_eq_true rfl⟩ ?_
    refine m_if_ne (tgt := 249) hC dL_any_240 (by decide) (by first | omega | (simp [hs_at] <;> omega)) (fun c67 => ?_) (fun c67 => ?_)
    · refine m_aload_n hC 2 dL_any_249 rfl rfl ?_
      refine m_iconst hC dL_any_250 ?_
      refine m_aload_n hC 2 dL_any_251 rfl rfl ?_
      refine m_aload_n hC 3 dL_any_252 rfl rfl ?_
      refine m_iload_n hC 4 dL_any_253 rfl rfl ?_
      refine m_iconst hC dL_any_254 ?_
      refine m_iadd hC dL_any_255 ?_
      refine m_aload_n hC 2 dL_any_256 rfl rfl ?_
      refine m_qV hC (Q_openContracts hF hl hX hG.2.1 hG.2.2.1 hB) dL_any_257 kc_X9_openContracts kV_L_135 hG.2.1 rfl rfl rfl rfl (Nat.le_of_ble_eq_true rfl) ⟨Nat.le_of_ble_eq_true rfl, Nat.le_of_ble_eq_true rfl⟩ ⟨Nat.le_of_ble_eq_true rfl, Nat.le_of_ble_eq_true rfl⟩ ?_
      refine m_callSt hC (t_L_pick hF hl hS (by omega) (by omega)) dL_any_260 kc_L_pick kS_L_117 rfl rfl (Nat.le_of_ble_eq_true rfl) ⟨Nat.le_of_ble_eq_true rfl, Nat.le_of_ble_eq_true rfl⟩ ⟨Nat.le_of_ble_eq_true rfl, Nat.le_of_ble_eq_true rfl⟩ (fun v M9 h => by rw [h.2]) (fun _ _ h => h) (fun v9 M9 h9 => ?_)
      obtain ⟨⟨zp21, hzp21, rfl⟩, h9⟩ := h9
      replace h9 := h9.symm
      subst h9
      have hco := hB.co (i := zp21) (by omega)
      refine m_qV hC (Q_contractAt hF hl hX hG.2.1 hG.2.2.1 hB (by omega)) dL_any_263 kc_X9_contractAt kV_L_89 hG.2.1 rfl rfl rfl rfl (Nat.le_of_ble_eq_true rfl) ⟨Nat.le_of_ble_eq_true rfl, Nat.le_of_ble_eq_true rfl⟩ ⟨Nat.le_of_ble_eq_true rfl, Nat.le_of_ble_eq_true rfl⟩ ?_
      refine m_iconst hC dL_any_266 ?_
      refine m_iconst hC dL_any_267 ?_
      refine m_iconst hC dL_any_268 ?_
      refine m_callSW hC (d_cancelContract hF hl hJ hX hN hG hI (by omega) ⟨⟨by omega, by omega⟩, ⟨by omega, by omega⟩, ⟨by omega, by omega⟩, ⟨by omega, by omega⟩⟩) dL_any_269 kw_L_deed kS_L_121 rfl rfl (Nat.le_of_ble_eq_true rfl) ⟨Nat.le_of_ble_eq_true rfl, Nat.le_of_ble_eq_true rfl⟩ ⟨Nat.le_of_ble_eq_true rfl, Nat.le_of_ble_eq_true rfl⟩ (fun v9 M68 h9 => ?_)
      obtain ⟨zd72, W71, rfl, hG69, hf70, hI73⟩ := h9
      exact m_iret hC dL_any_272 hr (Nat.le_of_ble_eq_true rfl) (Nat.le_of_ble_eq_true rfl) (⟨_, W71, rfl, hG69, hf70, hI73⟩)
    · refine m_sipush hC dL_any_243 (by decide) ?_
      refine m_goto (tgt := 272) hC dL_any_246 (by decide) ?_
      exact m_iret hC dL_any_272 hr (Nat.le_of_ble_eq_true rfl) (Nat.le_of_ble_eq_true rfl) (⟨_, W, rfl, hG, gFr.rf, hI.mono (by omega)⟩)
  · refine m_tin (tgt := 273) hC dL_any_40 (by decide) (by decide) rfl (by decide) ?_
    refine m_aload_n hC 2 dL_any_273 rfl rfl ?_
    refine m_bipush hC dL_any_274 (by decide) ?_
    refine m_iload_n hC 1 dL_any_276 rfl rfl ?_
    refine m_iconst hC dL_any_277 ?_
    refine m_iconst hC dL_any_278 ?_
    refine m_iconst hC dL_any_279 ?_
    refine m_callSW hC (d_rest hF hl hJ hX hN hG hI (by omega) ⟨⟨by omega, by omega⟩, ⟨by omega, by omega⟩, ⟨by omega, by omega⟩, ⟨by omega, by omega⟩⟩) dL_any_280 kw_L_deed kS_L_121 rfl rfl (Nat.le_of_ble_eq_true rfl) ⟨Nat.le_of_ble_eq_true rfl, Nat.le_of_ble_eq_true rfl⟩ ⟨Nat.le_of_ble_eq_true rfl, Nat.le_of_ble_eq_true rfl⟩ (fun v9 M74 h9 => ?_)
    obtain ⟨zd78, W77, rfl, hG75, hf76, hI79⟩ := h9
    exact m_iret hC dL_any_283 hr (Nat.le_of_ble_eq_true rfl) (Nat.le_of_ble_eq_true rfl) (⟨_, W77, rfl, hG75, hf76, hI79⟩)
  · refine m_tin (tgt := 273) hC dL_any_40 (by decide) (by decide) rfl (by decide) ?_
    refine m_aload_n hC 2 dL_any_273 rfl rfl ?_
    refine m_bipush hC dL_any_274 (by decide) ?_
    refine m_iload_n hC 1 dL_any_276 rfl rfl ?_
    refine m_iconst hC dL_any_277 ?_
    refine m_iconst hC dL_any_278 ?_
    refine m_iconst hC dL_any_279 ?_
    refine m_callSW hC (d_rest hF hl hJ hX hN hG hI (by omega) ⟨⟨by omega, by omega⟩, ⟨by omega, by omega⟩, ⟨by omega, by omega⟩, ⟨by omega, by omega⟩⟩) dL_any_280 kw_L_deed kS_L_121 rfl rfl (Nat.le_of_ble_eq_true rfl) ⟨Nat.le_of_ble_eq_true rfl, Nat.le_of_ble_eq_true rfl⟩ ⟨Nat.le_of_ble_eq_true rfl, Nat.le_of_ble_eq_true rfl⟩ (fun v9 M80 h9 => ?_)
    obtain ⟨zd84, W83, rfl, hG81, hf82, hI85⟩ := h9
    exact m_iret hC dL_any_283 hr (Nat.le_of_ble_eq_true rfl) (Nat.le_of_ble_eq_true rfl) (⟨_, W83, rfl, hG81, hf82, hI85⟩)
  · refine m_tin (tgt := 284) hC dL_any_40 (by decide) (by decide) rfl (by decide) ?_
    refine m_aload_n hC 2 dL_any_284 rfl rfl ?_
    refine m_bipush hC dL_any_285 (by decide) ?_
    refine m_iload_n hC 1 dL_any_287 rfl rfl ?_
    refine m_iconst hC dL_any_288 ?_
    refine m_iconst hC dL_any_289 ?_
    refine m_iconst hC dL_any_290 ?_
    refine m_callSW hC (d_wake hF hl hJ hX hN hG hI (by omega) ⟨⟨by omega, by omega⟩, ⟨by omega, by omega⟩, ⟨by omega, by omega⟩, ⟨by omega, by omega⟩⟩) dL_any_291 kw_L_deed kS_L_121 rfl rfl (Nat.le_of_ble_eq_true rfl) ⟨Nat.le_of_ble_eq_true rfl, Nat.le_of_ble_eq_true rfl⟩ ⟨Nat.le_of_ble_eq_true rfl, Nat.le_of_ble_eq_true rfl⟩ (fun v9 M86 h9 => ?_)
    obtain ⟨zd90, W89, rfl, hG87, hf88, hI91⟩ := h9
    exact m_iret hC dL_any_294 hr (Nat.le_of_ble_eq_true rfl) (Nat.le_of_ble_eq_true rfl) (⟨_, W89, rfl, hG87, hf88, hI91⟩)
  · refine m_tin (tgt := 284) hC dL_any_40 (by decide) (by decide) rfl (by decide) ?_
    refine m_aload_n hC 2 dL_any_284 rfl rfl ?_
    refine m_bipush hC dL_any_285 (by decide) ?_
    refine m_iload_n hC 1 dL_any_287 rfl rfl ?_
    refine m_iconst hC dL_any_288 ?_
    refine m_iconst hC dL_any_289 ?_
    refine m_iconst hC dL_any_290 ?_
    refine m_callSW hC (d_wake hF hl hJ hX hN hG hI (by omega) ⟨⟨by omega, by omega⟩, ⟨by omega, by omega⟩, ⟨by omega, by omega⟩, ⟨by omega, by omega⟩⟩) dL_any_291 kw_L_deed kS_L_121 rfl rfl (Nat.le_of_ble_eq_true rfl) ⟨Nat.le_of_ble_eq_true rfl, Nat.le_of_ble_eq_true rfl⟩ ⟨Nat.le_of_ble_eq_true rfl, Nat.le_of_ble_eq_true rfl⟩ (fun v9 M92 h9 => ?_)
    obtain ⟨zd96, W95, rfl, hG93, hf94, hI97⟩ := h9
    exact m_iret hC dL_any_294 hr (Nat.le_of_ble_eq_true rfl) (Nat.le_of_ble_eq_true rfl) (⟨_, W95, rfl, hG93, hf94, hI97⟩)
  · refine m_tin (tgt := 295) hC dL_any_40 (by decide) (by decide) rfl (by decide) ?_
    refine m_aload_n hC 2 dL_any_295 rfl rfl ?_
    refine m_bipush hC dL_any_296 (by decide) ?_
    refine m_iload_n hC 1 dL_any_298 rfl rfl ?_
    refine m_iconst hC dL_any_299 ?_
    refine m_aload_n hC 3 dL_any_300 rfl rfl ?_
    refine m_iload_n hC 4 dL_any_301 rfl rfl ?_
    refine m_iconst hC dL_any_302 ?_
    refine m_iadd hC dL_any_303 ?_
    refine m_bipush hC dL_any_304 (by decide) ?_
    refine m_callSt hC (t_L_pick hF hl hS (by omega) (by omega)) dL_any_306 kc_L_pick kS_L_117 rfl rfl (Nat.le_of_ble_eq_true rfl) ⟨Nat.le_of_ble_eq_true rfl, Nat.le_of_ble_eq_true rfl⟩ ⟨Nat.le_of_ble_eq_true rfl, Nat.le_of_ble_eq_true rfl⟩ (fun v M9 h => by rw [h.2]) (fun _ _ h => h) (fun v9 M9 h9 => ?_)
    obtain ⟨⟨zp22, hzp22, rfl⟩, h9⟩ := h9
    replace h9 := h9.symm
    subst h9
    refine m_iadd hC dL_any_309 ?_
    refine m_iconst hC dL_any_310 ?_
    refine m_iconst hC dL_any_311 ?_
    refine m_callSW hC (d_lend hF hl hJ hX hN hG hI (by omega) ⟨⟨by omega, by omega⟩, ⟨by omega, by omega⟩, ⟨by omega, by omega⟩, ⟨by omega, by omega⟩⟩) dL_any_312 kw_L_deed kS_L_121 rfl rfl (Nat.le_of_ble_eq_true rfl) ⟨Nat.le_of_ble_eq_true rfl, Nat.le_of_ble_eq_true rfl⟩ ⟨Nat.le_of_ble_eq_true rfl, Nat.le_of_ble_eq_true rfl⟩ (fun v9 M98 h9 => ?_)
    obtain ⟨zd102, W101, rfl, hG99, hf100, hI103⟩ := h9
    exact m_iret hC dL_any_315 hr (Nat.le_of_ble_eq_true rfl) (Nat.le_of_ble_eq_true rfl) (⟨_, W101, rfl, hG99, hf100, hI103⟩)
  · refine m_tin (tgt := 295) hC dL_any_40 (by decide) (by decide) rfl (by decide) ?_
    refine m_aload_n hC 2 dL_any_295 rfl rfl ?_
    refine m_bipush hC dL_any_296 (by decide) ?_
    refine m_iload_n hC 1 dL_any_298 rfl rfl ?_
    refine m_iconst hC dL_any_299 ?_
    refine m_aload_n hC 3 dL_any_300 rfl rfl ?_
    refine m_iload_n hC 4 dL_any_301 rfl rfl ?_
    refine m_iconst hC dL_any_302 ?_
    refine m_iadd hC dL_any_303 ?_
    refine m_bipush hC dL_any_304 (by decide) ?_
    refine m_callSt hC (t_L_pick hF hl hS (by omega) (by omega)) dL_any_306 kc_L_pick kS_L_117 rfl rfl (Nat.le_of_ble_eq_true rfl) ⟨Nat.le_of_ble_eq_true rfl, Nat.le_of_ble_eq_true rfl⟩ ⟨Nat.le_of_ble_eq_true rfl, Nat.le_of_ble_eq_true rfl⟩ (fun v M9 h => by rw [h.2]) (fun _ _ h => h) (fun v9 M9 h9 => ?_)
    obtain ⟨⟨zp23, hzp23, rfl⟩, h9⟩ := h9
    replace h9 := h9.symm
    subst h9
    refine m_iadd hC dL_any_309 ?_
    refine m_iconst hC dL_any_310 ?_
    refine m_iconst hC dL_any_311 ?_
    refine m_callSW hC (d_lend hF hl hJ hX hN hG hI (by omega) ⟨⟨by omega, by omega⟩, ⟨by omega, by omega⟩, ⟨by omega, by omega⟩, ⟨by omega, by omega⟩⟩) dL_any_312 kw_L_deed kS_L_121 rfl rfl (Nat.le_of_ble_eq_true rfl) ⟨Nat.le_of_ble_eq_true rfl, Nat.le_of_ble_eq_true rfl⟩ ⟨Nat.le_of_ble_eq_true rfl, Nat.le_of_ble_eq_true rfl⟩ (fun v9 M104 h9 => ?_)
    obtain ⟨zd108, W107, rfl, hG105, hf106, hI109⟩ := h9
    exact m_iret hC dL_any_315 hr (Nat.le_of_ble_eq_true rfl) (Nat.le_of_ble_eq_true rfl) (⟨_, W107, rfl, hG105, hf106, hI109⟩)
  · refine m_tin (tgt := 316) hC dL_any_40 (by decide) (by decide) rfl (by decide) ?_
    refine m_aload_n hC 2 dL_any_316 rfl rfl ?_
    refine m_bipush hC dL_any_317 (by decide) ?_
    refine m_iconst hC dL_any_319 ?_
    refine m_aload_n hC 3 dL_any_320 rfl rfl ?_
    refine m_iload_n hC 4 dL_any_321 rfl rfl ?_
    refine m_iconst hC dL_any_322 ?_
    refine m_iadd hC dL_any_323 ?_
    refine m_sipush hC dL_any_324 (by decide) ?_
    refine m_callSt hC (t_L_pick hF hl hS (by omega) (by omega)) dL_any_327 kc_L_pick kS_L_117 rfl rfl (Nat.le_of_ble_eq_true rfl) ⟨Nat.le_of_ble_eq_true rfl, Nat.le_of_ble_eq_true rfl⟩ ⟨Nat.le_of_ble_eq_true rfl, Nat.le_of_ble_eq_true rfl⟩ (fun v M9 h => by rw [h.2]) (fun _ _ h => h) (fun v9 M9 h9 => ?_)
    obtain ⟨⟨zp24, hzp24, rfl⟩, h9⟩ := h9
    replace h9 := h9.symm
    subst h9
    refine m_iadd hC dL_any_330 ?_
    refine m_iconst hC dL_any_331 ?_
    refine m_iconst hC dL_any_332 ?_
    refine m_iconst hC dL_any_333 ?_
    refine m_callSW hC (d_fund hF hl hJ hX hN hG hI (by omega) ⟨⟨by omega, by omega⟩, ⟨by omega, by omega⟩, ⟨by omega, by omega⟩, ⟨by omega, by omega⟩⟩) dL_any_334 kw_L_deed kS_L_121 rfl rfl (Nat.le_of_ble_eq_true rfl) ⟨Nat.le_of_ble_eq_true rfl, Nat.le_of_ble_eq_true rfl⟩ ⟨Nat.le_of_ble_eq_true rfl, Nat.le_of_ble_eq_true rfl⟩ (fun v9 M110 h9 => ?_)
    obtain ⟨zd114, W113, rfl, hG111, hf112, hI115⟩ := h9
    exact m_iret hC dL_any_337 hr (Nat.le_of_ble_eq_true rfl) (Nat.le_of_ble_eq_true rfl) (⟨_, W113, rfl, hG111, hf112, hI115⟩)
  · refine m_tin (tgt := 338) hC dL_any_40 (by decide) (by decide) rfl (by decide) ?_
    refine m_aload_n hC 2 dL_any_338 rfl rfl ?_
    refine m_bipush hC dL_any_339 (by decide) ?_
    refine m_iconst hC dL_any_341 ?_
    refine m_aload_n hC 3 dL_any_342 rfl rfl ?_
    refine m_iload_n hC 4 dL_any_343 rfl rfl ?_
    refine m_iconst hC dL_any_344 ?_
    refine m_iadd hC dL_any_345 ?_
    refine m_bipush hC dL_any_346 (by decide) ?_
    refine m_callSt hC (t_L_pick hF hl hS (by omega) (by omega)) dL_any_348 kc_L_pick kS_L_117 rfl rfl (Nat.le_of_ble_eq_true rfl) ⟨Nat.le_of_ble_eq_true rfl, Nat.le_of_ble_eq_true rfl⟩ ⟨Nat.le_of_ble_eq_true rfl, Nat.le_of_ble_eq_true rfl⟩ (fun v M9 h => by rw [h.2]) (fun _ _ h => h) (fun v9 M9 h9 => ?_)
    obtain ⟨⟨zp25, hzp25, rfl⟩, h9⟩ := h9
    replace h9 := h9.symm
    subst h9
    refine m_iadd hC dL_any_351 ?_
    refine m_iconst hC dL_any_352 ?_
    refine m_iconst hC dL_any_353 ?_
    refine m_iconst hC dL_any_354 ?_
    refine m_callSW hC (d_spend hF hl hJ hX hN hG hI (by omega) ⟨⟨by omega, by omega⟩, ⟨by omega, by omega⟩, ⟨by omega, by omega⟩, ⟨by omega, by omega⟩⟩) dL_any_355 kw_L_deed kS_L_121 rfl rfl (Nat.le_of_ble_eq_true rfl) ⟨Nat.le_of_ble_eq_true rfl, Nat.le_of_ble_eq_true rfl⟩ ⟨Nat.le_of_ble_eq_true rfl, Nat.le_of_ble_eq_true rfl⟩ (fun v9 M116 h9 => ?_)
    obtain ⟨zd120, W119, rfl, hG117, hf118, hI121⟩ := h9
    exact m_iret hC dL_any_358 hr (Nat.le_of_ble_eq_true rfl) (Nat.le_of_ble_eq_true rfl) (⟨_, W119, rfl, hG117, hf118, hI121⟩)
  · refine m_tout (tgt := 359) hC dL_any_40 (by omega) (by omega) (by decide) ?_
    refine m_aload_n hC 2 dL_any_359 rfl rfl ?_
    refine m_bipush hC dL_any_360 (by decide) ?_
    refine m_iconst hC dL_any_362 ?_
    refine m_aload_n hC 3 dL_any_363 rfl rfl ?_
    refine m_iload_n hC 4 dL_any_364 rfl rfl ?_
    refine m_iconst hC dL_any_365 ?_
    refine m_iadd hC dL_any_366 ?_
    refine m_aload_n hC 3 dL_any_367 rfl rfl ?_
    refine m_iload_n hC 4 dL_any_368 rfl rfl ?_
    refine m_iconst hC dL_any_369 ?_
    refine m_iadd hC dL_any_370 ?_
    refine m_iconst hC dL_any_371 ?_
    refine m_callSt hC (t_L_pick hF hl hS (by omega) (by omega)) dL_any_372 kc_L_pick kS_L_117 rfl rfl (Nat.le_of_ble_eq_true rfl) ⟨Nat.le_of_ble_eq_true rfl, Nat.le_of_ble_eq_true rfl⟩ ⟨Nat.le_of_ble_eq_true rfl, Nat.le_of_ble_eq_true rfl⟩ (fun v M9 h => by rw [h.2]) (fun _ _ h => h) (fun v9 M9 h9 => ?_)
    obtain ⟨⟨zp26, hzp26, rfl⟩, h9⟩ := h9
    replace h9 := h9.symm
    subst h9
    refine m_if_ne (tgt := 383) hC dL_any_375 (by decide) (by first | omega | (simp [hs_at] <;> omega)) (fun c122 => ?_) (fun c122 => ?_)
    · refine m_iconst hC dL_any_383 ?_
      refine m_callSt hC (t_L_pick hF hl hS (by omega) (by omega)) dL_any_384 kc_L_pick kS_L_117 rfl rfl (Nat.le_of_ble_eq_true rfl) ⟨Nat.le_of_ble_eq_true rfl, Nat.le_of_ble_eq_true rfl⟩ ⟨Nat.le_of_ble_eq_true rfl, Nat.le_of_ble_eq_true rfl⟩ (fun v M9 h => by rw [h.2]) (fun _ _ h => h) (fun v9 M9 h9 => ?_)
      obtain ⟨⟨zp27, hzp27, rfl⟩, h9⟩ := h9
      replace h9 := h9.symm
      subst h9
      refine m_iadd hC dL_any_387 ?_
      refine m_iconst hC dL_any_388 ?_
      refine m_iconst hC dL_any_389 ?_
      refine m_iconst hC dL_any_390 ?_
      refine m_callSW hC (d_passNights hF hl hJ hX hN hG hI (by omega) ⟨⟨by omega, by omega⟩, ⟨by omega, by omega⟩, ⟨by omega, by omega⟩, ⟨by omega, by omega⟩⟩) dL_any_391 kw_L_deed kS_L_121 rfl rfl (Nat.le_of_ble_eq_true rfl) ⟨Nat.le_of_ble_eq_true rfl, Nat.le_of_ble_eq_true rfl⟩ ⟨Nat.le_of_ble_eq_true rfl, Nat.le_of_ble_eq_true rfl⟩ (fun v9 M123 h9 => ?_)
      obtain ⟨zd127, W126, rfl, hG124, hf125, hI128⟩ := h9
      exact m_iret hC dL_any_394 hr (Nat.le_of_ble_eq_true rfl) (Nat.le_of_ble_eq_true rfl) (⟨_, W126, rfl, hG124, hf125, hI128⟩)
    · refine m_bipush hC dL_any_378 (by decide) ?_
      refine m_goto (tgt := 384) hC dL_any_380 (by decide) ?_
      refine m_callSt hC (t_L_pick hF hl hS (by omega) (by omega)) dL_any_384 kc_L_pick kS_L_117 rfl rfl (Nat.le_of_ble_eq_true rfl) ⟨Nat.le_of_ble_eq_true rfl, Nat.le_of_ble_eq_true rfl⟩ ⟨Nat.le_of_ble_eq_true rfl, Nat.le_of_ble_eq_true rfl⟩ (fun v M9 h => by rw [h.2]) (fun _ _ h => h) (fun v9 M9 h9 => ?_)
      obtain ⟨⟨zp28, hzp28, rfl⟩, h9⟩ := h9
      replace h9 := h9.symm
      subst h9
      refine m_iadd hC dL_any_387 ?_
      refine m_iconst hC dL_any_388 ?_
      refine m_iconst hC dL_any_389 ?_
      refine m_iconst hC dL_any_390 ?_
      refine m_callSW hC (d_passNights hF hl hJ hX hN hG hI (by omega) ⟨⟨by omega, by omega⟩, ⟨by omega, by omega⟩, ⟨by omega, by omega⟩, ⟨by omega, by omega⟩⟩) dL_any_391 kw_L_deed kS_L_121 rfl rfl (Nat.le_of_ble_eq_true rfl) ⟨Nat.le_of_ble_eq_true rfl, Nat.le_of_ble_eq_true rfl⟩ ⟨Nat.le_of_ble_eq_true rfl, Nat.le_of_ble_eq_true rfl⟩ (fun v9 M129 h9 => ?_)
      obtain ⟨zd133, W132, rfl, hG130, hf131, hI134⟩ := h9
      exact m_iret hC dL_any_394 hr (Nat.le_of_ble_eq_true rfl) (Nat.le_of_ble_eq_true rfl) (⟨_, W132, rfl, hG130, hf131, hI134⟩)

set_option maxHeartbeats 4000000 in
set_option maxRecDepth 100000 in
theorem t_L_lay {D : va_G} {aC : Nat → ClassId} {s0 : State} {l : Launch} (hF : m_F D aC s0) (hl : l.stackTraces = false) {fo ks vs : Nat → Nat} {fA sA dO dT : Nat} (hJ : m_J s0 fo ks vs fA sA dO dT) (hX : m_TH s0) (hN : m_NC s0) {x w : Nat} {W : gW} {M : m_M} {K : Int} (hG : gIn s0.heap.size fo x w W M) (hI : lI K W) (hK : K ≤ 70000000) {b L : Nat} {xs : Nat → Int32} (hS : sS s0 b L xs) : m_Met D aC s0 l yL_lay cL_lay 5 none 15 (14100) (28200) [.ref x, .ref b] M (fun v M' => v = none ∧ ∃ W' : gW, gIn s0.heap.size fo x w W' M' ∧ gFr x w M M' ∧ lI (K + 200000) W') m_nx := by
  refine m_entry (lv := [(0, .ref x), (1, .ref b)]) (by decide +kernel) (Nat.le_of_ble_eq_true rfl) rfl hF hl ?_
  intro p e s m args below meth c hC hr hno hnm
  change m_C D aC s0 RL _ _ _ _ _ _ _ _ _ at hC
  refine m_iconst hC dL_lay_0 ?_
  refine m_istore_n hC dL_lay_1 rfl (by decide) rfl ?_
  refine m_iconst hC dL_lay_2 ?_
  refine m_istore_n hC dL_lay_3 rfl (by decide) rfl ?_
  have L1 : ∀ (n : Nat) (i b9 K9 : Int) (c9 s9 : Nat) (W1 : gW) (M1 : m_M), 6 - i < (n : Int) → 0 ≤ i → i ≤ 6 → gIn s0.heap.size fo x w W1 M1 → gFr x w M M1 → lI K9 W1 → K9 ≤ K + 0 + 5300 * i → (c9 : Int) ≤ 0 + 470 * i → (s9 : Int) ≤ 0 + 940 * i → m_W D aC s0 5 p l e (m_R 15 (14100) (28200)) s m args below meth c (c9) (s9) (m_Q D aC s0 below (fun v M' => v = none ∧ ∃ W' : gW, gIn s0.heap.size fo x w W' M' ∧ gFr x w M M' ∧ lI (K + 200000) W') m_nx args s (14100) (28200)) 4 [(3, VI i), (2, VI b9), (1, .ref b), (0, .ref x)] [] M1 := by
    intro n
    induction n with
    | zero =>
      intro i b9 K9 c9 s9 W1 M1 hn h0 h1 hG1 hf1 hI1 hK9 hc9 hs9
      omega
    | succ n ih =>
      intro i b9 K9 c9 s9 W1 M1 hn h0 h1 hG1 hf1 hI1 hK9 hc9 hs9
      refine m_iload_n hC 0 dL_lay_4 rfl rfl ?_
      refine m_aload_n hC 2 dL_lay_5 rfl rfl ?_
      refine m_iconst hC dL_lay_6 ?_
      refine m_bipush hC dL_lay_7 (by decide) ?_
      refine m_callSt hC (t_L_pick hF hl hS (by omega) (by omega)) dL_lay_9 kc_L_pick kS_L_117 rfl rfl (Nat.le_of_ble_eq_true rfl) ⟨Nat.le_of_ble_eq_true rfl, Nat.le_of_ble_eq_true rfl⟩ ⟨by show _ ≤ 14100; omega, by show _ ≤ 28200; omega⟩ (fun v M9 h => by rw [h.2]) (fun _ _ h => h) (fun v9 M9 h9 => ?_)
      obtain ⟨⟨zp1, hzp1, rfl⟩, h9⟩ := h9
      replace h9 := h9.symm
      subst h9
      refine m_icmp_ge (tgt := 44) hC dL_lay_12 (by decide) (by first | omega | (simp [hs_at] <;> omega)) (fun c1 => ?_) (fun c1 => ?_)
      · refine m_iconst hC dL_lay_44 ?_
        refine m_istore_n hC dL_lay_45 rfl (by decide) rfl ?_
        have L2 : ∀ (n : Nat) (i b9 K9 : Int) (c9 s9 : Nat) (W1 : gW) (M1 : m_M), 5 - i < (n : Int) → 0 ≤ i → i ≤ 5 → gIn s0.heap.size fo x w W1 M1 → gFr x w M M1 → lI K9 W1 → K9 ≤ K + 31800 + 5300 * i → (c9 : Int) ≤ 2820 + 470 * i → (s9 : Int) ≤ 5640 + 940 * i → m_W D aC s0 5 p l e (m_R 15 (14100) (28200)) s m args below meth c (c9) (s9) (m_Q D aC s0 below (fun v M' => v = none ∧ ∃ W' : gW, gIn s0.heap.size fo x w W' M' ∧ gFr x w M M' ∧ lI (K + 200000) W') m_nx args s (14100) (28200)) 46 [(3, VI i), (2, VI b9), (1, .ref b), (0, .ref x)] [] M1 := by
          intro n
          induction n with
          | zero =>
            intro i b9 K9 c9 s9 W1 M1 hn h0 h1 hG1 hf1 hI1 hK9 hc9 hs9
            omega
          | succ n ih =>
            intro i b9 K9 c9 s9 W1 M1 hn h0 h1 hG1 hf1 hI1 hK9 hc9 hs9
            refine m_iload_n hC 0 dL_lay_46 rfl rfl ?_
            refine m_aload_n hC 2 dL_lay_47 rfl rfl ?_
            refine m_iconst hC dL_lay_48 ?_
            refine m_bipush hC dL_lay_49 (by decide) ?_
            refine m_callSt hC (t_L_pick hF hl hS (by omega) (by omega)) dL_lay_51 kc_L_pick kS_L_117 rfl rfl (Nat.le_of_ble_eq_true rfl) ⟨Nat.le_of_ble_eq_true rfl, Nat.le_of_ble_eq_true rfl⟩ ⟨by show _ ≤ 14100; omega, by show _ ≤ 28200; omega⟩ (fun v M9 h => by rw [h.2]) (fun _ _ h => h) (fun v9 M9 h9 => ?_)
            obtain ⟨⟨zp2, hzp2, rfl⟩, h9⟩ := h9
            replace h9 := h9.symm
            subst h9
            refine m_icmp_ge (tgt := 86) hC dL_lay_54 (by decide) (by first | omega | (simp [hs_at] <;> omega)) (fun c2 => ?_) (fun c2 => ?_)
            · refine m_iconst hC dL_lay_86 ?_
              refine m_aload_n hC 3 dL_lay_87 rfl rfl ?_
              refine m_qV hC (Q_goblinCount hF hl hX hG1.2.1 hG1.2.2.1 (hI1.B (by omega))) dL_lay_88 kc_X9_goblinCount kV_L_124 hG1.2.1 rfl rfl rfl rfl (Nat.le_of_ble_eq_true rfl) ⟨Nat.le_of_ble_eq_true rfl, Nat.le_of_ble_eq_true rfl⟩ ⟨by show _ ≤ 14100; omega, by show _ ≤ 28200; omega⟩ ?_
              have n9 := ((hI1.B (by omega)) : h_B W1.1).n9
              refine m_mmax hC dL_lay_91 kM_L_127 (by first | omega | (simp [hs_at] <;> omega)) (Nat.le_of_ble_eq_true rfl) (Nat.le_of_ble_eq_true rfl) (by show _ ≤ 14100; omega) (by show _ ≤ 28200; omega) ?_
              have n9 := ((hI1.B (by omega)) : h_B W1.1).n9
              generalize hg9 : max 1 (W1.1 0 9) = g9
              have hg9r : 1 ≤ g9 ∧ g9 ≤ 5 := by omega
              refine m_istore_n hC dL_lay_94 rfl (by decide) rfl ?_
              refine m_iconst hC dL_lay_95 ?_
              refine m_istore hC dL_lay_96 (by decide) rfl ?_
              have L3 : ∀ (n : Nat) (i b9 K9 : Int) (c9 s9 : Nat) (W1 : gW) (M1 : m_M), 10 - i < (n : Int) → 0 ≤ i → i ≤ 10 → gIn s0.heap.size fo x w W1 M1 → gFr x w M M1 → lI K9 W1 → K9 ≤ K + 58300 + 5300 * i → (c9 : Int) ≤ 5170 + 470 * i → (s9 : Int) ≤ 10340 + 940 * i → m_W D aC s0 5 p l e (m_R 15 (14100) (28200)) s m args below meth c (c9) (s9) (m_Q D aC s0 below (fun v M' => v = none ∧ ∃ W' : gW, gIn s0.heap.size fo x w W' M' ∧ gFr x w M M' ∧ lI (K + 200000) W') m_nx args s (14100) (28200)) 98 [(4, VI i), (3, VI g9), (2, VI b9), (1, .ref b), (0, .ref x)] [] M1 := by
                intro n
                induction n with
                | zero =>
                  intro i b9 K9 c9 s9 W1 M1 hn h0 h1 hG1 hf1 hI1 hK9 hc9 hs9
                  omega
                | succ n ih =>
                  intro i b9 K9 c9 s9 W1 M1 hn h0 h1 hG1 hf1 hI1 hK9 hc9 hs9
                  refine m_iload hC 0 dL_lay_98 rfl ?_
                  refine m_aload_n hC 3 dL_lay_100 rfl rfl ?_
                  refine m_iconst hC dL_lay_101 ?_
                  refine m_bipush hC dL_lay_102 (by decide) ?_
                  refine m_callSt hC (t_L_pick hF hl hS (by omega) (by omega)) dL_lay_104 kc_L_pick kS_L_117 rfl rfl (Nat.le_of_ble_eq_true rfl) ⟨Nat.le_of_ble_eq_true rfl, Nat.le_of_ble_eq_true rfl⟩ ⟨by show _ ≤ 14100; omega, by show _ ≤ 28200; omega⟩ (fun v M9 h => by rw [h.2]) (fun _ _ h => h) (fun v9 M9 h9 => ?_)
                  obtain ⟨⟨zp3, hzp3, rfl⟩, h9⟩ := h9
                  replace h9 := h9.symm
                  subst h9
                  refine m_icmp_ge (tgt := 171) hC dL_lay_107 (by decide) (by first | omega | (simp [hs_at] <;> omega)) (fun c3 => ?_) (fun c3 => ?_)
                  · refine m_iconst hC dL_lay_171 ?_
                    refine m_istore hC dL_lay_172 (by decide) rfl ?_
                    have L4 : ∀ (n : Nat) (i b9 K9 : Int) (c9 s9 : Nat) (W1 : gW) (M1 : m_M), 3 - i < (n : Int) → 0 ≤ i → i ≤ 3 → gIn s0.heap.size fo x w W1 M1 → gFr x w M M1 → lI K9 W1 → K9 ≤ K + 111300 + 10600 * i → (c9 : Int) ≤ 9870 + 940 * i → (s9 : Int) ≤ 19740 + 1880 * i → m_W D aC s0 5 p l e (m_R 15 (14100) (28200)) s m args below meth c (c9) (s9) (m_Q D aC s0 below (fun v M' => v = none ∧ ∃ W' : gW, gIn s0.heap.size fo x w W' M' ∧ gFr x w M M' ∧ lI (K + 200000) W') m_nx args s (14100) (28200)) 174 [(4, VI i), (3, VI g9), (2, VI b9), (1, .ref b), (0, .ref x)] [] M1 := by
                      intro n
                      induction n with
                      | zero =>
                        intro i b9 K9 c9 s9 W1 M1 hn h0 h1 hG1 hf1 hI1 hK9 hc9 hs9
                        omega
                      | succ n ih =>
                        intro i b9 K9 c9 s9 W1 M1 hn h0 h1 hG1 hf1 hI1 hK9 hc9 hs9
                        refine m_iload hC 0 dL_lay_174 rfl ?_
                        refine m_aload_n hC 3 dL_lay_176 rfl rfl ?_
                        refine m_iconst hC dL_lay_177 ?_
                        refine m_iconst hC dL_lay_178 ?_
                        refine m_callSt hC (t_L_pick hF hl hS (by omega) (by omega)) dL_lay_179 kc_L_pick kS_L_117 rfl rfl (Nat.le_of_ble_eq_true rfl) ⟨Nat.le_of_ble_eq_true rfl, Nat.le_of_ble_eq_true rfl⟩ ⟨by show _ ≤ 14100; omega, by show _ ≤ 28200; omega⟩ (fun v M9 h => by rw [h.2]) (fun _ _ h => h) (fun v9 M9 h9 => ?_)
                        obtain ⟨⟨zp4, hzp4, rfl⟩, h9⟩ := h9
                        replace h9 := h9.symm
                        subst h9
                        refine m_icmp_ge (tgt := 246) hC dL_lay_182 (by decide) (by first | omega | (simp [hs_at] <;> omega)) (fun c4 => ?_) (fun c4 => ?_)
                        · refine m_iload_n hC 2 dL_lay_246 rfl rfl ?_
                          refine m_aload_n hC 3 dL_lay_247 rfl rfl ?_
                          refine m_iconst hC dL_lay_248 ?_
                          refine m_iconst hC dL_lay_249 ?_
                          refine m_callSt hC (t_L_pick hF hl hS (by omega) (by omega)) dL_lay_250 kc_L_pick kS_L_117 rfl rfl (Nat.le_of_ble_eq_true rfl) ⟨Nat.le_of_ble_eq_true rfl, Nat.le_of_ble_eq_true rfl⟩ ⟨by show _ ≤ 14100; omega, by show _ ≤ 28200; omega⟩ (fun v M9 h => by rw [h.2]) (fun _ _ h => h) (fun v9 M9 h9 => ?_)
                          obtain ⟨⟨zp5, hzp5, rfl⟩, h9⟩ := h9
                          replace h9 := h9.symm
                          subst h9
                          refine m_if_ne (tgt := 278) hC dL_lay_253 (by decide) (by first | omega | (simp [hs_at] <;> omega)) (fun c5 => ?_) (fun c5 => ?_)
                          · refine m_iconst hC dL_lay_278 ?_
                            refine m_iadd hC dL_lay_279 ?_
                            refine m_istore_n hC dL_lay_280 rfl (by decide) rfl ?_
                            exact m_vret hC dL_lay_281 hr (by omega) (by omega) (⟨rfl, W1, hG1, hf1, hI1.mono (by omega)⟩)
                          · refine m_aload_n hC 4 dL_lay_256 rfl rfl ?_
                            refine m_bipush hC dL_lay_257 (by decide) ?_
                            refine m_iconst hC dL_lay_259 ?_
                            refine m_aload_n hC 3 dL_lay_260 rfl rfl ?_
                            refine m_iconst hC dL_lay_261 ?_
                            refine m_sipush hC dL_lay_262 (by decide) ?_
                            refine m_callSt hC (t_L_pick hF hl hS (by omega) (by omega)) dL_lay_265 kc_L_pick kS_L_117 rfl rfl (Nat.le_of_ble_eq_true rfl) ⟨Nat.le_of_ble_eq_true rfl, Nat.le_of_ble_eq_true rfl⟩ ⟨by show _ ≤ 14100; omega, by show _ ≤ 28200; omega⟩ (fun v M9 h => by rw [h.2]) (fun _ _ h => h) (fun v9 M9 h9 => ?_)
                            obtain ⟨⟨zp6, hzp6, rfl⟩, h9⟩ := h9
                            replace h9 := h9.symm
                            subst h9
                            refine m_iadd hC dL_lay_268 ?_
                            refine m_iconst hC dL_lay_269 ?_
                            refine m_iconst hC dL_lay_270 ?_
                            refine m_iconst hC dL_lay_271 ?_
                            refine m_callSW hC (d_fund hF hl hJ hX hN hG1 hI1 (by omega) ⟨⟨by omega, by omega⟩, ⟨by omega, by omega⟩, ⟨by omega, by omega⟩, ⟨by omega, by omega⟩⟩) dL_lay_272 kw_L_deed kS_L_121 rfl rfl (Nat.le_of_ble_eq_true rfl) ⟨Nat.le_of_ble_eq_true rfl, Nat.le_of_ble_eq_true rfl⟩ ⟨by show _ ≤ 14100; omega, by show _ ≤ 28200; omega⟩ (fun v9 M6 h9 => ?_)
                            obtain ⟨zd10, W9, rfl, hG7, hf8, hI11⟩ := h9
                            refine m_goto (tgt := 279) hC dL_lay_275 (by decide) ?_
                            refine m_iadd hC dL_lay_279 ?_
                            refine m_istore_n hC dL_lay_280 rfl (by decide) rfl ?_
                            exact m_vret hC dL_lay_281 hr (by omega) (by omega) (⟨rfl, W9, hG7, (hf1.tr hf8), hI11.mono (by omega)⟩)
                        · refine m_iload_n hC 2 dL_lay_185 rfl rfl ?_
                          refine m_aload_n hC 4 dL_lay_186 rfl rfl ?_
                          refine m_bipush hC dL_lay_187 (by decide) ?_
                          refine m_aload_n hC 3 dL_lay_189 rfl rfl ?_
                          refine m_bipush hC dL_lay_190 (by decide) ?_
                          refine m_iload hC 0 dL_lay_192 rfl ?_
                          refine m_iadd hC dL_lay_194 ?_
                          refine m_iload_n hC 1 dL_lay_195 rfl rfl ?_
                          refine m_callSt hC (t_L_pick hF hl hS (by omega) (by omega)) dL_lay_196 kc_L_pick kS_L_117 rfl rfl (Nat.le_of_ble_eq_true rfl) ⟨Nat.le_of_ble_eq_true rfl, Nat.le_of_ble_eq_true rfl⟩ ⟨by show _ ≤ 14100; omega, by show _ ≤ 28200; omega⟩ (fun v M9 h => by rw [h.2]) (fun _ _ h => h) (fun v9 M9 h9 => ?_)
                          obtain ⟨⟨zp7, hzp7, rfl⟩, h9⟩ := h9
                          replace h9 := h9.symm
                          subst h9
                          refine m_iconst hC dL_lay_199 ?_
                          refine m_aload_n hC 3 dL_lay_200 rfl rfl ?_
                          refine m_bipush hC dL_lay_201 (by decide) ?_
                          refine m_iload hC 0 dL_lay_203 rfl ?_
                          refine m_iadd hC dL_lay_205 ?_
                          refine m_bipush hC dL_lay_206 (by decide) ?_
                          refine m_callSt hC (t_L_pick hF hl hS (by omega) (by omega)) dL_lay_208 kc_L_pick kS_L_117 rfl rfl (Nat.le_of_ble_eq_true rfl) ⟨Nat.le_of_ble_eq_true rfl, Nat.le_of_ble_eq_true rfl⟩ ⟨by show _ ≤ 14100; omega, by show _ ≤ 28200; omega⟩ (fun v M9 h => by rw [h.2]) (fun _ _ h => h) (fun v9 M9 h9 => ?_)
                          obtain ⟨⟨zp8, hzp8, rfl⟩, h9⟩ := h9
                          replace h9 := h9.symm
                          subst h9
                          refine m_iadd hC dL_lay_211 ?_
                          refine m_iconst hC dL_lay_212 ?_
                          refine m_iconst hC dL_lay_213 ?_
                          refine m_callSW hC (d_lend hF hl hJ hX hN hG1 hI1 (by omega) ⟨⟨by omega, by omega⟩, ⟨by omega, by omega⟩, ⟨by omega, by omega⟩, ⟨by omega, by omega⟩⟩) dL_lay_214 kw_L_deed kS_L_121 rfl rfl (Nat.le_of_ble_eq_true rfl) ⟨Nat.le_of_ble_eq_true rfl, Nat.le_of_ble_eq_true rfl⟩ ⟨by show _ ≤ 14100; omega, by show _ ≤ 28200; omega⟩ (fun v9 M12 h9 => ?_)
                          obtain ⟨zd16, W15, rfl, hG13, hf14, hI17⟩ := h9
                          refine m_aload_n hC 4 dL_lay_217 rfl rfl ?_
                          refine m_bipush hC dL_lay_218 (by decide) ?_
                          refine m_aload_n hC 3 dL_lay_220 rfl rfl ?_
                          refine m_sipush hC dL_lay_221 (by decide) ?_
                          refine m_iload hC 0 dL_lay_224 rfl ?_
                          refine m_iadd hC dL_lay_226 ?_
                          refine m_iload_n hC 1 dL_lay_227 rfl rfl ?_
                          refine m_callSt hC (t_L_pick hF hl hS (by omega) (by omega)) dL_lay_228 kc_L_pick kS_L_117 rfl rfl (Nat.le_of_ble_eq_true rfl) ⟨Nat.le_of_ble_eq_true rfl, Nat.le_of_ble_eq_true rfl⟩ ⟨by show _ ≤ 14100; omega, by show _ ≤ 28200; omega⟩ (fun v M9 h => by rw [h.2]) (fun _ _ h => h) (fun v9 M9 h9 => ?_)
                          obtain ⟨⟨zp9, hzp9, rfl⟩, h9⟩ := h9
                          replace h9 := h9.symm
                          subst h9
                          refine m_iconst hC dL_lay_231 ?_
                          refine m_iconst hC dL_lay_232 ?_
                          refine m_iconst hC dL_lay_233 ?_
                          refine m_callSW hC (d_rest hF hl hJ hX hN hG13 hI17 (by omega) ⟨⟨by omega, by omega⟩, ⟨by omega, by omega⟩, ⟨by omega, by omega⟩, ⟨by omega, by omega⟩⟩) dL_lay_234 kw_L_deed kS_L_121 rfl rfl (Nat.le_of_ble_eq_true rfl) ⟨Nat.le_of_ble_eq_true rfl, Nat.le_of_ble_eq_true rfl⟩ ⟨by show _ ≤ 14100; omega, by show _ ≤ 28200; omega⟩ (fun v9 M18 h9 => ?_)
                          obtain ⟨zd22, W21, rfl, hG19, hf20, hI23⟩ := h9
                          refine m_iadd hC dL_lay_237 ?_
                          refine m_iadd hC dL_lay_238 ?_
                          refine m_istore_n hC dL_lay_239 rfl (by decide) rfl ?_
                          refine m_iinc hC 1 dL_lay_240 rfl (by decide) rfl ?_
                          refine m_goto (tgt := 174) hC dL_lay_243 (by decide) ?_
                          refine m_lvs [0, 2, 1, 3, 4] rfl (ih (i + 1) _ _ _ _ _ _ (by omega) (by omega) (by omega) hG19 ((hf1.tr hf14).tr hf20) hI23 (by omega) (by omega) (by omega))
                    refine m_lvs [0, 1, 2, 3, 4] rfl (L4 4 0 _ _ _ _ _ _ (by omega) (by omega) (by omega) hG1 hf1 hI1 (by omega) (by omega) (by omega))
                  · refine m_iload_n hC 2 dL_lay_110 rfl rfl ?_
                    refine m_aload_n hC 4 dL_lay_111 rfl rfl ?_
                    refine m_iconst hC dL_lay_112 ?_
                    refine m_aload_n hC 3 dL_lay_113 rfl rfl ?_
                    refine m_bipush hC dL_lay_114 (by decide) ?_
                    refine m_iload hC 0 dL_lay_116 rfl ?_
                    refine m_iadd hC dL_lay_118 ?_
                    refine m_iload_n hC 1 dL_lay_119 rfl rfl ?_
                    refine m_callSt hC (t_L_pick hF hl hS (by omega) (by omega)) dL_lay_120 kc_L_pick kS_L_117 rfl rfl (Nat.le_of_ble_eq_true rfl) ⟨Nat.le_of_ble_eq_true rfl, Nat.le_of_ble_eq_true rfl⟩ ⟨by show _ ≤ 14100; omega, by show _ ≤ 28200; omega⟩ (fun v M9 h => by rw [h.2]) (fun _ _ h => h) (fun v9 M9 h9 => ?_)
                    obtain ⟨⟨zp10, hzp10, rfl⟩, h9⟩ := h9
                    replace h9 := h9.symm
                    subst h9
                    refine m_aload_n hC 3 dL_lay_123 rfl rfl ?_
                    refine m_bipush hC dL_lay_124 (by decide) ?_
                    refine m_iload hC 0 dL_lay_126 rfl ?_
                    refine m_iadd hC dL_lay_128 ?_
                    refine m_bipush hC dL_lay_129 (by decide) ?_
                    refine m_callSt hC (t_L_pick hF hl hS (by omega) (by omega)) dL_lay_131 kc_L_pick kS_L_117 rfl rfl (Nat.le_of_ble_eq_true rfl) ⟨Nat.le_of_ble_eq_true rfl, Nat.le_of_ble_eq_true rfl⟩ ⟨by show _ ≤ 14100; omega, by show _ ≤ 28200; omega⟩ (fun v M9 h => by rw [h.2]) (fun _ _ h => h) (fun v9 M9 h9 => ?_)
                    obtain ⟨⟨zp11, hzp11, rfl⟩, h9⟩ := h9
                    replace h9 := h9.symm
                    subst h9
                    refine m_iconst hC dL_lay_134 ?_
                    refine m_aload_n hC 3 dL_lay_135 rfl rfl ?_
                    refine m_bipush hC dL_lay_136 (by decide) ?_
                    refine m_iload hC 0 dL_lay_138 rfl ?_
                    refine m_iadd hC dL_lay_140 ?_
                    refine m_bipush hC dL_lay_141 (by decide) ?_
                    refine m_callSt hC (t_L_pick hF hl hS (by omega) (by omega)) dL_lay_143 kc_L_pick kS_L_117 rfl rfl (Nat.le_of_ble_eq_true rfl) ⟨Nat.le_of_ble_eq_true rfl, Nat.le_of_ble_eq_true rfl⟩ ⟨by show _ ≤ 14100; omega, by show _ ≤ 28200; omega⟩ (fun v M9 h => by rw [h.2]) (fun _ _ h => h) (fun v9 M9 h9 => ?_)
                    obtain ⟨⟨zp12, hzp12, rfl⟩, h9⟩ := h9
                    replace h9 := h9.symm
                    subst h9
                    refine m_iadd hC dL_lay_146 ?_
                    refine m_iconst hC dL_lay_147 ?_
                    refine m_aload_n hC 3 dL_lay_148 rfl rfl ?_
                    refine m_bipush hC dL_lay_149 (by decide) ?_
                    refine m_iload hC 0 dL_lay_151 rfl ?_
                    refine m_iadd hC dL_lay_153 ?_
                    refine m_bipush hC dL_lay_154 (by decide) ?_
                    refine m_callSt hC (t_L_pick hF hl hS (by omega) (by omega)) dL_lay_156 kc_L_pick kS_L_117 rfl rfl (Nat.le_of_ble_eq_true rfl) ⟨Nat.le_of_ble_eq_true rfl, Nat.le_of_ble_eq_true rfl⟩ ⟨by show _ ≤ 14100; omega, by show _ ≤ 28200; omega⟩ (fun v M9 h => by rw [h.2]) (fun _ _ h => h) (fun v9 M9 h9 => ?_)
                    obtain ⟨⟨zp13, hzp13, rfl⟩, h9⟩ := h9
                    replace h9 := h9.symm
                    subst h9
                    refine m_iadd hC dL_lay_159 ?_
                    refine m_callSW hC (d_hire hF hl hJ hX hN hG1 hI1 (by omega) ⟨⟨by omega, by omega⟩, ⟨by omega, by omega⟩, ⟨by omega, by omega⟩, ⟨by omega, by omega⟩⟩) dL_lay_160 kw_L_deed kS_L_121 rfl rfl (Nat.le_of_ble_eq_true rfl) ⟨Nat.le_of_ble_eq_true rfl, Nat.le_of_ble_eq_true rfl⟩ ⟨by show _ ≤ 14100; omega, by show _ ≤ 28200; omega⟩ (fun v9 M24 h9 => ?_)
                    obtain ⟨zd28, W27, rfl, hG25, hf26, hI29⟩ := h9
                    refine m_iadd hC dL_lay_163 ?_
                    refine m_istore_n hC dL_lay_164 rfl (by decide) rfl ?_
                    refine m_iinc hC 1 dL_lay_165 rfl (by decide) rfl ?_
                    refine m_goto (tgt := 98) hC dL_lay_168 (by decide) ?_
                    refine m_lvs [0, 2, 1, 3, 4] rfl (ih (i + 1) _ _ _ _ _ _ (by omega) (by omega) (by omega) hG25 (hf1.tr hf26) hI29 (by omega) (by omega) (by omega))
              refine m_lvs [0, 1, 2, 3, 4] rfl (L3 11 0 _ _ _ _ _ _ (by omega) (by omega) (by omega) hG1 hf1 hI1 (by omega) (by omega) (by omega))
            · refine m_iload_n hC 1 dL_lay_57 rfl rfl ?_
              refine m_aload_n hC 3 dL_lay_58 rfl rfl ?_
              refine m_iconst hC dL_lay_59 ?_
              refine m_iconst hC dL_lay_60 ?_
              refine m_aload_n hC 2 dL_lay_61 rfl rfl ?_
              refine m_bipush hC dL_lay_62 (by decide) ?_
              refine m_iload_n hC 0 dL_lay_64 rfl rfl ?_
              refine m_iadd hC dL_lay_65 ?_
              refine m_bipush hC dL_lay_66 (by decide) ?_
              refine m_callSt hC (t_L_pick hF hl hS (by omega) (by omega)) dL_lay_68 kc_L_pick kS_L_117 rfl rfl (Nat.le_of_ble_eq_true rfl) ⟨Nat.le_of_ble_eq_true rfl, Nat.le_of_ble_eq_true rfl⟩ ⟨by show _ ≤ 14100; omega, by show _ ≤ 28200; omega⟩ (fun v M9 h => by rw [h.2]) (fun _ _ h => h) (fun v9 M9 h9 => ?_)
              obtain ⟨⟨zp14, hzp14, rfl⟩, h9⟩ := h9
              replace h9 := h9.symm
              subst h9
              refine m_iadd hC dL_lay_71 ?_
              refine m_iconst hC dL_lay_72 ?_
              refine m_iconst hC dL_lay_73 ?_
              refine m_iconst hC dL_lay_74 ?_
              refine m_callSW hC (d_addBroom hF hl hJ hX hN hG1 hI1 (by omega) ⟨⟨by omega, by omega⟩, ⟨by omega, by omega⟩, ⟨by omega, by omega⟩, ⟨by omega, by omega⟩⟩) dL_lay_75 kw_L_deed kS_L_121 rfl rfl (Nat.le_of_ble_eq_true rfl) ⟨Nat.le_of_ble_eq_true rfl, Nat.le_of_ble_eq_true rfl⟩ ⟨by show _ ≤ 14100; omega, by show _ ≤ 28200; omega⟩ (fun v9 M30 h9 => ?_)
              obtain ⟨zd34, W33, rfl, hG31, hf32, hI35⟩ := h9
              refine m_iadd hC dL_lay_78 ?_
              refine m_istore_n hC dL_lay_79 rfl (by decide) rfl ?_
              refine m_iinc hC 1 dL_lay_80 rfl (by decide) rfl ?_
              refine m_goto (tgt := 46) hC dL_lay_83 (by decide) ?_
              refine m_lvs [0, 1, 2, 3] rfl (ih (i + 1) _ _ _ _ _ _ (by omega) (by omega) (by omega) hG31 (hf1.tr hf32) hI35 (by omega) (by omega) (by omega))
        refine m_lvs [0, 1, 2, 3] rfl (L2 6 0 _ _ _ _ _ _ (by omega) (by omega) (by omega) hG1 hf1 hI1 (by omega) (by omega) (by omega))
      · refine m_iload_n hC 1 dL_lay_15 rfl rfl ?_
        refine m_aload_n hC 3 dL_lay_16 rfl rfl ?_
        refine m_iconst hC dL_lay_17 ?_
        refine m_iconst hC dL_lay_18 ?_
        refine m_aload_n hC 2 dL_lay_19 rfl rfl ?_
        refine m_bipush hC dL_lay_20 (by decide) ?_
        refine m_iload_n hC 0 dL_lay_22 rfl rfl ?_
        refine m_iadd hC dL_lay_23 ?_
        refine m_bipush hC dL_lay_24 (by decide) ?_
        refine m_callSt hC (t_L_pick hF hl hS (by omega) (by omega)) dL_lay_26 kc_L_pick kS_L_117 rfl rfl (Nat.le_of_ble_eq_true rfl) ⟨Nat.le_of_ble_eq_true rfl, Nat.le_of_ble_eq_true rfl⟩ ⟨by show _ ≤ 14100; omega, by show _ ≤ 28200; omega⟩ (fun v M9 h => by rw [h.2]) (fun _ _ h => h) (fun v9 M9 h9 => ?_)
        obtain ⟨⟨zp15, hzp15, rfl⟩, h9⟩ := h9
        replace h9 := h9.symm
        subst h9
        refine m_iadd hC dL_lay_29 ?_
        refine m_iconst hC dL_lay_30 ?_
        refine m_iconst hC dL_lay_31 ?_
        refine m_iconst hC dL_lay_32 ?_
        refine m_callSW hC (d_addGoblin hF hl hJ hX hN hG1 hI1 (by omega) ⟨⟨by omega, by omega⟩, ⟨by omega, by omega⟩, ⟨by omega, by omega⟩, ⟨by omega, by omega⟩⟩) dL_lay_33 kw_L_deed kS_L_121 rfl rfl (Nat.le_of_ble_eq_true rfl) ⟨Nat.le_of_ble_eq_true rfl, Nat.le_of_ble_eq_true rfl⟩ ⟨by show _ ≤ 14100; omega, by show _ ≤ 28200; omega⟩ (fun v9 M36 h9 => ?_)
        obtain ⟨zd40, W39, rfl, hG37, hf38, hI41⟩ := h9
        refine m_iadd hC dL_lay_36 ?_
        refine m_istore_n hC dL_lay_37 rfl (by decide) rfl ?_
        refine m_iinc hC 1 dL_lay_38 rfl (by decide) rfl ?_
        refine m_goto (tgt := 4) hC dL_lay_41 (by decide) ?_
        refine m_lvs [0, 1, 2, 3] rfl (ih (i + 1) _ _ _ _ _ _ (by omega) (by omega) (by omega) hG37 (hf1.tr hf38) hI41 (by omega) (by omega) (by omega))
  refine m_lvs [0, 1, 3, 2] rfl (L1 7 0 _ _ _ _ _ _ (by omega) (by omega) (by omega) hG gFr.rf hI (by omega) (by omega) (by omega))

