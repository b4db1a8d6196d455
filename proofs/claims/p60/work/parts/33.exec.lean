section
variable {D : va_G} {aC : Nat → ClassId} {s0 : State} {own : String} {cc : ByteArray} {nL : Nat} {p : Program} {l : Launch} {e : Env} {R : Room} {s : State} {m : MethodId} {args : Array Value} {below : List Frame} {meth : Method} {c : Code} {cells slots : Nat} {Q : State → Prop} {pc : Nat} {lv : List (Nat × Value)} {st : List Value} {M : m_M}
theorem m_tin (C : m_C D aC s0 own cc nL l p s m args meth c) {dflt lo hi z off : Int} {offs : Array Int} {len tgt : Nat} (hd : decode cc pc = .ok (.tableswitch dflt lo hi offs, len)) (hz : lo ≤ z ∧ z ≤ hi) (hr : -2147483648 ≤ z ∧ z < 2147483648) (ho : offs[(z - lo).toNat]? = some off) (ht : (pc : Int) + off = (tgt : Int)) (kk : m_W D aC s0 nL p l e R s m args below meth c cells slots Q tgt lv st M) : m_W D aC s0 nL p l e R s m args below meth c cells slots Q pc lv (VI z :: st) M := fun H locs ls h1 h2 h3 => lv_tableIn C.1 C.2.1 hd (by rw [m_ti (by omega)]; omega) (by rw [m_ti (by omega)]; omega) (by rw [m_ti (by omega)]; exact ho) ht (kk H locs ls h1 h2 h3)
theorem m_tout (C : m_C D aC s0 own cc nL l p s m args meth c) {dflt lo hi z : Int} {offs : Array Int} {len tgt : Nat} (hd : decode cc pc = .ok (.tableswitch dflt lo hi offs, len)) (hz : z < lo ∨ hi < z) (hr : -2147483648 ≤ z ∧ z < 2147483648) (ht : (pc : Int) + dflt = (tgt : Int)) (kk : m_W D aC s0 nL p l e R s m args below meth c cells slots Q tgt lv st M) : m_W D aC s0 nL p l e R s m args below meth c cells slots Q pc lv (VI z :: st) M := fun H locs ls h1 h2 h3 => lv_tableOut C.1 C.2.1 hd (by rw [m_ti (by omega)]; exact hz) ht (kk H locs ls h1 h2 h3)
end


set_option maxHeartbeats 4000000 in
set_option maxRecDepth 100000 in
theorem t_Jx29ce0_ordinal_8abf5 {D : va_G} {aC : Nat → ClassId} {s0 : State} {l : Launch} (hF : m_F D aC s0) (hl : l.stackTraces = false) {fo ks vs : Nat → Nat} {fA sA dO dT : Nat} (hJ : m_J s0 fo ks vs fA sA dO dT) {M : m_M} {k : Nat} (hk : k < 13) : m_Met D aC s0 l yJx29ce0_ordinal_8abf5 cJx29ce0_ordinal_8abf5 1 (some .int) 0 (0) (0) [.ref (fo k)] M (fun v M' => v = some (VI (k : Int)) ∧ M' = M) m_nx := by
  refine m_entry (lv := [(0, .ref (fo k))]) (by decide +kernel) (Nat.le_of_ble_eq_true rfl) rfl hF hl ?_
  intro p e s m args below meth c hC hr hno hnm
  change m_C D aC s0 RJx29ce0 _ _ _ _ _ _ _ _ _ at hC
  refine m_aload_n hC 0 dJx29ce0_ordinal_8abf5_0 rfl rfl ?_
  refine m_cgetf hC (hJ.ord k hk) kg_Jx29ce0_7 dJx29ce0_ordinal_8abf5_1 ?_
  exact m_iret hC dJx29ce0_ordinal_8abf5_4 hr (by decide) (by decide) (⟨rfl, rfl⟩)

/-- a command at a: its form's number, how many arguments, the arguments -/
def cmP (fo : Nat → Nat) (a k : Nat) (n : Int) (f : Int → Int) (M : m_M) : Prop := M.2 a = some (m_ob 5 [.ref (a + 1), VI n, .ref (fo k)]) ∧ M.2 (a + 1) = some (m_ia 0 4 f)
theorem cmP.keep {fo : Nat → Nat} {a k : Nat} {n : Int} {f : Int → Int} {M M2 : m_M} (h : cmP fo a k n f M) (hq : ∀ q : Nat, a ≤ q → q < a + 2 → M2.2 q = M.2 q) : cmP fo a k n f M2 := ⟨(hq _ (by omega) (by omega)).trans h.1, (hq _ (by omega) (by omega)).trans h.2⟩
def S_exec (g : h_T) (k : Nat) (f : Int → Int) : Int × h_T := match k with
  | 0 => S_addGoblin g (f 0)
  | 1 => S_addBroom g (f 0)
  | 2 => S_banish g (f 0)
  | 3 => S_recall g (f 0)
  | 4 => S_hire g (f 0) (f 1) (f 2) (f 3)
  | 5 => S_cancel g (f 0)
  | 6 => S_rest g (f 0)
  | 7 => S_wake g (f 0)
  | 8 => S_lend g (f 0) (f 1)
  | 9 => S_fund g (f 0)
  | 10 => S_spend g (f 0)
  | 12 => S_pass g (f 0)
  | _ => S_pass g 1

set_option maxHeartbeats 4000000 in
set_option maxRecDepth 100000 in
theorem t_X7_execute {D : va_G} {aC : Nat → ClassId} {s0 : State} {l : Launch} (hF : m_F D aC s0) (hl : l.stackTraces = false) {fo ks vs : Nat → Nat} {fA sA dO dT : Nat} (hJ : m_J s0 fo ks vs fA sA dO dT) {b : Nat} {g : h_T} {M : m_M} {K : Int} (hR : hhR b g M) (hB : h_BK K g) (hK : K ≤ 80000000) (hb : s0.heap.size ≤ b) {a9 k : Nat} {n9 : Int} {f : Int → Int} (hM9 : cmP fo a9 k n9 f M) (hk : k < 13) (hf9 : ∀ i : Int, 0 ≤ i ∧ i < 4 → -2147483648 ≤ f i ∧ f i < 2147483648) : m_Met D aC s0 l yX7_execute cX7_execute 3 (some .int) 5 (0) (0) [.ref b, .ref a9] M (h_op b M (S_exec g k f)) m_nx := by
  refine m_entry (lv := [(0, .ref b), (1, .ref a9)]) (by decide +kernel) (Nat.le_of_ble_eq_true rfl) rfl hF hl ?_
  intro p e s m args below meth c hC hr hno hnm
  change m_C D aC s0 RX7 _ _ _ _ _ _ _ _ _ at hC
  have hB0 := hB.toB (by omega)
  refine m_aload_n hC 1 dX7_execute_0 rfl rfl ?_
  refine m_getf hC dX7_execute_1 kf_X7_71 hM9.1 rfl ?_
  refine m_astore_n hC dX7_execute_4 rfl (by decide) rfl ?_
  refine m_gets hC hJ.wZ kg_X7_76 dX7_execute_5 ?_
  refine m_aload_n hC 2 dX7_execute_8 rfl rfl ?_
  refine m_getf hC dX7_execute_9 kf_X7_81 hM9.1 rfl ?_
  refine m_callU hC (t_Jx29ce0_ordinal_8abf5 hF hl hJ hk) dX7_execute_12 kc_Jx29ce0_ordinal_8abf5 kU_X7_85 (m_old hC (hJ.ob k hk)) rfl rfl (Nat.le_of_ble_eq_true rfl) (by decide) (by decide) m_nox (fun v9 M9 h9 => ?_)
  obtain ⟨rfl, rfl⟩ := h9
  refine m_cti hC hJ.wT dX7_execute_15 (by decide) (by omega) rfl ?_
  have hk13 : k = 0 ∨ k = 1 ∨ k = 2 ∨ k = 3 ∨ k = 4 ∨ k = 5 ∨ k = 6 ∨ k = 7 ∨ k = 8 ∨ k = 9 ∨ k = 10 ∨ k = 11 ∨ k = 12 := by omega
  rcases hk13 with rfl | rfl | rfl | rfl | rfl | rfl | rfl | rfl | rfl | rfl | rfl | rfl | rfl
  · change m_W D aC s0 _ p l e _ s m args below meth c _ _ _ _ _ (VI 1 :: _) _
    refine m_tin (tgt := 80) hC dX7_execute_16 (by decide) (by decide) rfl (by decide) ?_
    refine m_aload_n hC 1 dX7_execute_80 rfl rfl ?_
    refine m_aload_n hC 0 dX7_execute_81 rfl rfl ?_
    refine m_iconst hC dX7_execute_82 ?_
    refine m_iald hC dX7_execute_83 hM9.2 (by decide) (by decide) ?_
    refine m_callV hC (t_X7_takeGoblin hF hl hR hB0 hb (hf9 0 (by omega))) dX7_execute_84 kc_X7_takeGoblin kV_X7_91 hR.ob rfl rfl rfl rfl (Nat.le_of_ble_eq_true rfl) (by decide) (by decide) m_nox (fun v9 M1 h9 => ?_)
    obtain ⟨rfl, hA9, hfr9⟩ := h9
    exact m_iret hC dX7_execute_87 hr (by decide) (by decide) (⟨rfl, hA9, hfr9⟩)
  · change m_W D aC s0 _ p l e _ s m args below meth c _ _ _ _ _ (VI 2 :: _) _
    refine m_tin (tgt := 88) hC dX7_execute_16 (by decide) (by decide) rfl (by decide) ?_
    refine m_aload_n hC 1 dX7_execute_88 rfl rfl ?_
    refine m_aload_n hC 0 dX7_execute_89 rfl rfl ?_
    refine m_iconst hC dX7_execute_90 ?_
    refine m_iald hC dX7_execute_91 hM9.2 (by decide) (by decide) ?_
    refine m_callV hC (t_X7_takeBroom hF hl hR hB0 hb (hf9 0 (by omega))) dX7_execute_92 kc_X7_takeBroom kV_X7_95 hR.ob rfl rfl rfl rfl (Nat.le_of_ble_eq_true rfl) (by decide) (by decide) m_nox (fun v9 M2 h9 => ?_)
    obtain ⟨rfl, hA9, hfr9⟩ := h9
    exact m_iret hC dX7_execute_95 hr (by decide) (by decide) (⟨rfl, hA9, hfr9⟩)
  · change m_W D aC s0 _ p l e _ s m args below meth c _ _ _ _ _ (VI 3 :: _) _
    refine m_tin (tgt := 96) hC dX7_execute_16 (by decide) (by decide) rfl (by decide) ?_
    refine m_aload_n hC 1 dX7_execute_96 rfl rfl ?_
    refine m_aload_n hC 0 dX7_execute_97 rfl rfl ?_
    refine m_iconst hC dX7_execute_98 ?_
    refine m_iald hC dX7_execute_99 hM9.2 (by decide) (by decide) ?_
    refine m_callV hC (t_X7_putBroomAway hF hl hR hB0 hb (hf9 0 (by omega))) dX7_execute_100 kc_X7_putBroomAway kV_X7_98 hR.ob rfl rfl rfl rfl (Nat.le_of_ble_eq_true rfl) (by decide) (by decide) m_nox (fun v9 M3 h9 => ?_)
    obtain ⟨rfl, hA9, hfr9⟩ := h9
    exact m_iret hC dX7_execute_103 hr (by decide) (by decide) (⟨rfl, hA9, hfr9⟩)
  · change m_W D aC s0 _ p l e _ s m args below meth c _ _ _ _ _ (VI 4 :: _) _
    refine m_tin (tgt := 104) hC dX7_execute_16 (by decide) (by decide) rfl (by decide) ?_
    refine m_aload_n hC 1 dX7_execute_104 rfl rfl ?_
    refine m_aload_n hC 0 dX7_execute_105 rfl rfl ?_
    refine m_iconst hC dX7_execute_106 ?_
    refine m_iald hC dX7_execute_107 hM9.2 (by decide) (by decide) ?_
    refine m_callV hC (t_X7_fetchBroom hF hl hR hB0 hb (hf9 0 (by omega))) dX7_execute_108 kc_X7_fetchBroom kV_X7_101 hR.ob rfl rfl rfl rfl (Nat.le_of_ble_eq_true rfl) (by decide) (by decide) m_nox (fun v9 M4 h9 => ?_)
    obtain ⟨rfl, hA9, hfr9⟩ := h9
    exact m_iret hC dX7_execute_111 hr (by decide) (by decide) (⟨rfl, hA9, hfr9⟩)
  · change m_W D aC s0 _ p l e _ s m args below meth c _ _ _ _ _ (VI 5 :: _) _
    refine m_tin (tgt := 112) hC dX7_execute_16 (by decide) (by decide) rfl (by decide) ?_
    refine m_aload_n hC 1 dX7_execute_112 rfl rfl ?_
    refine m_aload_n hC 0 dX7_execute_113 rfl rfl ?_
    refine m_iconst hC dX7_execute_114 ?_
    refine m_iald hC dX7_execute_115 hM9.2 (by decide) (by decide) ?_
    refine m_aload_n hC 0 dX7_execute_116 rfl rfl ?_
    refine m_iconst hC dX7_execute_117 ?_
    refine m_iald hC dX7_execute_118 hM9.2 (by decide) (by decide) ?_
    refine m_aload_n hC 0 dX7_execute_119 rfl rfl ?_
    refine m_iconst hC dX7_execute_120 ?_
    refine m_iald hC dX7_execute_121 hM9.2 (by decide) (by decide) ?_
    refine m_aload_n hC 0 dX7_execute_122 rfl rfl ?_
    refine m_iconst hC dX7_execute_123 ?_
    refine m_iald hC dX7_execute_124 hM9.2 (by decide) (by decide) ?_
    refine m_callV hC (t_X7_signContract hF hl hR hB0 hb (hf9 0 (by omega)) (hf9 1 (by omega)) (hf9 2 (by omega)) (hf9 3 (by omega))) dX7_execute_125 kc_X7_signContract kV_X7_104 hR.ob rfl rfl rfl rfl (Nat.le_of_ble_eq_true rfl) (by decide) (by decide) m_nox (fun v9 M5 h9 => ?_)
    obtain ⟨rfl, hA9, hfr9⟩ := h9
    exact m_iret hC dX7_execute_128 hr (by decide) (by decide) (⟨rfl, hA9, hfr9⟩)
  · change m_W D aC s0 _ p l e _ s m args below meth c _ _ _ _ _ (VI 6 :: _) _
    refine m_tin (tgt := 129) hC dX7_execute_16 (by decide) (by decide) rfl (by decide) ?_
    refine m_aload_n hC 1 dX7_execute_129 rfl rfl ?_
    refine m_aload_n hC 0 dX7_execute_130 rfl rfl ?_
    refine m_iconst hC dX7_execute_131 ?_
    refine m_iald hC dX7_execute_132 hM9.2 (by decide) (by decide) ?_
    refine m_callV hC (t_X7_dropContract hF hl hR hB (by omega) hb (hf9 0 (by omega))) dX7_execute_133 kc_X7_dropContract kV_X7_108 hR.ob rfl rfl rfl rfl (Nat.le_of_ble_eq_true rfl) (by decide) (by decide) m_nox (fun v9 M6 h9 => ?_)
    obtain ⟨rfl, hA9, hfr9⟩ := h9
    exact m_iret hC dX7_execute_136 hr (by decide) (by decide) (⟨rfl, hA9, hfr9⟩)
  · change m_W D aC s0 _ p l e _ s m args below meth c _ _ _ _ _ (VI 7 :: _) _
    refine m_tin (tgt := 137) hC dX7_execute_16 (by decide) (by decide) rfl (by decide) ?_
    refine m_aload_n hC 1 dX7_execute_137 rfl rfl ?_
    refine m_aload_n hC 0 dX7_execute_138 rfl rfl ?_
    refine m_iconst hC dX7_execute_139 ?_
    refine m_iald hC dX7_execute_140 hM9.2 (by decide) (by decide) ?_
    refine m_callV hC (t_X7_sendToBed hF hl hR hB0 hb (hf9 0 (by omega))) dX7_execute_141 kc_X7_sendToBed kV_X7_111 hR.ob rfl rfl rfl rfl (Nat.le_of_ble_eq_true rfl) (by decide) (by decide) m_nox (fun v9 M7 h9 => ?_)
    obtain ⟨rfl, hA9, hfr9⟩ := h9
    exact m_iret hC dX7_execute_144 hr (by decide) (by decide) (⟨rfl, hA9, hfr9⟩)
  · change m_W D aC s0 _ p l e _ s m args below meth c _ _ _ _ _ (VI 8 :: _) _
    refine m_tin (tgt := 145) hC dX7_execute_16 (by decide) (by decide) rfl (by decide) ?_
    refine m_aload_n hC 1 dX7_execute_145 rfl rfl ?_
    refine m_aload_n hC 0 dX7_execute_146 rfl rfl ?_
    refine m_iconst hC dX7_execute_147 ?_
    refine m_iald hC dX7_execute_148 hM9.2 (by decide) (by decide) ?_
    refine m_callV hC (t_X7_getOutOfBed hF hl hR hB0 hb (hf9 0 (by omega))) dX7_execute_149 kc_X7_getOutOfBed kV_X7_114 hR.ob rfl rfl rfl rfl (Nat.le_of_ble_eq_true rfl) (by decide) (by decide) m_nox (fun v9 M8 h9 => ?_)
    obtain ⟨rfl, hA9, hfr9⟩ := h9
    exact m_iret hC dX7_execute_152 hr (by decide) (by decide) (⟨rfl, hA9, hfr9⟩)
  · change m_W D aC s0 _ p l e _ s m args below meth c _ _ _ _ _ (VI 9 :: _) _
    refine m_tin (tgt := 153) hC dX7_execute_16 (by decide) (by decide) rfl (by decide) ?_
    refine m_aload_n hC 1 dX7_execute_153 rfl rfl ?_
    refine m_aload_n hC 0 dX7_execute_154 rfl rfl ?_
    refine m_iconst hC dX7_execute_155 ?_
    refine m_iald hC dX7_execute_156 hM9.2 (by decide) (by decide) ?_
    refine m_aload_n hC 0 dX7_execute_157 rfl rfl ?_
    refine m_iconst hC dX7_execute_158 ?_
    refine m_iald hC dX7_execute_159 hM9.2 (by decide) (by decide) ?_
    refine m_callV hC (t_X7_advanceCrumbs hF hl hR hB0 hb (hf9 0 (by omega)) (hf9 1 (by omega))) dX7_execute_160 kc_X7_advanceCrumbs kV_X7_117 hR.ob rfl rfl rfl rfl (Nat.le_of_ble_eq_true rfl) (by decide) (by decide) m_nox (fun v9 M9 h9 => ?_)
    obtain ⟨rfl, hA9, hfr9⟩ := h9
    exact m_iret hC dX7_execute_163 hr (by decide) (by decide) (⟨rfl, hA9, hfr9⟩)
  · change m_W D aC s0 _ p l e _ s m args below meth c _ _ _ _ _ (VI 10 :: _) _
    refine m_tin (tgt := 164) hC dX7_execute_16 (by decide) (by decide) rfl (by decide) ?_
    refine m_aload_n hC 1 dX7_execute_164 rfl rfl ?_
    refine m_aload_n hC 0 dX7_execute_165 rfl rfl ?_
    refine m_iconst hC dX7_execute_166 ?_
    refine m_iald hC dX7_execute_167 hM9.2 (by decide) (by decide) ?_
    refine m_callV hC (t_X7_takeCrumbsIn hF hl hR hB0 hb (hf9 0 (by omega))) dX7_execute_168 kc_X7_takeCrumbsIn kV_X7_121 hR.ob rfl rfl rfl rfl (Nat.le_of_ble_eq_true rfl) (by decide) (by decide) m_nox (fun v9 M10 h9 => ?_)
    obtain ⟨rfl, hA9, hfr9⟩ := h9
    exact m_iret hC dX7_execute_171 hr (by decide) (by decide) (⟨rfl, hA9, hfr9⟩)
  · change m_W D aC s0 _ p l e _ s m args below meth c _ _ _ _ _ (VI 11 :: _) _
    refine m_tin (tgt := 172) hC dX7_execute_16 (by decide) (by decide) rfl (by decide) ?_
    refine m_aload_n hC 1 dX7_execute_172 rfl rfl ?_
    refine m_aload_n hC 0 dX7_execute_173 rfl rfl ?_
    refine m_iconst hC dX7_execute_174 ?_
    refine m_iald hC dX7_execute_175 hM9.2 (by decide) (by decide) ?_
    refine m_callV hC (t_X7_giveCrumbsOut hF hl hR hB0 hb (hf9 0 (by omega))) dX7_execute_176 kc_X7_giveCrumbsOut kV_X7_124 hR.ob rfl rfl rfl rfl (Nat.le_of_ble_eq_true rfl) (by decide) (by decide) m_nox (fun v9 M11 h9 => ?_)
    obtain ⟨rfl, hA9, hfr9⟩ := h9
    exact m_iret hC dX7_execute_179 hr (by decide) (by decide) (⟨rfl, hA9, hfr9⟩)
  · change m_W D aC s0 _ p l e _ s m args below meth c _ _ _ _ _ (VI 0 :: _) _
    refine m_tout (tgt := 188) hC dX7_execute_16 (by decide) (by decide) (by decide) ?_
    refine m_aload_n hC 1 dX7_execute_188 rfl rfl ?_
    refine m_iconst hC dX7_execute_189 ?_
    refine m_callV hC (t_X7_letNightsPass hF hl hR hB hK hb (x := 1) (by omega)) dX7_execute_190 kc_X7_letNightsPass kV_X7_127 hR.ob rfl rfl rfl rfl (Nat.le_of_ble_eq_true rfl) (by decide) (by decide) m_nox (fun v9 M12 h9 => ?_)
    obtain ⟨rfl, hA9, hfr9⟩ := h9
    exact m_iret hC dX7_execute_193 hr (by decide) (by decide) (⟨rfl, hA9, hfr9⟩)
  · change m_W D aC s0 _ p l e _ s m args below meth c _ _ _ _ _ (VI 12 :: _) _
    refine m_tin (tgt := 180) hC dX7_execute_16 (by decide) (by decide) rfl (by decide) ?_
    refine m_aload_n hC 1 dX7_execute_180 rfl rfl ?_
    refine m_aload_n hC 0 dX7_execute_181 rfl rfl ?_
    refine m_iconst hC dX7_execute_182 ?_
    refine m_iald hC dX7_execute_183 hM9.2 (by decide) (by decide) ?_
    refine m_callV hC (t_X7_letNightsPass hF hl hR hB hK hb (hf9 0 (by omega))) dX7_execute_184 kc_X7_letNightsPass kV_X7_127 hR.ob rfl rfl rfl rfl (Nat.le_of_ble_eq_true rfl) (by decide) (by decide) m_nox (fun v9 M13 h9 => ?_)
    obtain ⟨rfl, hA9, hfr9⟩ := h9
    exact m_iret hC dX7_execute_187 hr (by decide) (by decide) (⟨rfl, hA9, hfr9⟩)

