/-! the law: its state between two calls, and each of its cases -/
def lS (s0 : State) (fo : Nat → Nat) (x : Nat) (K : Int) (W : gW) (M : m_M) : Prop := gIn s0.heap.size fo x (x + 250) W M ∧ (∃ th, mIn (x + 238) th W M) ∧ (∃ f, M.2 (x + 248) = some (m_va 3 1 f)) ∧ (∃ f, M.2 (x + 249) = some (m_va 4 1 f)) ∧ lI K W
abbrev lL (i : Int) (x b : Nat) : List (Nat × Value) := [(5, VI i), (4, .ref (x + 249)), (3, .ref (x + 248)), (2, .ref (x + 238)), (1, .ref x), (0, .ref b)]
theorem mIn.keep {a : Nat} {th : Int} {W : gW} {M M2 : m_M} (h : mIn a th W M) (hq : ∀ q : Nat, a ≤ q → q < a + 10 → M2.2 q = M.2 q) : mIn a th W M2 := by
  obtain ⟨wd, hV, hW⟩ := h
  exact ⟨wd, hV.keep hq, hW⟩
theorem mIn.ob {a : Nat} {th : Int} {W : gW} {M : m_M} (h : mIn a th W M) : ∃ fs, M.2 a = some (m_ob 12 fs) := by
  obtain ⟨wd, hV, hW⟩ := h
  exact ⟨_, hV.ob⟩
theorem gIn.mfr {z0 : Nat} {fo : Nat → Nat} {x : Nat} {W : gW} {M M2 : m_M} (h : gIn z0 fo x (x + 250) W M) (hf : m_fr (x + 238) 10 M M2) : gIn z0 fo x (x + 250) W M2 :=
  ghP.far h (by rw [hf.1]; exact Nat.le_refl _) (fun a _ h1 _ => hf.2 a (by omega))
theorem b01r {P : Prop} [Decidable P] {z : Int} (h : (G_if P z).1 = 0) : P := by
  unfold G_if at h
  by_cases c : P
  · exact c
  · rw [if_neg c] at h
    exact absurd h (by decide)
theorem rType_c {W : gW} {y : Int} (h : (rType W y).1 = 0) : (32 ≤ y ∧ y ≤ 126) ∧ W.2.2.2.2.1.length < 60 := by
  unfold rType at h
  split at h
  · exact absurd h (by decide)
  · split at h
    · exact absurd h (by decide)
    · omega
theorem G_bro3 {g : h_T} (hB : h_B g) (x : Int) : (G_bro g 3 x).2 = 0 ∨ (G_bro g 3 x).2 = 1 := by
  unfold G_bro G_if
  split
  · next z => exact (hB.br z).2.2
  · exact Or.inl rfl
theorem lI_if {P : Prop} [Decidable P] {K : Int} {W1 W2 : gW} (h1 : P → lI K W1) (h2 : lI K W2) : lI K (if P then W1 else W2) := by
  by_cases c : P
  · rw [if_pos c]; exact h1 c
  · rw [if_neg c]; exact h2
section m_LAW
variable {D : va_G} {aC : Nat → ClassId} {l : Launch} {fo ks vs : Nat → Nat} {fA sA dO dT sa va : Nat} {p : Program} {e : Env} {s : State} {m : MethodId} {args : Array Value} {below : List Frame} {meth : Method} {c : Code} {cells slots : Nat} {Q : State → Prop}
set_option maxHeartbeats 2000000 in
theorem m_tail (hF : m_F D aC s) (hl : l.stackTraces = false) (C : m_C D aC s RL cL_law 10 l p s m args meth c) {K i z off : Int} {x b t : Nat} {r : Int × Int} {W2 : gW} {M : m_M} (hx : s.heap.size ≤ x) (hm : mIn (x + 238) r.1 W2 M) (hI : lI K W2) (hK : K ≤ 90000000) (h5 : 0 ≤ r.1 ∧ r.1 ≤ 5) (hz : r.1 = 0 → z = r.2) (ho : r.1 = 0 → M.2 (x + 248) = some (m_va 3 1 (fun _ => VL r.2))) (hc : cells ≤ 603072 ∧ slots ≤ 7186538)
    (d0 : decode cL_law t = .ok (.aload_n 2, 1)) (d1 : decode cL_law (t + 1) = .ok (.invokevirtual 165, 3)) (d4 : decode cL_law (t + 4) = .ok (.iload 6, 2)) (d6 : decode cL_law (t + 6) = .ok (.if_icmp .eq 5, 3)) (d11 : decode cL_law (t + 11) = .ok (.iload 6, 2)) (d13 : decode cL_law (t + 13) = .ok (.ifCond .ne 15, 3)) (d16 : decode cL_law (t + 16) = .ok (.aload_n 3, 1)) (d17 : decode cL_law (t + 17) = .ok (.iconst 0, 1)) (d18 : decode cL_law (t + 18) = .ok (.laload, 1)) (d19 : decode cL_law (t + 19) = .ok (.iload 7, 2)) (d21 : decode cL_law (t + 21) = .ok (.i2l, 1)) (d22 : decode cL_law (t + 22) = .ok (.lcmp, 1)) (d23 : decode cL_law (t + 23) = .ok (.ifCond .eq 5, 3)) (d28 : decode cL_law (t + 28) = .ok (.goto off, 3)) (hoff : ((t + 28 : Nat) : Int) + off = ((2889 : Nat) : Int))
    (kk : m_W D aC s 10 p l e room_1 s m args below meth c cells slots Q 2889 (lL i x b) [] M) : m_W D aC s 10 p l e room_1 s m args below meth c cells slots Q t ((7, VI z) :: (6, VI r.1) :: lL i x b) [] M := by
  obtain ⟨wd, hV, hW⟩ := hm
  have e14 : wd 0 14 = r.1 := hW.1
  have hE : m_W D aC s 10 p l e room_1 s m args below meth c cells slots Q (t + 28) ((7, VI z) :: (6, VI r.1) :: lL i x b) [] M := m_goto (tgt := 2889) C d28 hoff (m_lvs [2, 3, 4, 5, 6, 7] rfl kk)
  refine m_aload_n C 5 d0 rfl rfl ?_
  refine m_callV C (t_X10_thrown hF hl hV (by omega) (hI.B (by omega))) d1 kc_X10_thrown kV_L_165 hV.ob rfl rfl rfl rfl (Nat.le_of_ble_eq_true rfl) ⟨(Nat.le_of_ble_eq_true rfl), (Nat.le_of_ble_eq_true rfl)⟩ ⟨hc.1, hc.2⟩ m_nox (fun v9 M9 h9 => ?_)
  obtain ⟨rfl, h9⟩ := h9
  replace h9 := h9.symm
  subst h9
  rw [e14]
  refine m_iload C 1 d4 rfl ?_
  refine m_icmp_same (tgt := t + 11) C d6 (by omega) ?_
  refine m_iload C 1 d11 rfl ?_
  refine m_if_ne (tgt := t + 28) C d13 (by omega) (by omega) (fun c1 => ?_) (fun c1 => ?_)
  · exact hE
  · refine m_aload_n C 4 d16 rfl rfl ?_
    refine m_iconst C d17 ?_
    refine m_lald C d18 (ho c1) (by decide) (by decide) ?_
    refine m_iload C 0 d19 rfl ?_
    refine m_i2l C d21 ?_
    have hE2 := hE
    rw [hz c1] at hE2 ⊢
    refine m_lcmp0 C d22 ?_
    refine m_if_eq (tgt := t + 28) C d23 (by omega) (by decide) (fun c2 => ?_) (fun c2 => ?_)
    · exact hE2
    · exact absurd rfl c2
theorem m_W_k {P : Prop} (h : P) : P := h
set_option maxHeartbeats 2000000 in
theorem L_addGoblin (hF : m_F D aC s) (hl : l.stackTraces = false) (hJ : m_J s fo ks vs fA sA dO dT) (hX : m_TH s) (hN : m_NM s sa va) (hNC : m_NC s) (C : m_C D aC s RL cL_law 10 l p s m args meth c) {b L x : Nat} {xs : Nat → Int32} (hXs : va_X b L xs s s.heap) (hbl : b < s.heap.size) (hL : L ≤ 2560) {K i : Int} {W : gW} {M : m_M} (hi : 0 ≤ i ∧ i + 5 ≤ (L : Int)) (hK : K ≤ 76000000) (hS : lS s fo x K W M) (hc : cells + 470 ≤ 603072 ∧ slots + 940 ≤ 7186538) (kk : ∀ (W2 : gW) (M2 : m_M), lS s fo x (K + 63600) W2 M2 → m_W D aC s 10 p l e room_1 s m args below meth c (cells + 470) (slots + 940) Q 2889 (lL i x b) [] M2) : m_W D aC s 10 p l e room_1 s m args below meth c cells slots Q 288 (lL i x b) [] M := by
  obtain ⟨hG, ⟨th, hD⟩, ⟨f1, hO1⟩, ⟨f2, hO2⟩, hI⟩ := hS
  have hx := hG.1.2.2
  refine m_aload_n C 4 dL_law_288 rfl rfl ?_
  refine m_aload_n C 5 dL_law_289 rfl rfl ?_
  refine m_iload C 0 dL_law_290 rfl ?_
  refine m_iconst C dL_law_292 ?_
  refine m_iadd C dL_law_293 ?_
  refine m_sld C hXs hbl dL_law_294 (by omega) hL ?_
  refine m_aload_n C 2 dL_law_295 rfl rfl ?_
  refine m_callSW C (w_addGoblin hF hl hNC hG (o1 := x + 248) (by omega) hO1 (hM := C_addGoblin hF hl hJ hX hG hI (by omega) (m_rng _))) dL_law_296 kw_L_addGoblin kS_L_159 rfl rfl (Nat.le_of_ble_eq_true rfl) ⟨(Nat.le_of_ble_eq_true rfl), (Nat.le_of_ble_eq_true rfl)⟩ ⟨by show _ ≤ 603072; omega, by show _ ≤ 7186538; omega⟩ (fun v9 M1 h9 => ?_)
  obtain ⟨rfl, hr5, hv1, ⟨f3, hO3⟩, hG1, hf1⟩ := h9
  refine m_istore C dL_law_299 (by decide) rfl ?_
  have hD1 := hD.keep (M2 := M1) (fun q q1 q2 => hf1.2 q (by omega) (by omega) (by omega))
  obtain ⟨fs1, hob1⟩ := hD1.ob
  refine m_aload_n C 4 dL_law_301 rfl rfl ?_
  refine m_aload_n C 6 dL_law_302 rfl rfl ?_
  refine m_iload C 1 dL_law_303 rfl ?_
  refine m_iconst C dL_law_305 ?_
  refine m_iadd C dL_law_306 ?_
  refine m_sld C hXs hbl dL_law_307 (by omega) hL ?_
  refine m_callV C (R_addGoblin hF hl hJ hN hD1 (by omega) hI (by omega) hG.tx hG.ot (m_rng _)) dL_law_308 kc_X10_addGoblin kV_L_164 hob1 rfl rfl rfl rfl (Nat.le_of_ble_eq_true rfl) ⟨(Nat.le_of_ble_eq_true rfl), (Nat.le_of_ble_eq_true rfl)⟩ ⟨by show _ ≤ 603072; omega, by show _ ≤ 7186538; omega⟩ m_nox (fun v9 M2 h9 => ?_)
  obtain ⟨z, rfl, hz, hD2, hf2⟩ := h9
  refine m_istore C dL_law_311 (by decide) rfl ?_
  have hI2 : lI (K + 63600) (kW (S_addGoblin W.1 (xs (i + 1).toNat).toInt) W) := ((hI.ch (S_addGoblin_I hI.1 (xs (i + 1).toNat).toInt) (S_addGoblin_ok (hI.B (by omega)) (xs (i + 1).toNat).toInt)).mono (by omega))
  have hkk := m_W_k (kk (kW (S_addGoblin W.1 (xs (i + 1).toNat).toInt) W) M2 ⟨hG1.mfr hf2, ⟨_, hD2⟩, ⟨f3, (hf2.2 _ (by omega)).trans hO3⟩, ⟨f2, (hf2.2 _ (by omega)).trans ((hf1.2 _ (by omega) (by omega) (by omega)).trans hO2)⟩, hI2⟩)
  exact m_tail hF hl C hx hD2 hI2 (by omega) hr5 hz (fun z0 => (hf2.2 _ (by omega)).trans (hv1 z0)) ⟨by omega, by omega⟩ dL_law_313 dL_law_314 dL_law_317 dL_law_319 dL_law_324 dL_law_326 dL_law_329 dL_law_330 dL_law_331 dL_law_332 dL_law_334 dL_law_335 dL_law_336 dL_law_341 (by decide) hkk
set_option maxHeartbeats 2000000 in
theorem L_addBroom (hF : m_F D aC s) (hl : l.stackTraces = false) (hJ : m_J s fo ks vs fA sA dO dT) (hX : m_TH s) (hN : m_NM s sa va) (hNC : m_NC s) (C : m_C D aC s RL cL_law 10 l p s m args meth c) {b L x : Nat} {xs : Nat → Int32} (hXs : va_X b L xs s s.heap) (hbl : b < s.heap.size) (hL : L ≤ 2560) {K i : Int} {W : gW} {M : m_M} (hi : 0 ≤ i ∧ i + 5 ≤ (L : Int)) (hK : K ≤ 76000000) (hS : lS s fo x K W M) (hc : cells + 470 ≤ 603072 ∧ slots + 940 ≤ 7186538) (kk : ∀ (W2 : gW) (M2 : m_M), lS s fo x (K + 63600) W2 M2 → m_W D aC s 10 p l e room_1 s m args below meth c (cells + 470) (slots + 940) Q 2889 (lL i x b) [] M2) : m_W D aC s 10 p l e room_1 s m args below meth c cells slots Q 344 (lL i x b) [] M := by
  obtain ⟨hG, ⟨th, hD⟩, ⟨f1, hO1⟩, ⟨f2, hO2⟩, hI⟩ := hS
  have hx := hG.1.2.2
  refine m_aload_n C 4 dL_law_344 rfl rfl ?_
  refine m_aload_n C 5 dL_law_345 rfl rfl ?_
  refine m_iload C 0 dL_law_346 rfl ?_
  refine m_iconst C dL_law_348 ?_
  refine m_iadd C dL_law_349 ?_
  refine m_sld C hXs hbl dL_law_350 (by omega) hL ?_
  refine m_aload_n C 2 dL_law_351 rfl rfl ?_
  refine m_callSW C (w_addBroom hF hl hNC hG (o1 := x + 248) (by omega) hO1 (hM := C_addBroom hF hl hJ hX hG hI (by omega) (m_rng _))) dL_law_352 kw_L_addBroom kS_L_168 rfl rfl (Nat.le_of_ble_eq_true rfl) ⟨(Nat.le_of_ble_eq_true rfl), (Nat.le_of_ble_eq_true rfl)⟩ ⟨by show _ ≤ 603072; omega, by show _ ≤ 7186538; omega⟩ (fun v9 M1 h9 => ?_)
  obtain ⟨rfl, hr5, hv1, ⟨f3, hO3⟩, hG1, hf1⟩ := h9
  refine m_istore C dL_law_355 (by decide) rfl ?_
  have hD1 := hD.keep (M2 := M1) (fun q q1 q2 => hf1.2 q (by omega) (by omega) (by omega))
  obtain ⟨fs1, hob1⟩ := hD1.ob
  refine m_aload_n C 4 dL_law_357 rfl rfl ?_
  refine m_aload_n C 6 dL_law_358 rfl rfl ?_
  refine m_iload C 1 dL_law_359 rfl ?_
  refine m_iconst C dL_law_361 ?_
  refine m_iadd C dL_law_362 ?_
  refine m_sld C hXs hbl dL_law_363 (by omega) hL ?_
  refine m_callV C (R_addBroom hF hl hJ hN hD1 (by omega) hI (by omega) hG.tx hG.ot (m_rng _)) dL_law_364 kc_X10_addBroom kV_L_170 hob1 rfl rfl rfl rfl (Nat.le_of_ble_eq_true rfl) ⟨(Nat.le_of_ble_eq_true rfl), (Nat.le_of_ble_eq_true rfl)⟩ ⟨by show _ ≤ 603072; omega, by show _ ≤ 7186538; omega⟩ m_nox (fun v9 M2 h9 => ?_)
  obtain ⟨z, rfl, hz, hD2, hf2⟩ := h9
  refine m_istore C dL_law_367 (by decide) rfl ?_
  have hI2 : lI (K + 63600) (kW (S_addBroom W.1 (xs (i + 1).toNat).toInt) W) := ((hI.ch (S_addBroom_I hI.1 (xs (i + 1).toNat).toInt) (S_addBroom_ok (hI.B (by omega)) (xs (i + 1).toNat).toInt)).mono (by omega))
  have hkk := m_W_k (kk (kW (S_addBroom W.1 (xs (i + 1).toNat).toInt) W) M2 ⟨hG1.mfr hf2, ⟨_, hD2⟩, ⟨f3, (hf2.2 _ (by omega)).trans hO3⟩, ⟨f2, (hf2.2 _ (by omega)).trans ((hf1.2 _ (by omega) (by omega) (by omega)).trans hO2)⟩, hI2⟩)
  exact m_tail hF hl C hx hD2 hI2 (by omega) hr5 hz (fun z0 => (hf2.2 _ (by omega)).trans (hv1 z0)) ⟨by omega, by omega⟩ dL_law_369 dL_law_370 dL_law_373 dL_law_375 dL_law_380 dL_law_382 dL_law_385 dL_law_386 dL_law_387 dL_law_388 dL_law_390 dL_law_391 dL_law_392 dL_law_397 (by decide) hkk
set_option maxHeartbeats 2000000 in
theorem L_banishBroom (hF : m_F D aC s) (hl : l.stackTraces = false) (hJ : m_J s fo ks vs fA sA dO dT) (hX : m_TH s) (hN : m_NM s sa va) (hNC : m_NC s) (C : m_C D aC s RL cL_law 10 l p s m args meth c) {b L x : Nat} {xs : Nat → Int32} (hXs : va_X b L xs s s.heap) (hbl : b < s.heap.size) (hL : L ≤ 2560) {K i : Int} {W : gW} {M : m_M} (hi : 0 ≤ i ∧ i + 5 ≤ (L : Int)) (hK : K ≤ 76000000) (hS : lS s fo x K W M) (hc : cells + 470 ≤ 603072 ∧ slots + 940 ≤ 7186538) (kk : ∀ (W2 : gW) (M2 : m_M), lS s fo x (K + 63600) W2 M2 → m_W D aC s 10 p l e room_1 s m args below meth c (cells + 470) (slots + 940) Q 2889 (lL i x b) [] M2) : m_W D aC s 10 p l e room_1 s m args below meth c cells slots Q 400 (lL i x b) [] M := by
  obtain ⟨hG, ⟨th, hD⟩, ⟨f1, hO1⟩, ⟨f2, hO2⟩, hI⟩ := hS
  have hx := hG.1.2.2
  refine m_aload_n C 4 dL_law_400 rfl rfl ?_
  refine m_aload_n C 5 dL_law_401 rfl rfl ?_
  refine m_iload C 0 dL_law_402 rfl ?_
  refine m_iconst C dL_law_404 ?_
  refine m_iadd C dL_law_405 ?_
  refine m_sld C hXs hbl dL_law_406 (by omega) hL ?_
  refine m_aload_n C 2 dL_law_407 rfl rfl ?_
  refine m_callSW C (w_banishBroom hF hl hNC hG (o1 := x + 248) (by omega) hO1 (hM := C_banishBroom hF hl hJ hX hG hI (by omega) (m_rng _))) dL_law_408 kw_L_banishBroom kS_L_171 rfl rfl (Nat.le_of_ble_eq_true rfl) ⟨(Nat.le_of_ble_eq_true rfl), (Nat.le_of_ble_eq_true rfl)⟩ ⟨by show _ ≤ 603072; omega, by show _ ≤ 7186538; omega⟩ (fun v9 M1 h9 => ?_)
  obtain ⟨rfl, hr5, hv1, ⟨f3, hO3⟩, hG1, hf1⟩ := h9
  refine m_istore C dL_law_411 (by decide) rfl ?_
  have hD1 := hD.keep (M2 := M1) (fun q q1 q2 => hf1.2 q (by omega) (by omega) (by omega))
  obtain ⟨fs1, hob1⟩ := hD1.ob
  refine m_aload_n C 4 dL_law_413 rfl rfl ?_
  refine m_aload_n C 6 dL_law_414 rfl rfl ?_
  refine m_iload C 1 dL_law_415 rfl ?_
  refine m_iconst C dL_law_417 ?_
  refine m_iadd C dL_law_418 ?_
  refine m_sld C hXs hbl dL_law_419 (by omega) hL ?_
  refine m_callV C (R_banishBroom hF hl hJ hN hD1 (by omega) hI (by omega) hG.tx hG.ot (m_rng _)) dL_law_420 kc_X10_banishBroom kV_L_173 hob1 rfl rfl rfl rfl (Nat.le_of_ble_eq_true rfl) ⟨(Nat.le_of_ble_eq_true rfl), (Nat.le_of_ble_eq_true rfl)⟩ ⟨by show _ ≤ 603072; omega, by show _ ≤ 7186538; omega⟩ m_nox (fun v9 M2 h9 => ?_)
  obtain ⟨z, rfl, hz, hD2, hf2⟩ := h9
  refine m_istore C dL_law_423 (by decide) rfl ?_
  have hI2 : lI (K + 63600) (kW (S_banish W.1 (xs (i + 1).toNat).toInt) W) := ((hI.ch (S_banish_I hI.1 (xs (i + 1).toNat).toInt) (S_banish_ok (hI.B (by omega)) (xs (i + 1).toNat).toInt)).mono (by omega))
  have hkk := m_W_k (kk (kW (S_banish W.1 (xs (i + 1).toNat).toInt) W) M2 ⟨hG1.mfr hf2, ⟨_, hD2⟩, ⟨f3, (hf2.2 _ (by omega)).trans hO3⟩, ⟨f2, (hf2.2 _ (by omega)).trans ((hf1.2 _ (by omega) (by omega) (by omega)).trans hO2)⟩, hI2⟩)
  exact m_tail hF hl C hx hD2 hI2 (by omega) hr5 hz (fun z0 => (hf2.2 _ (by omega)).trans (hv1 z0)) ⟨by omega, by omega⟩ dL_law_425 dL_law_426 dL_law_429 dL_law_431 dL_law_436 dL_law_438 dL_law_441 dL_law_442 dL_law_443 dL_law_444 dL_law_446 dL_law_447 dL_law_448 dL_law_453 (by decide) hkk
set_option maxHeartbeats 2000000 in
theorem L_recallBroom (hF : m_F D aC s) (hl : l.stackTraces = false) (hJ : m_J s fo ks vs fA sA dO dT) (hX : m_TH s) (hN : m_NM s sa va) (hNC : m_NC s) (C : m_C D aC s RL cL_law 10 l p s m args meth c) {b L x : Nat} {xs : Nat → Int32} (hXs : va_X b L xs s s.heap) (hbl : b < s.heap.size) (hL : L ≤ 2560) {K i : Int} {W : gW} {M : m_M} (hi : 0 ≤ i ∧ i + 5 ≤ (L : Int)) (hK : K ≤ 76000000) (hS : lS s fo x K W M) (hc : cells + 470 ≤ 603072 ∧ slots + 940 ≤ 7186538) (kk : ∀ (W2 : gW) (M2 : m_M), lS s fo x (K + 63600) W2 M2 → m_W D aC s 10 p l e room_1 s m args below meth c (cells + 470) (slots + 940) Q 2889 (lL i x b) [] M2) : m_W D aC s 10 p l e room_1 s m args below meth c cells slots Q 456 (lL i x b) [] M := by
  obtain ⟨hG, ⟨th, hD⟩, ⟨f1, hO1⟩, ⟨f2, hO2⟩, hI⟩ := hS
  have hx := hG.1.2.2
  refine m_aload_n C 4 dL_law_456 rfl rfl ?_
  refine m_aload_n C 5 dL_law_457 rfl rfl ?_
  refine m_iload C 0 dL_law_458 rfl ?_
  refine m_iconst C dL_law_460 ?_
  refine m_iadd C dL_law_461 ?_
  refine m_sld C hXs hbl dL_law_462 (by omega) hL ?_
  refine m_aload_n C 2 dL_law_463 rfl rfl ?_
  refine m_callSW C (w_recallBroom hF hl hNC hG (o1 := x + 248) (by omega) hO1 (hM := C_recallBroom hF hl hJ hX hG hI (by omega) (m_rng _))) dL_law_464 kw_L_recallBroom kS_L_174 rfl rfl (Nat.le_of_ble_eq_true rfl) ⟨(Nat.le_of_ble_eq_true rfl), (Nat.le_of_ble_eq_true rfl)⟩ ⟨by show _ ≤ 603072; omega, by show _ ≤ 7186538; omega⟩ (fun v9 M1 h9 => ?_)
  obtain ⟨rfl, hr5, hv1, ⟨f3, hO3⟩, hG1, hf1⟩ := h9
  refine m_istore C dL_law_467 (by decide) rfl ?_
  have hD1 := hD.keep (M2 := M1) (fun q q1 q2 => hf1.2 q (by omega) (by omega) (by omega))
  obtain ⟨fs1, hob1⟩ := hD1.ob
  refine m_aload_n C 4 dL_law_469 rfl rfl ?_
  refine m_aload_n C 6 dL_law_470 rfl rfl ?_
  refine m_iload C 1 dL_law_471 rfl ?_
  refine m_iconst C dL_law_473 ?_
  refine m_iadd C dL_law_474 ?_
  refine m_sld C hXs hbl dL_law_475 (by omega) hL ?_
  refine m_callV C (R_recallBroom hF hl hJ hN hD1 (by omega) hI (by omega) hG.tx hG.ot (m_rng _)) dL_law_476 kc_X10_recallBroom kV_L_176 hob1 rfl rfl rfl rfl (Nat.le_of_ble_eq_true rfl) ⟨(Nat.le_of_ble_eq_true rfl), (Nat.le_of_ble_eq_true rfl)⟩ ⟨by show _ ≤ 603072; omega, by show _ ≤ 7186538; omega⟩ m_nox (fun v9 M2 h9 => ?_)
  obtain ⟨z, rfl, hz, hD2, hf2⟩ := h9
  refine m_istore C dL_law_479 (by decide) rfl ?_
  have hI2 : lI (K + 63600) (kW (S_recall W.1 (xs (i + 1).toNat).toInt) W) := ((hI.ch (S_recall_I hI.1 (xs (i + 1).toNat).toInt) (S_recall_ok (hI.B (by omega)) (xs (i + 1).toNat).toInt)).mono (by omega))
  have hkk := m_W_k (kk (kW (S_recall W.1 (xs (i + 1).toNat).toInt) W) M2 ⟨hG1.mfr hf2, ⟨_, hD2⟩, ⟨f3, (hf2.2 _ (by omega)).trans hO3⟩, ⟨f2, (hf2.2 _ (by omega)).trans ((hf1.2 _ (by omega) (by omega) (by omega)).trans hO2)⟩, hI2⟩)
  exact m_tail hF hl C hx hD2 hI2 (by omega) hr5 hz (fun z0 => (hf2.2 _ (by omega)).trans (hv1 z0)) ⟨by omega, by omega⟩ dL_law_481 dL_law_482 dL_law_485 dL_law_487 dL_law_492 dL_law_494 dL_law_497 dL_law_498 dL_law_499 dL_law_500 dL_law_502 dL_law_503 dL_law_504 dL_law_509 (by decide) hkk
set_option maxHeartbeats 2000000 in
theorem L_hire (hF : m_F D aC s) (hl : l.stackTraces = false) (hJ : m_J s fo ks vs fA sA dO dT) (hX : m_TH s) (hN : m_NM s sa va) (hNC : m_NC s) (C : m_C D aC s RL cL_law 10 l p s m args meth c) {b L x : Nat} {xs : Nat → Int32} (hXs : va_X b L xs s s.heap) (hbl : b < s.heap.size) (hL : L ≤ 2560) {K i : Int} {W : gW} {M : m_M} (hi : 0 ≤ i ∧ i + 5 ≤ (L : Int)) (hK : K ≤ 76000000) (hS : lS s fo x K W M) (hc : cells + 470 ≤ 603072 ∧ slots + 940 ≤ 7186538) (kk : ∀ (W2 : gW) (M2 : m_M), lS s fo x (K + 63600) W2 M2 → m_W D aC s 10 p l e room_1 s m args below meth c (cells + 470) (slots + 940) Q 2889 (lL i x b) [] M2) : m_W D aC s 10 p l e room_1 s m args below meth c cells slots Q 512 (lL i x b) [] M := by
  obtain ⟨hG, ⟨th, hD⟩, ⟨f1, hO1⟩, ⟨f2, hO2⟩, hI⟩ := hS
  have hx := hG.1.2.2
  refine m_aload_n C 4 dL_law_512 rfl rfl ?_
  refine m_aload_n C 5 dL_law_513 rfl rfl ?_
  refine m_iload C 0 dL_law_514 rfl ?_
  refine m_iconst C dL_law_516 ?_
  refine m_iadd C dL_law_517 ?_
  refine m_sld C hXs hbl dL_law_518 (by omega) hL ?_
  refine m_aload_n C 5 dL_law_519 rfl rfl ?_
  refine m_iload C 0 dL_law_520 rfl ?_
  refine m_iconst C dL_law_522 ?_
  refine m_iadd C dL_law_523 ?_
  refine m_sld C hXs hbl dL_law_524 (by omega) hL ?_
  refine m_aload_n C 5 dL_law_525 rfl rfl ?_
  refine m_iload C 0 dL_law_526 rfl ?_
  refine m_iconst C dL_law_528 ?_
  refine m_iadd C dL_law_529 ?_
  refine m_sld C hXs hbl dL_law_530 (by omega) hL ?_
  refine m_aload_n C 5 dL_law_531 rfl rfl ?_
  refine m_iload C 0 dL_law_532 rfl ?_
  refine m_iconst C dL_law_534 ?_
  refine m_iadd C dL_law_535 ?_
  refine m_sld C hXs hbl dL_law_536 (by omega) hL ?_
  refine m_aload_n C 2 dL_law_537 rfl rfl ?_
  refine m_callSW C (w_hire hF hl hNC hG (o1 := x + 248) (by omega) hO1 (hM := C_hire hF hl hJ hX hG hI (by omega) (m_rng _) (m_rng _) (m_rng _) (m_rng _))) dL_law_538 kw_L_hire kS_L_177 rfl rfl (Nat.le_of_ble_eq_true rfl) ⟨(Nat.le_of_ble_eq_true rfl), (Nat.le_of_ble_eq_true rfl)⟩ ⟨by show _ ≤ 603072; omega, by show _ ≤ 7186538; omega⟩ (fun v9 M1 h9 => ?_)
  obtain ⟨rfl, hr5, hv1, ⟨f3, hO3⟩, hG1, hf1⟩ := h9
  refine m_istore C dL_law_541 (by decide) rfl ?_
  have hD1 := hD.keep (M2 := M1) (fun q q1 q2 => hf1.2 q (by omega) (by omega) (by omega))
  obtain ⟨fs1, hob1⟩ := hD1.ob
  refine m_aload_n C 4 dL_law_543 rfl rfl ?_
  refine m_aload_n C 6 dL_law_544 rfl rfl ?_
  refine m_iload C 1 dL_law_545 rfl ?_
  refine m_iconst C dL_law_547 ?_
  refine m_iadd C dL_law_548 ?_
  refine m_sld C hXs hbl dL_law_549 (by omega) hL ?_
  refine m_aload_n C 6 dL_law_550 rfl rfl ?_
  refine m_iload C 1 dL_law_551 rfl ?_
  refine m_iconst C dL_law_553 ?_
  refine m_iadd C dL_law_554 ?_
  refine m_sld C hXs hbl dL_law_555 (by omega) hL ?_
  refine m_aload_n C 6 dL_law_556 rfl rfl ?_
  refine m_iload C 1 dL_law_557 rfl ?_
  refine m_iconst C dL_law_559 ?_
  refine m_iadd C dL_law_560 ?_
  refine m_sld C hXs hbl dL_law_561 (by omega) hL ?_
  refine m_aload_n C 6 dL_law_562 rfl rfl ?_
  refine m_iload C 1 dL_law_563 rfl ?_
  refine m_iconst C dL_law_565 ?_
  refine m_iadd C dL_law_566 ?_
  refine m_sld C hXs hbl dL_law_567 (by omega) hL ?_
  refine m_callV C (R_hire hF hl hJ hN hD1 (by omega) hI (by omega) hG.tx hG.ot (m_rng _) (m_rng _) (m_rng _) (m_rng _)) dL_law_568 kc_X10_hire kV_L_180 hob1 rfl rfl rfl rfl (Nat.le_of_ble_eq_true rfl) ⟨(Nat.le_of_ble_eq_true rfl), (Nat.le_of_ble_eq_true rfl)⟩ ⟨by show _ ≤ 603072; omega, by show _ ≤ 7186538; omega⟩ m_nox (fun v9 M2 h9 => ?_)
  obtain ⟨z, rfl, hz, hD2, hf2⟩ := h9
  refine m_istore C dL_law_571 (by decide) rfl ?_
  have hI2 : lI (K + 63600) (kW (S_hire W.1 (xs (i + 1).toNat).toInt (xs (i + 2).toNat).toInt (xs (i + 3).toNat).toInt (xs (i + 4).toNat).toInt) W) := ((hI.ch (S_hire_I hI.1 (xs (i + 1).toNat).toInt (xs (i + 2).toNat).toInt (xs (i + 3).toNat).toInt (xs (i + 4).toNat).toInt) (S_hire_ok (hI.B (by omega)) (xs (i + 1).toNat).toInt (xs (i + 2).toNat).toInt (xs (i + 3).toNat).toInt (xs (i + 4).toNat).toInt)).mono (by omega))
  have hkk := m_W_k (kk (kW (S_hire W.1 (xs (i + 1).toNat).toInt (xs (i + 2).toNat).toInt (xs (i + 3).toNat).toInt (xs (i + 4).toNat).toInt) W) M2 ⟨hG1.mfr hf2, ⟨_, hD2⟩, ⟨f3, (hf2.2 _ (by omega)).trans hO3⟩, ⟨f2, (hf2.2 _ (by omega)).trans ((hf1.2 _ (by omega) (by omega) (by omega)).trans hO2)⟩, hI2⟩)
  exact m_tail hF hl C hx hD2 hI2 (by omega) hr5 hz (fun z0 => (hf2.2 _ (by omega)).trans (hv1 z0)) ⟨by omega, by omega⟩ dL_law_573 dL_law_574 dL_law_577 dL_law_579 dL_law_584 dL_law_586 dL_law_589 dL_law_590 dL_law_591 dL_law_592 dL_law_594 dL_law_595 dL_law_596 dL_law_601 (by decide) hkk
set_option maxHeartbeats 2000000 in
theorem L_cancelContract (hF : m_F D aC s) (hl : l.stackTraces = false) (hJ : m_J s fo ks vs fA sA dO dT) (hX : m_TH s) (hN : m_NM s sa va) (hNC : m_NC s) (C : m_C D aC s RL cL_law 10 l p s m args meth c) {b L x : Nat} {xs : Nat → Int32} (hXs : va_X b L xs s s.heap) (hbl : b < s.heap.size) (hL : L ≤ 2560) {K i : Int} {W : gW} {M : m_M} (hi : 0 ≤ i ∧ i + 5 ≤ (L : Int)) (hK : K ≤ 76000000) (hS : lS s fo x K W M) (hc : cells + 470 ≤ 603072 ∧ slots + 940 ≤ 7186538) (kk : ∀ (W2 : gW) (M2 : m_M), lS s fo x (K + 63600) W2 M2 → m_W D aC s 10 p l e room_1 s m args below meth c (cells + 470) (slots + 940) Q 2889 (lL i x b) [] M2) : m_W D aC s 10 p l e room_1 s m args below meth c cells slots Q 604 (lL i x b) [] M := by
  obtain ⟨hG, ⟨th, hD⟩, ⟨f1, hO1⟩, ⟨f2, hO2⟩, hI⟩ := hS
  have hx := hG.1.2.2
  refine m_aload_n C 4 dL_law_604 rfl rfl ?_
  refine m_aload_n C 5 dL_law_605 rfl rfl ?_
  refine m_iload C 0 dL_law_606 rfl ?_
  refine m_iconst C dL_law_608 ?_
  refine m_iadd C dL_law_609 ?_
  refine m_sld C hXs hbl dL_law_610 (by omega) hL ?_
  refine m_aload_n C 2 dL_law_611 rfl rfl ?_
  refine m_callSW C (w_cancelContract hF hl hNC hG (o1 := x + 248) (by omega) hO1 (hM := C_cancelContract hF hl hJ hX hG hI (by omega) (m_rng _))) dL_law_612 kw_L_cancelContract kS_L_181 rfl rfl (Nat.le_of_ble_eq_true rfl) ⟨(Nat.le_of_ble_eq_true rfl), (Nat.le_of_ble_eq_true rfl)⟩ ⟨by show _ ≤ 603072; omega, by show _ ≤ 7186538; omega⟩ (fun v9 M1 h9 => ?_)
  obtain ⟨rfl, hr5, hv1, ⟨f3, hO3⟩, hG1, hf1⟩ := h9
  refine m_istore C dL_law_615 (by decide) rfl ?_
  have hD1 := hD.keep (M2 := M1) (fun q q1 q2 => hf1.2 q (by omega) (by omega) (by omega))
  obtain ⟨fs1, hob1⟩ := hD1.ob
  refine m_aload_n C 4 dL_law_617 rfl rfl ?_
  refine m_aload_n C 6 dL_law_618 rfl rfl ?_
  refine m_iload C 1 dL_law_619 rfl ?_
  refine m_iconst C dL_law_621 ?_
  refine m_iadd C dL_law_622 ?_
  refine m_sld C hXs hbl dL_law_623 (by omega) hL ?_
  refine m_callV C (R_cancelContract hF hl hJ hN hD1 (by omega) hI (by omega) hG.tx hG.ot (m_rng _)) dL_law_624 kc_X10_cancelContract kV_L_183 hob1 rfl rfl rfl rfl (Nat.le_of_ble_eq_true rfl) ⟨(Nat.le_of_ble_eq_true rfl), (Nat.le_of_ble_eq_true rfl)⟩ ⟨by show _ ≤ 603072; omega, by show _ ≤ 7186538; omega⟩ m_nox (fun v9 M2 h9 => ?_)
  obtain ⟨z, rfl, hz, hD2, hf2⟩ := h9
  refine m_istore C dL_law_627 (by decide) rfl ?_
  have hI2 : lI (K + 63600) (kW (S_cancel W.1 (xs (i + 1).toNat).toInt) W) := ((hI.ch (S_cancel_I hI.1 (xs (i + 1).toNat).toInt) (S_cancel_ok (hI.B (by omega)) (xs (i + 1).toNat).toInt)).mono (by omega))
  have hkk := m_W_k (kk (kW (S_cancel W.1 (xs (i + 1).toNat).toInt) W) M2 ⟨hG1.mfr hf2, ⟨_, hD2⟩, ⟨f3, (hf2.2 _ (by omega)).trans hO3⟩, ⟨f2, (hf2.2 _ (by omega)).trans ((hf1.2 _ (by omega) (by omega) (by omega)).trans hO2)⟩, hI2⟩)
  exact m_tail hF hl C hx hD2 hI2 (by omega) hr5 hz (fun z0 => (hf2.2 _ (by omega)).trans (hv1 z0)) ⟨by omega, by omega⟩ dL_law_629 dL_law_630 dL_law_633 dL_law_635 dL_law_640 dL_law_642 dL_law_645 dL_law_646 dL_law_647 dL_law_648 dL_law_650 dL_law_651 dL_law_652 dL_law_657 (by decide) hkk
set_option maxHeartbeats 2000000 in
theorem L_rest (hF : m_F D aC s) (hl : l.stackTraces = false) (hJ : m_J s fo ks vs fA sA dO dT) (hX : m_TH s) (hN : m_NM s sa va) (hNC : m_NC s) (C : m_C D aC s RL cL_law 10 l p s m args meth c) {b L x : Nat} {xs : Nat → Int32} (hXs : va_X b L xs s s.heap) (hbl : b < s.heap.size) (hL : L ≤ 2560) {K i : Int} {W : gW} {M : m_M} (hi : 0 ≤ i ∧ i + 5 ≤ (L : Int)) (hK : K ≤ 76000000) (hS : lS s fo x K W M) (hc : cells + 470 ≤ 603072 ∧ slots + 940 ≤ 7186538) (kk : ∀ (W2 : gW) (M2 : m_M), lS s fo x (K + 63600) W2 M2 → m_W D aC s 10 p l e room_1 s m args below meth c (cells + 470) (slots + 940) Q 2889 (lL i x b) [] M2) : m_W D aC s 10 p l e room_1 s m args below meth c cells slots Q 660 (lL i x b) [] M := by
  obtain ⟨hG, ⟨th, hD⟩, ⟨f1, hO1⟩, ⟨f2, hO2⟩, hI⟩ := hS
  have hx := hG.1.2.2
  refine m_aload_n C 4 dL_law_660 rfl rfl ?_
  refine m_aload_n C 5 dL_law_661 rfl rfl ?_
  refine m_iload C 0 dL_law_662 rfl ?_
  refine m_iconst C dL_law_664 ?_
  refine m_iadd C dL_law_665 ?_
  refine m_sld C hXs hbl dL_law_666 (by omega) hL ?_
  refine m_aload_n C 2 dL_law_667 rfl rfl ?_
  refine m_callSW C (w_rest hF hl hNC hG (o1 := x + 248) (by omega) hO1 (hM := C_rest hF hl hJ hX hG hI (by omega) (m_rng _))) dL_law_668 kw_L_rest kS_L_184 rfl rfl (Nat.le_of_ble_eq_true rfl) ⟨(Nat.le_of_ble_eq_true rfl), (Nat.le_of_ble_eq_true rfl)⟩ ⟨by show _ ≤ 603072; omega, by show _ ≤ 7186538; omega⟩ (fun v9 M1 h9 => ?_)
  obtain ⟨rfl, hr5, hv1, ⟨f3, hO3⟩, hG1, hf1⟩ := h9
  refine m_istore C dL_law_671 (by decide) rfl ?_
  have hD1 := hD.keep (M2 := M1) (fun q q1 q2 => hf1.2 q (by omega) (by omega) (by omega))
  obtain ⟨fs1, hob1⟩ := hD1.ob
  refine m_aload_n C 4 dL_law_673 rfl rfl ?_
  refine m_aload_n C 6 dL_law_674 rfl rfl ?_
  refine m_iload C 1 dL_law_675 rfl ?_
  refine m_iconst C dL_law_677 ?_
  refine m_iadd C dL_law_678 ?_
  refine m_sld C hXs hbl dL_law_679 (by omega) hL ?_
  refine m_callV C (R_rest hF hl hJ hN hD1 (by omega) hI (by omega) hG.tx hG.ot (m_rng _)) dL_law_680 kc_X10_rest kV_L_186 hob1 rfl rfl rfl rfl (Nat.le_of_ble_eq_true rfl) ⟨(Nat.le_of_ble_eq_true rfl), (Nat.le_of_ble_eq_true rfl)⟩ ⟨by show _ ≤ 603072; omega, by show _ ≤ 7186538; omega⟩ m_nox (fun v9 M2 h9 => ?_)
  obtain ⟨z, rfl, hz, hD2, hf2⟩ := h9
  refine m_istore C dL_law_683 (by decide) rfl ?_
  have hI2 : lI (K + 63600) (kW (S_rest W.1 (xs (i + 1).toNat).toInt) W) := ((hI.ch (S_rest_I hI.1 (xs (i + 1).toNat).toInt) (S_rest_ok (hI.B (by omega)) (xs (i + 1).toNat).toInt)).mono (by omega))
  have hkk := m_W_k (kk (kW (S_rest W.1 (xs (i + 1).toNat).toInt) W) M2 ⟨hG1.mfr hf2, ⟨_, hD2⟩, ⟨f3, (hf2.2 _ (by omega)).trans hO3⟩, ⟨f2, (hf2.2 _ (by omega)).trans ((hf1.2 _ (by omega) (by omega) (by omega)).trans hO2)⟩, hI2⟩)
  exact m_tail hF hl C hx hD2 hI2 (by omega) hr5 hz (fun z0 => (hf2.2 _ (by omega)).trans (hv1 z0)) ⟨by omega, by omega⟩ dL_law_685 dL_law_686 dL_law_689 dL_law_691 dL_law_696 dL_law_698 dL_law_701 dL_law_702 dL_law_703 dL_law_704 dL_law_706 dL_law_707 dL_law_708 dL_law_713 (by decide) hkk
set_option maxHeartbeats 2000000 in
theorem L_wake (hF : m_F D aC s) (hl : l.stackTraces = false) (hJ : m_J s fo ks vs fA sA dO dT) (hX : m_TH s) (hN : m_NM s sa va) (hNC : m_NC s) (C : m_C D aC s RL cL_law 10 l p s m args meth c) {b L x : Nat} {xs : Nat → Int32} (hXs : va_X b L xs s s.heap) (hbl : b < s.heap.size) (hL : L ≤ 2560) {K i : Int} {W : gW} {M : m_M} (hi : 0 ≤ i ∧ i + 5 ≤ (L : Int)) (hK : K ≤ 76000000) (hS : lS s fo x K W M) (hc : cells + 470 ≤ 603072 ∧ slots + 940 ≤ 7186538) (kk : ∀ (W2 : gW) (M2 : m_M), lS s fo x (K + 63600) W2 M2 → m_W D aC s 10 p l e room_1 s m args below meth c (cells + 470) (slots + 940) Q 2889 (lL i x b) [] M2) : m_W D aC s 10 p l e room_1 s m args below meth c cells slots Q 716 (lL i x b) [] M := by
  obtain ⟨hG, ⟨th, hD⟩, ⟨f1, hO1⟩, ⟨f2, hO2⟩, hI⟩ := hS
  have hx := hG.1.2.2
  refine m_aload_n C 4 dL_law_716 rfl rfl ?_
  refine m_aload_n C 5 dL_law_717 rfl rfl ?_
  refine m_iload C 0 dL_law_718 rfl ?_
  refine m_iconst C dL_law_720 ?_
  refine m_iadd C dL_law_721 ?_
  refine m_sld C hXs hbl dL_law_722 (by omega) hL ?_
  refine m_aload_n C 2 dL_law_723 rfl rfl ?_
  refine m_callSW C (w_wake hF hl hNC hG (o1 := x + 248) (by omega) hO1 (hM := C_wake hF hl hJ hX hG hI (by omega) (m_rng _))) dL_law_724 kw_L_wake kS_L_187 rfl rfl (Nat.le_of_ble_eq_true rfl) ⟨(Nat.le_of_ble_eq_true rfl), (Nat.le_of_ble_eq_true rfl)⟩ ⟨by show _ ≤ 603072; omega, by show _ ≤ 7186538; omega⟩ (fun v9 M1 h9 => ?_)
  obtain ⟨rfl, hr5, hv1, ⟨f3, hO3⟩, hG1, hf1⟩ := h9
  refine m_istore C dL_law_727 (by decide) rfl ?_
  have hD1 := hD.keep (M2 := M1) (fun q q1 q2 => hf1.2 q (by omega) (by omega) (by omega))
  obtain ⟨fs1, hob1⟩ := hD1.ob
  refine m_aload_n C 4 dL_law_729 rfl rfl ?_
  refine m_aload_n C 6 dL_law_730 rfl rfl ?_
  refine m_iload C 1 dL_law_731 rfl ?_
  refine m_iconst C dL_law_733 ?_
  refine m_iadd C dL_law_734 ?_
  refine m_sld C hXs hbl dL_law_735 (by omega) hL ?_
  refine m_callV C (R_wake hF hl hJ hN hD1 (by omega) hI (by omega) hG.tx hG.ot (m_rng _)) dL_law_736 kc_X10_wake kV_L_189 hob1 rfl rfl rfl rfl (Nat.le_of_ble_eq_true rfl) ⟨(Nat.le_of_ble_eq_true rfl), (Nat.le_of_ble_eq_true rfl)⟩ ⟨by show _ ≤ 603072; omega, by show _ ≤ 7186538; omega⟩ m_nox (fun v9 M2 h9 => ?_)
  obtain ⟨z, rfl, hz, hD2, hf2⟩ := h9
  refine m_istore C dL_law_739 (by decide) rfl ?_
  have hI2 : lI (K + 63600) (kW (S_wake W.1 (xs (i + 1).toNat).toInt) W) := ((hI.ch (S_wake_I hI.1 (xs (i + 1).toNat).toInt) (S_wake_ok (hI.B (by omega)) (xs (i + 1).toNat).toInt)).mono (by omega))
  have hkk := m_W_k (kk (kW (S_wake W.1 (xs (i + 1).toNat).toInt) W) M2 ⟨hG1.mfr hf2, ⟨_, hD2⟩, ⟨f3, (hf2.2 _ (by omega)).trans hO3⟩, ⟨f2, (hf2.2 _ (by omega)).trans ((hf1.2 _ (by omega) (by omega) (by omega)).trans hO2)⟩, hI2⟩)
  exact m_tail hF hl C hx hD2 hI2 (by omega) hr5 hz (fun z0 => (hf2.2 _ (by omega)).trans (hv1 z0)) ⟨by omega, by omega⟩ dL_law_741 dL_law_742 dL_law_745 dL_law_747 dL_law_752 dL_law_754 dL_law_757 dL_law_758 dL_law_759 dL_law_760 dL_law_762 dL_law_763 dL_law_764 dL_law_769 (by decide) hkk
set_option maxHeartbeats 2000000 in
theorem L_lend (hF : m_F D aC s) (hl : l.stackTraces = false) (hJ : m_J s fo ks vs fA sA dO dT) (hX : m_TH s) (hN : m_NM s sa va) (hNC : m_NC s) (C : m_C D aC s RL cL_law 10 l p s m args meth c) {b L x : Nat} {xs : Nat → Int32} (hXs : va_X b L xs s s.heap) (hbl : b < s.heap.size) (hL : L ≤ 2560) {K i : Int} {W : gW} {M : m_M} (hi : 0 ≤ i ∧ i + 5 ≤ (L : Int)) (hK : K ≤ 76000000) (hS : lS s fo x K W M) (hc : cells + 470 ≤ 603072 ∧ slots + 940 ≤ 7186538) (kk : ∀ (W2 : gW) (M2 : m_M), lS s fo x (K + 63600) W2 M2 → m_W D aC s 10 p l e room_1 s m args below meth c (cells + 470) (slots + 940) Q 2889 (lL i x b) [] M2) : m_W D aC s 10 p l e room_1 s m args below meth c cells slots Q 772 (lL i x b) [] M := by
  obtain ⟨hG, ⟨th, hD⟩, ⟨f1, hO1⟩, ⟨f2, hO2⟩, hI⟩ := hS
  have hx := hG.1.2.2
  refine m_aload_n C 4 dL_law_772 rfl rfl ?_
  refine m_aload_n C 5 dL_law_773 rfl rfl ?_
  refine m_iload C 0 dL_law_774 rfl ?_
  refine m_iconst C dL_law_776 ?_
  refine m_iadd C dL_law_777 ?_
  refine m_sld C hXs hbl dL_law_778 (by omega) hL ?_
  refine m_aload_n C 5 dL_law_779 rfl rfl ?_
  refine m_iload C 0 dL_law_780 rfl ?_
  refine m_iconst C dL_law_782 ?_
  refine m_iadd C dL_law_783 ?_
  refine m_sld C hXs hbl dL_law_784 (by omega) hL ?_
  refine m_aload_n C 2 dL_law_785 rfl rfl ?_
  refine m_callSW C (w_lend hF hl hNC hG (o1 := x + 248) (by omega) hO1 (hM := C_lend hF hl hJ hX hG hI (by omega) (m_rng _) (m_rng _))) dL_law_786 kw_L_lend kS_L_190 rfl rfl (Nat.le_of_ble_eq_true rfl) ⟨(Nat.le_of_ble_eq_true rfl), (Nat.le_of_ble_eq_true rfl)⟩ ⟨by show _ ≤ 603072; omega, by show _ ≤ 7186538; omega⟩ (fun v9 M1 h9 => ?_)
  obtain ⟨rfl, hr5, hv1, ⟨f3, hO3⟩, hG1, hf1⟩ := h9
  refine m_istore C dL_law_789 (by decide) rfl ?_
  have hD1 := hD.keep (M2 := M1) (fun q q1 q2 => hf1.2 q (by omega) (by omega) (by omega))
  obtain ⟨fs1, hob1⟩ := hD1.ob
  refine m_aload_n C 4 dL_law_791 rfl rfl ?_
  refine m_aload_n C 6 dL_law_792 rfl rfl ?_
  refine m_iload C 1 dL_law_793 rfl ?_
  refine m_iconst C dL_law_795 ?_
  refine m_iadd C dL_law_796 ?_
  refine m_sld C hXs hbl dL_law_797 (by omega) hL ?_
  refine m_aload_n C 6 dL_law_798 rfl rfl ?_
  refine m_iload C 1 dL_law_799 rfl ?_
  refine m_iconst C dL_law_801 ?_
  refine m_iadd C dL_law_802 ?_
  refine m_sld C hXs hbl dL_law_803 (by omega) hL ?_
  refine m_callV C (R_lend hF hl hJ hN hD1 (by omega) hI (by omega) hG.tx hG.ot (m_rng _) (m_rng _)) dL_law_804 kc_X10_lend kV_L_193 hob1 rfl rfl rfl rfl (Nat.le_of_ble_eq_true rfl) ⟨(Nat.le_of_ble_eq_true rfl), (Nat.le_of_ble_eq_true rfl)⟩ ⟨by show _ ≤ 603072; omega, by show _ ≤ 7186538; omega⟩ m_nox (fun v9 M2 h9 => ?_)
  obtain ⟨z, rfl, hz, hD2, hf2⟩ := h9
  refine m_istore C dL_law_807 (by decide) rfl ?_
  have hI2 : lI (K + 63600) (kW (S_lend W.1 (xs (i + 1).toNat).toInt (xs (i + 2).toNat).toInt) W) := ((hI.ch (S_lend_I hI.1 (xs (i + 1).toNat).toInt (xs (i + 2).toNat).toInt) (S_lend_ok (hI.B (by omega)) (xs (i + 1).toNat).toInt (xs (i + 2).toNat).toInt)).mono (by omega))
  have hkk := m_W_k (kk (kW (S_lend W.1 (xs (i + 1).toNat).toInt (xs (i + 2).toNat).toInt) W) M2 ⟨hG1.mfr hf2, ⟨_, hD2⟩, ⟨f3, (hf2.2 _ (by omega)).trans hO3⟩, ⟨f2, (hf2.2 _ (by omega)).trans ((hf1.2 _ (by omega) (by omega) (by omega)).trans hO2)⟩, hI2⟩)
  exact m_tail hF hl C hx hD2 hI2 (by omega) hr5 hz (fun z0 => (hf2.2 _ (by omega)).trans (hv1 z0)) ⟨by omega, by omega⟩ dL_law_809 dL_law_810 dL_law_813 dL_law_815 dL_law_820 dL_law_822 dL_law_825 dL_law_826 dL_law_827 dL_law_828 dL_law_830 dL_law_831 dL_law_832 dL_law_837 (by decide) hkk
set_option maxHeartbeats 2000000 in
theorem L_fund (hF : m_F D aC s) (hl : l.stackTraces = false) (hJ : m_J s fo ks vs fA sA dO dT) (hX : m_TH s) (hN : m_NM s sa va) (hNC : m_NC s) (C : m_C D aC s RL cL_law 10 l p s m args meth c) {b L x : Nat} {xs : Nat → Int32} (hXs : va_X b L xs s s.heap) (hbl : b < s.heap.size) (hL : L ≤ 2560) {K i : Int} {W : gW} {M : m_M} (hi : 0 ≤ i ∧ i + 5 ≤ (L : Int)) (hK : K ≤ 76000000) (hS : lS s fo x K W M) (hc : cells + 470 ≤ 603072 ∧ slots + 940 ≤ 7186538) (kk : ∀ (W2 : gW) (M2 : m_M), lS s fo x (K + 63600) W2 M2 → m_W D aC s 10 p l e room_1 s m args below meth c (cells + 470) (slots + 940) Q 2889 (lL i x b) [] M2) : m_W D aC s 10 p l e room_1 s m args below meth c cells slots Q 840 (lL i x b) [] M := by
  obtain ⟨hG, ⟨th, hD⟩, ⟨f1, hO1⟩, ⟨f2, hO2⟩, hI⟩ := hS
  have hx := hG.1.2.2
  refine m_aload_n C 4 dL_law_840 rfl rfl ?_
  refine m_aload_n C 5 dL_law_841 rfl rfl ?_
  refine m_iload C 0 dL_law_842 rfl ?_
  refine m_iconst C dL_law_844 ?_
  refine m_iadd C dL_law_845 ?_
  refine m_sld C hXs hbl dL_law_846 (by omega) hL ?_
  refine m_aload_n C 2 dL_law_847 rfl rfl ?_
  refine m_callSW C (w_fund hF hl hNC hG (o1 := x + 248) (by omega) hO1 (hM := C_fund hF hl hJ hX hG hI (by omega) (m_rng _))) dL_law_848 kw_L_fund kS_L_194 rfl rfl (Nat.le_of_ble_eq_true rfl) ⟨(Nat.le_of_ble_eq_true rfl), (Nat.le_of_ble_eq_true rfl)⟩ ⟨by show _ ≤ 603072; omega, by show _ ≤ 7186538; omega⟩ (fun v9 M1 h9 => ?_)
  obtain ⟨rfl, hr5, hv1, ⟨f3, hO3⟩, hG1, hf1⟩ := h9
  refine m_istore C dL_law_851 (by decide) rfl ?_
  have hD1 := hD.keep (M2 := M1) (fun q q1 q2 => hf1.2 q (by omega) (by omega) (by omega))
  obtain ⟨fs1, hob1⟩ := hD1.ob
  refine m_aload_n C 4 dL_law_853 rfl rfl ?_
  refine m_aload_n C 6 dL_law_854 rfl rfl ?_
  refine m_iload C 1 dL_law_855 rfl ?_
  refine m_iconst C dL_law_857 ?_
  refine m_iadd C dL_law_858 ?_
  refine m_sld C hXs hbl dL_law_859 (by omega) hL ?_
  refine m_callV C (R_fund hF hl hJ hN hD1 (by omega) hI (by omega) hG.tx hG.ot (m_rng _)) dL_law_860 kc_X10_fund kV_L_196 hob1 rfl rfl rfl rfl (Nat.le_of_ble_eq_true rfl) ⟨(Nat.le_of_ble_eq_true rfl), (Nat.le_of_ble_eq_true rfl)⟩ ⟨by show _ ≤ 603072; omega, by show _ ≤ 7186538; omega⟩ m_nox (fun v9 M2 h9 => ?_)
  obtain ⟨z, rfl, hz, hD2, hf2⟩ := h9
  refine m_istore C dL_law_863 (by decide) rfl ?_
  have hI2 : lI (K + 63600) (kW (S_fund W.1 (xs (i + 1).toNat).toInt) W) := ((hI.ch (S_fund_I hI.1 (xs (i + 1).toNat).toInt) (S_fund_ok (hI.B (by omega)) (xs (i + 1).toNat).toInt)).mono (by omega))
  have hkk := m_W_k (kk (kW (S_fund W.1 (xs (i + 1).toNat).toInt) W) M2 ⟨hG1.mfr hf2, ⟨_, hD2⟩, ⟨f3, (hf2.2 _ (by omega)).trans hO3⟩, ⟨f2, (hf2.2 _ (by omega)).trans ((hf1.2 _ (by omega) (by omega) (by omega)).trans hO2)⟩, hI2⟩)
  exact m_tail hF hl C hx hD2 hI2 (by omega) hr5 hz (fun z0 => (hf2.2 _ (by omega)).trans (hv1 z0)) ⟨by omega, by omega⟩ dL_law_865 dL_law_866 dL_law_869 dL_law_871 dL_law_876 dL_law_878 dL_law_881 dL_law_882 dL_law_883 dL_law_884 dL_law_886 dL_law_887 dL_law_888 dL_law_893 (by decide) hkk
set_option maxHeartbeats 2000000 in
theorem L_spend (hF : m_F D aC s) (hl : l.stackTraces = false) (hJ : m_J s fo ks vs fA sA dO dT) (hX : m_TH s) (hN : m_NM s sa va) (hNC : m_NC s) (C : m_C D aC s RL cL_law 10 l p s m args meth c) {b L x : Nat} {xs : Nat → Int32} (hXs : va_X b L xs s s.heap) (hbl : b < s.heap.size) (hL : L ≤ 2560) {K i : Int} {W : gW} {M : m_M} (hi : 0 ≤ i ∧ i + 5 ≤ (L : Int)) (hK : K ≤ 76000000) (hS : lS s fo x K W M) (hc : cells + 470 ≤ 603072 ∧ slots + 940 ≤ 7186538) (kk : ∀ (W2 : gW) (M2 : m_M), lS s fo x (K + 63600) W2 M2 → m_W D aC s 10 p l e room_1 s m args below meth c (cells + 470) (slots + 940) Q 2889 (lL i x b) [] M2) : m_W D aC s 10 p l e room_1 s m args below meth c cells slots Q 896 (lL i x b) [] M := by
  obtain ⟨hG, ⟨th, hD⟩, ⟨f1, hO1⟩, ⟨f2, hO2⟩, hI⟩ := hS
  have hx := hG.1.2.2
  refine m_aload_n C 4 dL_law_896 rfl rfl ?_
  refine m_aload_n C 5 dL_law_897 rfl rfl ?_
  refine m_iload C 0 dL_law_898 rfl ?_
  refine m_iconst C dL_law_900 ?_
  refine m_iadd C dL_law_901 ?_
  refine m_sld C hXs hbl dL_law_902 (by omega) hL ?_
  refine m_aload_n C 2 dL_law_903 rfl rfl ?_
  refine m_callSW C (w_spend hF hl hNC hG (o1 := x + 248) (by omega) hO1 (hM := C_spend hF hl hJ hX hG hI (by omega) (m_rng _))) dL_law_904 kw_L_spend kS_L_197 rfl rfl (Nat.le_of_ble_eq_true rfl) ⟨(Nat.le_of_ble_eq_true rfl), (Nat.le_of_ble_eq_true rfl)⟩ ⟨by show _ ≤ 603072; omega, by show _ ≤ 7186538; omega⟩ (fun v9 M1 h9 => ?_)
  obtain ⟨rfl, hr5, hv1, ⟨f3, hO3⟩, hG1, hf1⟩ := h9
  refine m_istore C dL_law_907 (by decide) rfl ?_
  have hD1 := hD.keep (M2 := M1) (fun q q1 q2 => hf1.2 q (by omega) (by omega) (by omega))
  obtain ⟨fs1, hob1⟩ := hD1.ob
  refine m_aload_n C 4 dL_law_909 rfl rfl ?_
  refine m_aload_n C 6 dL_law_910 rfl rfl ?_
  refine m_iload C 1 dL_law_911 rfl ?_
  refine m_iconst C dL_law_913 ?_
  refine m_iadd C dL_law_914 ?_
  refine m_sld C hXs hbl dL_law_915 (by omega) hL ?_
  refine m_callV C (R_spend hF hl hJ hN hD1 (by omega) hI (by omega) hG.tx hG.ot (m_rng _)) dL_law_916 kc_X10_spend kV_L_199 hob1 rfl rfl rfl rfl (Nat.le_of_ble_eq_true rfl) ⟨(Nat.le_of_ble_eq_true rfl), (Nat.le_of_ble_eq_true rfl)⟩ ⟨by show _ ≤ 603072; omega, by show _ ≤ 7186538; omega⟩ m_nox (fun v9 M2 h9 => ?_)
  obtain ⟨z, rfl, hz, hD2, hf2⟩ := h9
  refine m_istore C dL_law_919 (by decide) rfl ?_
  have hI2 : lI (K + 63600) (kW (S_spend W.1 (xs (i + 1).toNat).toInt) W) := ((hI.ch (S_spend_I hI.1 (xs (i + 1).toNat).toInt) (S_spend_ok (hI.B (by omega)) (xs (i + 1).toNat).toInt)).mono (by omega))
  have hkk := m_W_k (kk (kW (S_spend W.1 (xs (i + 1).toNat).toInt) W) M2 ⟨hG1.mfr hf2, ⟨_, hD2⟩, ⟨f3, (hf2.2 _ (by omega)).trans hO3⟩, ⟨f2, (hf2.2 _ (by omega)).trans ((hf1.2 _ (by omega) (by omega) (by omega)).trans hO2)⟩, hI2⟩)
  exact m_tail hF hl C hx hD2 hI2 (by omega) hr5 hz (fun z0 => (hf2.2 _ (by omega)).trans (hv1 z0)) ⟨by omega, by omega⟩ dL_law_921 dL_law_922 dL_law_925 dL_law_927 dL_law_932 dL_law_934 dL_law_937 dL_law_938 dL_law_939 dL_law_940 dL_law_942 dL_law_943 dL_law_944 dL_law_949 (by decide) hkk
set_option maxHeartbeats 2000000 in
theorem L_passNights (hF : m_F D aC s) (hl : l.stackTraces = false) (hJ : m_J s fo ks vs fA sA dO dT) (hX : m_TH s) (hN : m_NM s sa va) (hNC : m_NC s) (C : m_C D aC s RL cL_law 10 l p s m args meth c) {b L x : Nat} {xs : Nat → Int32} (hXs : va_X b L xs s s.heap) (hbl : b < s.heap.size) (hL : L ≤ 2560) {K i : Int} {W : gW} {M : m_M} (hi : 0 ≤ i ∧ i + 5 ≤ (L : Int)) (hK : K ≤ 76000000) (hS : lS s fo x K W M) (hc : cells + 470 ≤ 603072 ∧ slots + 940 ≤ 7186538) (kk : ∀ (W2 : gW) (M2 : m_M), lS s fo x (K + 63600) W2 M2 → m_W D aC s 10 p l e room_1 s m args below meth c (cells + 470) (slots + 940) Q 2889 (lL i x b) [] M2) : m_W D aC s 10 p l e room_1 s m args below meth c cells slots Q 952 (lL i x b) [] M := by
  obtain ⟨hG, ⟨th, hD⟩, ⟨f1, hO1⟩, ⟨f2, hO2⟩, hI⟩ := hS
  have hx := hG.1.2.2
  refine m_aload_n C 4 dL_law_952 rfl rfl ?_
  refine m_aload_n C 5 dL_law_953 rfl rfl ?_
  refine m_iload C 0 dL_law_954 rfl ?_
  refine m_iconst C dL_law_956 ?_
  refine m_iadd C dL_law_957 ?_
  refine m_sld C hXs hbl dL_law_958 (by omega) hL ?_
  refine m_aload_n C 2 dL_law_959 rfl rfl ?_
  refine m_callSW C (w_passNights hF hl hNC hG (o1 := x + 248) (by omega) hO1 (hM := C_passNights hF hl hJ hX hG hI (by omega) (m_rng _))) dL_law_960 kw_L_passNights kS_L_200 rfl rfl (Nat.le_of_ble_eq_true rfl) ⟨(Nat.le_of_ble_eq_true rfl), (Nat.le_of_ble_eq_true rfl)⟩ ⟨by show _ ≤ 603072; omega, by show _ ≤ 7186538; omega⟩ (fun v9 M1 h9 => ?_)
  obtain ⟨rfl, hr5, hv1, ⟨f3, hO3⟩, hG1, hf1⟩ := h9
  refine m_istore C dL_law_963 (by decide) rfl ?_
  have hD1 := hD.keep (M2 := M1) (fun q q1 q2 => hf1.2 q (by omega) (by omega) (by omega))
  obtain ⟨fs1, hob1⟩ := hD1.ob
  refine m_aload_n C 4 dL_law_965 rfl rfl ?_
  refine m_aload_n C 6 dL_law_966 rfl rfl ?_
  refine m_iload C 1 dL_law_967 rfl ?_
  refine m_iconst C dL_law_969 ?_
  refine m_iadd C dL_law_970 ?_
  refine m_sld C hXs hbl dL_law_971 (by omega) hL ?_
  refine m_callV C (R_passNights hF hl hJ hN hD1 (by omega) hI (by omega) hG.tx hG.ot (m_rng _)) dL_law_972 kc_X10_passNights kV_L_202 hob1 rfl rfl rfl rfl (Nat.le_of_ble_eq_true rfl) ⟨(Nat.le_of_ble_eq_true rfl), (Nat.le_of_ble_eq_true rfl)⟩ ⟨by show _ ≤ 603072; omega, by show _ ≤ 7186538; omega⟩ m_nox (fun v9 M2 h9 => ?_)
  obtain ⟨z, rfl, hz, hD2, hf2⟩ := h9
  refine m_istore C dL_law_975 (by decide) rfl ?_
  have hI2 : lI (K + 63600) (kW (S_pass W.1 (xs (i + 1).toNat).toInt) W) := ((hI.ch (S_pass_I hI.1 (xs (i + 1).toNat).toInt) (S_pass_ok hI.1.1 (by omega) (xs (i + 1).toNat).toInt)).mono (by omega))
  have hkk := m_W_k (kk (kW (S_pass W.1 (xs (i + 1).toNat).toInt) W) M2 ⟨hG1.mfr hf2, ⟨_, hD2⟩, ⟨f3, (hf2.2 _ (by omega)).trans hO3⟩, ⟨f2, (hf2.2 _ (by omega)).trans ((hf1.2 _ (by omega) (by omega) (by omega)).trans hO2)⟩, hI2⟩)
  exact m_tail hF hl C hx hD2 hI2 (by omega) hr5 hz (fun z0 => (hf2.2 _ (by omega)).trans (hv1 z0)) ⟨by omega, by omega⟩ dL_law_977 dL_law_978 dL_law_981 dL_law_983 dL_law_988 dL_law_990 dL_law_993 dL_law_994 dL_law_995 dL_law_996 dL_law_998 dL_law_999 dL_law_1000 dL_law_1005 (by decide) hkk
set_option maxHeartbeats 2000000 in
theorem L_dust (hF : m_F D aC s) (hl : l.stackTraces = false) (hJ : m_J s fo ks vs fA sA dO dT) (hX : m_TH s) (hN : m_NM s sa va) (hNC : m_NC s) (C : m_C D aC s RL cL_law 10 l p s m args meth c) {b L x : Nat} {xs : Nat → Int32} (hXs : va_X b L xs s s.heap) (hbl : b < s.heap.size) (hL : L ≤ 2560) {K i : Int} {W : gW} {M : m_M} (hi : 0 ≤ i ∧ i + 5 ≤ (L : Int)) (hK : K ≤ 76000000) (hS : lS s fo x K W M) (hc : cells + 470 ≤ 603072 ∧ slots + 940 ≤ 7186538) (kk : ∀ (W2 : gW) (M2 : m_M), lS s fo x (K + 63600) W2 M2 → m_W D aC s 10 p l e room_1 s m args below meth c (cells + 470) (slots + 940) Q 2889 (lL i x b) [] M2) : m_W D aC s 10 p l e room_1 s m args below meth c cells slots Q 1008 (lL i x b) [] M := by
  obtain ⟨hG, ⟨th, hD⟩, ⟨f1, hO1⟩, ⟨f2, hO2⟩, hI⟩ := hS
  have hx := hG.1.2.2
  refine m_aload_n C 4 dL_law_1008 rfl rfl ?_
  refine m_aload_n C 5 dL_law_1009 rfl rfl ?_
  refine m_iload C 0 dL_law_1010 rfl ?_
  refine m_iconst C dL_law_1012 ?_
  refine m_iadd C dL_law_1013 ?_
  refine m_sld C hXs hbl dL_law_1014 (by omega) hL ?_
  refine m_aload_n C 2 dL_law_1015 rfl rfl ?_
  refine m_callSW C (w_dust hF hl hNC hG (o1 := x + 248) (by omega) hO1 (hM := C_dust hF hl hJ hX hG hI (by omega) (m_rng _))) dL_law_1016 kw_L_dust kS_L_203 rfl rfl (Nat.le_of_ble_eq_true rfl) ⟨(Nat.le_of_ble_eq_true rfl), (Nat.le_of_ble_eq_true rfl)⟩ ⟨by show _ ≤ 603072; omega, by show _ ≤ 7186538; omega⟩ (fun v9 M1 h9 => ?_)
  obtain ⟨rfl, hr5, hv1, ⟨f3, hO3⟩, hG1, hf1⟩ := h9
  refine m_istore C dL_law_1019 (by decide) rfl ?_
  have hD1 := hD.keep (M2 := M1) (fun q q1 q2 => hf1.2 q (by omega) (by omega) (by omega))
  obtain ⟨fs1, hob1⟩ := hD1.ob
  refine m_aload_n C 4 dL_law_1021 rfl rfl ?_
  refine m_aload_n C 6 dL_law_1022 rfl rfl ?_
  refine m_iload C 1 dL_law_1023 rfl ?_
  refine m_iconst C dL_law_1025 ?_
  refine m_iadd C dL_law_1026 ?_
  refine m_sld C hXs hbl dL_law_1027 (by omega) hL ?_
  refine m_callV C (R_dust hF hl hJ hN hD1 (by omega) hI (by omega) hG.tx hG.ot (m_rng _)) dL_law_1028 kc_X10_dust kV_L_205 hob1 rfl rfl rfl rfl (Nat.le_of_ble_eq_true rfl) ⟨(Nat.le_of_ble_eq_true rfl), (Nat.le_of_ble_eq_true rfl)⟩ ⟨by show _ ≤ 603072; omega, by show _ ≤ 7186538; omega⟩ m_nox (fun v9 M2 h9 => ?_)
  obtain ⟨z, rfl, hz, hD2, hf2⟩ := h9
  refine m_istore C dL_law_1031 (by decide) rfl ?_
  have hI2 : lI (K + 63600) (W) := (hI.mono (by omega))
  have hkk := m_W_k (kk (W) M2 ⟨hG1.mfr hf2, ⟨_, hD2⟩, ⟨f3, (hf2.2 _ (by omega)).trans hO3⟩, ⟨f2, (hf2.2 _ (by omega)).trans ((hf1.2 _ (by omega) (by omega) (by omega)).trans hO2)⟩, hI2⟩)
  exact m_tail hF hl C hx hD2 hI2 (by omega) hr5 hz (fun z0 => (hf2.2 _ (by omega)).trans (hv1 z0)) ⟨by omega, by omega⟩ dL_law_1033 dL_law_1034 dL_law_1037 dL_law_1039 dL_law_1044 dL_law_1046 dL_law_1049 dL_law_1050 dL_law_1051 dL_law_1052 dL_law_1054 dL_law_1055 dL_law_1056 dL_law_1061 (by decide) hkk
set_option maxHeartbeats 2000000 in
theorem L_roomByDust (hF : m_F D aC s) (hl : l.stackTraces = false) (hJ : m_J s fo ks vs fA sA dO dT) (hX : m_TH s) (hN : m_NM s sa va) (hNC : m_NC s) (C : m_C D aC s RL cL_law 10 l p s m args meth c) {b L x : Nat} {xs : Nat → Int32} (hXs : va_X b L xs s s.heap) (hbl : b < s.heap.size) (hL : L ≤ 2560) {K i : Int} {W : gW} {M : m_M} (hi : 0 ≤ i ∧ i + 5 ≤ (L : Int)) (hK : K ≤ 76000000) (hS : lS s fo x K W M) (hc : cells + 470 ≤ 603072 ∧ slots + 940 ≤ 7186538) (kk : ∀ (W2 : gW) (M2 : m_M), lS s fo x (K + 63600) W2 M2 → m_W D aC s 10 p l e room_1 s m args below meth c (cells + 470) (slots + 940) Q 2889 (lL i x b) [] M2) : m_W D aC s 10 p l e room_1 s m args below meth c cells slots Q 1064 (lL i x b) [] M := by
  obtain ⟨hG, ⟨th, hD⟩, ⟨f1, hO1⟩, ⟨f2, hO2⟩, hI⟩ := hS
  have hx := hG.1.2.2
  refine m_aload_n C 4 dL_law_1064 rfl rfl ?_
  refine m_aload_n C 5 dL_law_1065 rfl rfl ?_
  refine m_iload C 0 dL_law_1066 rfl ?_
  refine m_iconst C dL_law_1068 ?_
  refine m_iadd C dL_law_1069 ?_
  refine m_sld C hXs hbl dL_law_1070 (by omega) hL ?_
  refine m_aload_n C 2 dL_law_1071 rfl rfl ?_
  refine m_callSW C (w_roomByDust hF hl hNC hG (o1 := x + 248) (by omega) hO1 (hM := C_roomByDust hF hl hJ hX hG hI (by omega) (m_rng _))) dL_law_1072 kw_L_roomByDust kS_L_206 rfl rfl (Nat.le_of_ble_eq_true rfl) ⟨(Nat.le_of_ble_eq_true rfl), (Nat.le_of_ble_eq_true rfl)⟩ ⟨by show _ ≤ 603072; omega, by show _ ≤ 7186538; omega⟩ (fun v9 M1 h9 => ?_)
  obtain ⟨rfl, hr5, hv1, ⟨f3, hO3⟩, hG1, hf1⟩ := h9
  refine m_istore C dL_law_1075 (by decide) rfl ?_
  have hD1 := hD.keep (M2 := M1) (fun q q1 q2 => hf1.2 q (by omega) (by omega) (by omega))
  obtain ⟨fs1, hob1⟩ := hD1.ob
  refine m_aload_n C 4 dL_law_1077 rfl rfl ?_
  refine m_aload_n C 6 dL_law_1078 rfl rfl ?_
  refine m_iload C 1 dL_law_1079 rfl ?_
  refine m_iconst C dL_law_1081 ?_
  refine m_iadd C dL_law_1082 ?_
  refine m_sld C hXs hbl dL_law_1083 (by omega) hL ?_
  refine m_callV C (R_roomByDust hF hl hJ hN hD1 (by omega) hI (by omega) hG.tx hG.ot (m_rng _)) dL_law_1084 kc_X10_roomByDust kV_L_208 hob1 rfl rfl rfl rfl (Nat.le_of_ble_eq_true rfl) ⟨(Nat.le_of_ble_eq_true rfl), (Nat.le_of_ble_eq_true rfl)⟩ ⟨by show _ ≤ 603072; omega, by show _ ≤ 7186538; omega⟩ m_nox (fun v9 M2 h9 => ?_)
  obtain ⟨z, rfl, hz, hD2, hf2⟩ := h9
  refine m_istore C dL_law_1087 (by decide) rfl ?_
  have hI2 : lI (K + 63600) (W) := (hI.mono (by omega))
  have hkk := m_W_k (kk (W) M2 ⟨hG1.mfr hf2, ⟨_, hD2⟩, ⟨f3, (hf2.2 _ (by omega)).trans hO3⟩, ⟨f2, (hf2.2 _ (by omega)).trans ((hf1.2 _ (by omega) (by omega) (by omega)).trans hO2)⟩, hI2⟩)
  exact m_tail hF hl C hx hD2 hI2 (by omega) hr5 hz (fun z0 => (hf2.2 _ (by omega)).trans (hv1 z0)) ⟨by omega, by omega⟩ dL_law_1089 dL_law_1090 dL_law_1093 dL_law_1095 dL_law_1100 dL_law_1102 dL_law_1105 dL_law_1106 dL_law_1107 dL_law_1108 dL_law_1110 dL_law_1111 dL_law_1112 dL_law_1117 (by decide) hkk
set_option maxHeartbeats 2000000 in
theorem L_broomCount (hF : m_F D aC s) (hl : l.stackTraces = false) (hJ : m_J s fo ks vs fA sA dO dT) (hX : m_TH s) (hN : m_NM s sa va) (hNC : m_NC s) (C : m_C D aC s RL cL_law 10 l p s m args meth c) {b L x : Nat} {xs : Nat → Int32} (hXs : va_X b L xs s s.heap) (hbl : b < s.heap.size) (hL : L ≤ 2560) {K i : Int} {W : gW} {M : m_M} (hi : 0 ≤ i ∧ i + 5 ≤ (L : Int)) (hK : K ≤ 76000000) (hS : lS s fo x K W M) (hc : cells + 470 ≤ 603072 ∧ slots + 940 ≤ 7186538) (kk : ∀ (W2 : gW) (M2 : m_M), lS s fo x (K + 63600) W2 M2 → m_W D aC s 10 p l e room_1 s m args below meth c (cells + 470) (slots + 940) Q 2889 (lL i x b) [] M2) : m_W D aC s 10 p l e room_1 s m args below meth c cells slots Q 1120 (lL i x b) [] M := by
  obtain ⟨hG, ⟨th, hD⟩, ⟨f1, hO1⟩, ⟨f2, hO2⟩, hI⟩ := hS
  have hx := hG.1.2.2
  refine m_aload_n C 4 dL_law_1120 rfl rfl ?_
  refine m_callV C (C_broomCount hF hl hJ hX hG hI (by omega)) dL_law_1121 kc_X9_broomCount kV_L_209 hG.2.1 rfl rfl rfl rfl (Nat.le_of_ble_eq_true rfl) ⟨(Nat.le_of_ble_eq_true rfl), (Nat.le_of_ble_eq_true rfl)⟩ ⟨by show _ ≤ 603072; omega, by show _ ≤ 7186538; omega⟩ (fun E M1 ce q9 H1 locs1 ls h1 hx hH hS hce hcv hcl => absurd hx.1.2 (by simp)) (fun v9 M1 h9 => ?_)
  obtain ⟨-, rfl, hG1, hf1⟩ := h9
  have hD1 := hD.keep (M2 := M1) (fun q q1 q2 => hf1.2 q (by omega) (by omega))
  obtain ⟨fs1, hob1⟩ := hD1.ob
  refine m_aload_n C 3 dL_law_1124 rfl rfl ?_
  refine m_callV C (R_broomCount hF hl hJ hN hD1 (by omega) hI (by omega) hG.tx hG.ot) dL_law_1125 kc_X10_broomCount kV_L_212 hob1 rfl rfl rfl rfl (Nat.le_of_ble_eq_true rfl) ⟨(Nat.le_of_ble_eq_true rfl), (Nat.le_of_ble_eq_true rfl)⟩ ⟨by show _ ≤ 603072; omega, by show _ ≤ 7186538; omega⟩ m_nox (fun v9 M2 h9 => ?_)
  obtain ⟨z, rfl, hz, hD2, hf2⟩ := h9
  have hz := hz rfl
  subst hz
  refine m_icmp_same (tgt := 2889) C dL_law_1128 (by decide) ?_
  exact kk (W) M2 ⟨hG1.mfr hf2, ⟨_, hD2⟩, ⟨f1, (hf2.2 _ (by omega)).trans ((hf1.2 _ (by omega) (by omega)).trans hO1)⟩, ⟨f2, (hf2.2 _ (by omega)).trans ((hf1.2 _ (by omega) (by omega)).trans hO2)⟩, (hI.mono (by omega))⟩
set_option maxHeartbeats 2000000 in
theorem L_power (hF : m_F D aC s) (hl : l.stackTraces = false) (hJ : m_J s fo ks vs fA sA dO dT) (hX : m_TH s) (hN : m_NM s sa va) (hNC : m_NC s) (C : m_C D aC s RL cL_law 10 l p s m args meth c) {b L x : Nat} {xs : Nat → Int32} (hXs : va_X b L xs s s.heap) (hbl : b < s.heap.size) (hL : L ≤ 2560) {K i : Int} {W : gW} {M : m_M} (hi : 0 ≤ i ∧ i + 5 ≤ (L : Int)) (hK : K ≤ 76000000) (hS : lS s fo x K W M) (hc : cells + 470 ≤ 603072 ∧ slots + 940 ≤ 7186538) (kk : ∀ (W2 : gW) (M2 : m_M), lS s fo x (K + 63600) W2 M2 → m_W D aC s 10 p l e room_1 s m args below meth c (cells + 470) (slots + 940) Q 2889 (lL i x b) [] M2) : m_W D aC s 10 p l e room_1 s m args below meth c cells slots Q 1133 (lL i x b) [] M := by
  obtain ⟨hG, ⟨th, hD⟩, ⟨f1, hO1⟩, ⟨f2, hO2⟩, hI⟩ := hS
  have hx := hG.1.2.2
  refine m_aload_n C 4 dL_law_1133 rfl rfl ?_
  refine m_aload_n C 5 dL_law_1134 rfl rfl ?_
  refine m_iload C 0 dL_law_1135 rfl ?_
  refine m_iconst C dL_law_1137 ?_
  refine m_iadd C dL_law_1138 ?_
  refine m_sld C hXs hbl dL_law_1139 (by omega) hL ?_
  refine m_aload_n C 2 dL_law_1140 rfl rfl ?_
  refine m_callSW C (w_power hF hl hNC hG (o1 := x + 248) (by omega) hO1 (hM := C_power hF hl hJ hX hG hI (by omega) (m_rng _))) dL_law_1141 kw_L_power kS_L_213 rfl rfl (Nat.le_of_ble_eq_true rfl) ⟨(Nat.le_of_ble_eq_true rfl), (Nat.le_of_ble_eq_true rfl)⟩ ⟨by show _ ≤ 603072; omega, by show _ ≤ 7186538; omega⟩ (fun v9 M1 h9 => ?_)
  obtain ⟨rfl, hr5, hv1, ⟨f3, hO3⟩, hG1, hf1⟩ := h9
  refine m_istore C dL_law_1144 (by decide) rfl ?_
  have hD1 := hD.keep (M2 := M1) (fun q q1 q2 => hf1.2 q (by omega) (by omega) (by omega))
  obtain ⟨fs1, hob1⟩ := hD1.ob
  refine m_aload_n C 4 dL_law_1146 rfl rfl ?_
  refine m_aload_n C 6 dL_law_1147 rfl rfl ?_
  refine m_iload C 1 dL_law_1148 rfl ?_
  refine m_iconst C dL_law_1150 ?_
  refine m_iadd C dL_law_1151 ?_
  refine m_sld C hXs hbl dL_law_1152 (by omega) hL ?_
  refine m_callV C (R_power hF hl hJ hN hD1 (by omega) hI (by omega) hG.tx hG.ot (m_rng _)) dL_law_1153 kc_X10_power kV_L_215 hob1 rfl rfl rfl rfl (Nat.le_of_ble_eq_true rfl) ⟨(Nat.le_of_ble_eq_true rfl), (Nat.le_of_ble_eq_true rfl)⟩ ⟨by show _ ≤ 603072; omega, by show _ ≤ 7186538; omega⟩ m_nox (fun v9 M2 h9 => ?_)
  obtain ⟨z, rfl, hz, hD2, hf2⟩ := h9
  refine m_istore C dL_law_1156 (by decide) rfl ?_
  have hI2 : lI (K + 63600) (W) := (hI.mono (by omega))
  have hkk := m_W_k (kk (W) M2 ⟨hG1.mfr hf2, ⟨_, hD2⟩, ⟨f3, (hf2.2 _ (by omega)).trans hO3⟩, ⟨f2, (hf2.2 _ (by omega)).trans ((hf1.2 _ (by omega) (by omega) (by omega)).trans hO2)⟩, hI2⟩)
  exact m_tail hF hl C hx hD2 hI2 (by omega) hr5 hz (fun z0 => (hf2.2 _ (by omega)).trans (hv1 z0)) ⟨by omega, by omega⟩ dL_law_1158 dL_law_1159 dL_law_1162 dL_law_1164 dL_law_1169 dL_law_1171 dL_law_1174 dL_law_1175 dL_law_1176 dL_law_1177 dL_law_1179 dL_law_1180 dL_law_1181 dL_law_1186 (by decide) hkk
set_option maxHeartbeats 2000000 in
theorem L_isBanished (hF : m_F D aC s) (hl : l.stackTraces = false) (hJ : m_J s fo ks vs fA sA dO dT) (hX : m_TH s) (hN : m_NM s sa va) (hNC : m_NC s) (C : m_C D aC s RL cL_law 10 l p s m args meth c) {b L x : Nat} {xs : Nat → Int32} (hXs : va_X b L xs s s.heap) (hbl : b < s.heap.size) (hL : L ≤ 2560) {K i : Int} {W : gW} {M : m_M} (hi : 0 ≤ i ∧ i + 5 ≤ (L : Int)) (hK : K ≤ 76000000) (hS : lS s fo x K W M) (hc : cells + 470 ≤ 603072 ∧ slots + 940 ≤ 7186538) (kk : ∀ (W2 : gW) (M2 : m_M), lS s fo x (K + 63600) W2 M2 → m_W D aC s 10 p l e room_1 s m args below meth c (cells + 470) (slots + 940) Q 2889 (lL i x b) [] M2) : m_W D aC s 10 p l e room_1 s m args below meth c cells slots Q 1189 (lL i x b) [] M := by
  obtain ⟨hG, ⟨th, hD⟩, ⟨f1, hO1⟩, ⟨f2, hO2⟩, hI⟩ := hS
  have hx := hG.1.2.2
  refine m_aload_n C 4 dL_law_1189 rfl rfl ?_
  refine m_aload_n C 5 dL_law_1190 rfl rfl ?_
  refine m_iload C 0 dL_law_1191 rfl ?_
  refine m_iconst C dL_law_1193 ?_
  refine m_iadd C dL_law_1194 ?_
  refine m_sld C hXs hbl dL_law_1195 (by omega) hL ?_
  refine m_aload_n C 2 dL_law_1196 rfl rfl ?_
  refine m_callSW C (w_isBanished hF hl hNC hG (o1 := x + 248) (by omega) hO1 (hb := fun _ => G_bro3 (hI.B (by omega)) _) (hM := C_isBanished hF hl hJ hX hG hI (by omega) (m_rng _))) dL_law_1197 kw_L_isBanished kS_L_216 rfl rfl (Nat.le_of_ble_eq_true rfl) ⟨(Nat.le_of_ble_eq_true rfl), (Nat.le_of_ble_eq_true rfl)⟩ ⟨by show _ ≤ 603072; omega, by show _ ≤ 7186538; omega⟩ (fun v9 M1 h9 => ?_)
  obtain ⟨rfl, hr5, hv1, ⟨f3, hO3⟩, hG1, hf1⟩ := h9
  refine m_istore C dL_law_1200 (by decide) rfl ?_
  have hD1 := hD.keep (M2 := M1) (fun q q1 q2 => hf1.2 q (by omega) (by omega) (by omega))
  obtain ⟨fs1, hob1⟩ := hD1.ob
  refine m_aload_n C 4 dL_law_1202 rfl rfl ?_
  refine m_aload_n C 6 dL_law_1203 rfl rfl ?_
  refine m_iload C 1 dL_law_1204 rfl ?_
  refine m_iconst C dL_law_1206 ?_
  refine m_iadd C dL_law_1207 ?_
  refine m_sld C hXs hbl dL_law_1208 (by omega) hL ?_
  refine m_callV C (R_isBanished hF hl hJ hN hD1 (by omega) hI (by omega) hG.tx hG.ot (m_rng _)) dL_law_1209 kc_X10_isBanished kV_L_218 hob1 rfl rfl rfl rfl (Nat.le_of_ble_eq_true rfl) ⟨(Nat.le_of_ble_eq_true rfl), (Nat.le_of_ble_eq_true rfl)⟩ ⟨by show _ ≤ 603072; omega, by show _ ≤ 7186538; omega⟩ m_nox (fun v9 M2 h9 => ?_)
  obtain ⟨z, rfl, hz, hD2, hf2⟩ := h9
  refine m_istore C dL_law_1212 (by decide) rfl ?_
  have hI2 : lI (K + 63600) (W) := (hI.mono (by omega))
  have hkk := m_W_k (kk (W) M2 ⟨hG1.mfr hf2, ⟨_, hD2⟩, ⟨f3, (hf2.2 _ (by omega)).trans hO3⟩, ⟨f2, (hf2.2 _ (by omega)).trans ((hf1.2 _ (by omega) (by omega) (by omega)).trans hO2)⟩, hI2⟩)
  obtain ⟨wd, hV, hW⟩ := hD2
  generalize hr : G_bro W.1 3 (xs (i + 1).toNat).toInt = r at *
  have e14 : wd 0 14 = r.1 := hW.1
  refine m_aload_n C 5 dL_law_1214 rfl rfl ?_
  refine m_callV C (t_X10_thrown hF hl hV (by omega) (hI.B (by omega))) dL_law_1215 kc_X10_thrown kV_L_165 hV.ob rfl rfl rfl rfl (Nat.le_of_ble_eq_true rfl) ⟨(Nat.le_of_ble_eq_true rfl), (Nat.le_of_ble_eq_true rfl)⟩ ⟨by show _ ≤ 603072; omega, by show _ ≤ 7186538; omega⟩ m_nox (fun v9 M3 h9 => ?_)
  obtain ⟨rfl, h9⟩ := h9
  replace h9 := h9.symm
  subst h9
  rw [e14]
  refine m_iload C 1 dL_law_1218 rfl ?_
  refine m_icmp_same (tgt := 1225) C dL_law_1220 (by decide) ?_
  refine m_iload C 1 dL_law_1225 rfl ?_
  refine m_if_ne (tgt := 1249) C dL_law_1227 (by decide) (by omega) (fun c1 => ?_) (fun c1 => ?_)
  · refine m_goto (tgt := 2889) C dL_law_1249 (by decide) ?_
    exact m_lvs [2, 3, 4, 5, 6, 7] rfl hkk
  · refine m_aload_n C 4 dL_law_1230 rfl rfl ?_
    refine m_iconst C dL_law_1231 ?_
    refine m_lald C dL_law_1232 ((hf2.2 _ (by omega)).trans (hv1 c1)) (by decide) (by decide) ?_
    refine m_iload C 0 dL_law_1233 rfl ?_
    have hz := hz c1
    subst hz
    have hb0 := G_bro3 (hI.B (by omega)) (xs (i + 1).toNat).toInt
    rw [hr] at hb0
    refine m_if_eq (tgt := 1242) C dL_law_1235 (by decide) (by omega) (fun c2 => ?_) (fun c2 => ?_)
    · refine m_lconst (z := 0) C dL_law_1242 rfl ?_
      rw [c2]
      refine m_lcmp0 C dL_law_1243 ?_
      refine m_if_eq (tgt := 1249) C dL_law_1244 (by decide) (by decide) (fun c3 => ?_) (fun c3 => absurd rfl c3)
      refine m_goto (tgt := 2889) C dL_law_1249 (by decide) ?_
      exact m_lvs [2, 3, 4, 5, 6, 7] rfl hkk
    · have c3 : r.2 = 1 := by omega
      refine m_lconst (z := 1) C dL_law_1238 rfl ?_
      refine m_goto (tgt := 1243) C dL_law_1239 (by decide) ?_
      rw [c3]
      refine m_lcmp0 C dL_law_1243 ?_
      refine m_if_eq (tgt := 1249) C dL_law_1244 (by decide) (by decide) (fun c3 => ?_) (fun c3 => absurd rfl c3)
      refine m_goto (tgt := 2889) C dL_law_1249 (by decide) ?_
      exact m_lvs [2, 3, 4, 5, 6, 7] rfl hkk
set_option maxHeartbeats 2000000 in
theorem L_goblinCount (hF : m_F D aC s) (hl : l.stackTraces = false) (hJ : m_J s fo ks vs fA sA dO dT) (hX : m_TH s) (hN : m_NM s sa va) (hNC : m_NC s) (C : m_C D aC s RL cL_law 10 l p s m args meth c) {b L x : Nat} {xs : Nat → Int32} (hXs : va_X b L xs s s.heap) (hbl : b < s.heap.size) (hL : L ≤ 2560) {K i : Int} {W : gW} {M : m_M} (hi : 0 ≤ i ∧ i + 5 ≤ (L : Int)) (hK : K ≤ 76000000) (hS : lS s fo x K W M) (hc : cells + 470 ≤ 603072 ∧ slots + 940 ≤ 7186538) (kk : ∀ (W2 : gW) (M2 : m_M), lS s fo x (K + 63600) W2 M2 → m_W D aC s 10 p l e room_1 s m args below meth c (cells + 470) (slots + 940) Q 2889 (lL i x b) [] M2) : m_W D aC s 10 p l e room_1 s m args below meth c cells slots Q 1252 (lL i x b) [] M := by
  obtain ⟨hG, ⟨th, hD⟩, ⟨f1, hO1⟩, ⟨f2, hO2⟩, hI⟩ := hS
  have hx := hG.1.2.2
  refine m_aload_n C 4 dL_law_1252 rfl rfl ?_
  refine m_callV C (C_goblinCount hF hl hJ hX hG hI (by omega)) dL_law_1253 kc_X9_goblinCount kV_L_219 hG.2.1 rfl rfl rfl rfl (Nat.le_of_ble_eq_true rfl) ⟨(Nat.le_of_ble_eq_true rfl), (Nat.le_of_ble_eq_true rfl)⟩ ⟨by show _ ≤ 603072; omega, by show _ ≤ 7186538; omega⟩ (fun E M1 ce q9 H1 locs1 ls h1 hx hH hS hce hcv hcl => absurd hx.1.2 (by simp)) (fun v9 M1 h9 => ?_)
  obtain ⟨-, rfl, hG1, hf1⟩ := h9
  have hD1 := hD.keep (M2 := M1) (fun q q1 q2 => hf1.2 q (by omega) (by omega))
  obtain ⟨fs1, hob1⟩ := hD1.ob
  refine m_aload_n C 3 dL_law_1256 rfl rfl ?_
  refine m_callV C (R_goblinCount hF hl hJ hN hD1 (by omega) hI (by omega) hG.tx hG.ot) dL_law_1257 kc_X10_goblinCount kV_L_222 hob1 rfl rfl rfl rfl (Nat.le_of_ble_eq_true rfl) ⟨(Nat.le_of_ble_eq_true rfl), (Nat.le_of_ble_eq_true rfl)⟩ ⟨by show _ ≤ 603072; omega, by show _ ≤ 7186538; omega⟩ m_nox (fun v9 M2 h9 => ?_)
  obtain ⟨z, rfl, hz, hD2, hf2⟩ := h9
  have hz := hz rfl
  subst hz
  refine m_icmp_same (tgt := 2889) C dL_law_1260 (by decide) ?_
  exact kk (W) M2 ⟨hG1.mfr hf2, ⟨_, hD2⟩, ⟨f1, (hf2.2 _ (by omega)).trans ((hf1.2 _ (by omega) (by omega)).trans hO1)⟩, ⟨f2, (hf2.2 _ (by omega)).trans ((hf1.2 _ (by omega) (by omega)).trans hO2)⟩, (hI.mono (by omega))⟩
set_option maxHeartbeats 2000000 in
theorem L_strength (hF : m_F D aC s) (hl : l.stackTraces = false) (hJ : m_J s fo ks vs fA sA dO dT) (hX : m_TH s) (hN : m_NM s sa va) (hNC : m_NC s) (C : m_C D aC s RL cL_law 10 l p s m args meth c) {b L x : Nat} {xs : Nat → Int32} (hXs : va_X b L xs s s.heap) (hbl : b < s.heap.size) (hL : L ≤ 2560) {K i : Int} {W : gW} {M : m_M} (hi : 0 ≤ i ∧ i + 5 ≤ (L : Int)) (hK : K ≤ 76000000) (hS : lS s fo x K W M) (hc : cells + 470 ≤ 603072 ∧ slots + 940 ≤ 7186538) (kk : ∀ (W2 : gW) (M2 : m_M), lS s fo x (K + 63600) W2 M2 → m_W D aC s 10 p l e room_1 s m args below meth c (cells + 470) (slots + 940) Q 2889 (lL i x b) [] M2) : m_W D aC s 10 p l e room_1 s m args below meth c cells slots Q 1265 (lL i x b) [] M := by
  obtain ⟨hG, ⟨th, hD⟩, ⟨f1, hO1⟩, ⟨f2, hO2⟩, hI⟩ := hS
  have hx := hG.1.2.2
  refine m_aload_n C 4 dL_law_1265 rfl rfl ?_
  refine m_aload_n C 5 dL_law_1266 rfl rfl ?_
  refine m_iload C 0 dL_law_1267 rfl ?_
  refine m_iconst C dL_law_1269 ?_
  refine m_iadd C dL_law_1270 ?_
  refine m_sld C hXs hbl dL_law_1271 (by omega) hL ?_
  refine m_aload_n C 2 dL_law_1272 rfl rfl ?_
  refine m_callSW C (w_strength hF hl hNC hG (o1 := x + 248) (by omega) hO1 (hM := C_strength hF hl hJ hX hG hI (by omega) (m_rng _))) dL_law_1273 kw_L_strength kS_L_223 rfl rfl (Nat.le_of_ble_eq_true rfl) ⟨(Nat.le_of_ble_eq_true rfl), (Nat.le_of_ble_eq_true rfl)⟩ ⟨by show _ ≤ 603072; omega, by show _ ≤ 7186538; omega⟩ (fun v9 M1 h9 => ?_)
  obtain ⟨rfl, hr5, hv1, ⟨f3, hO3⟩, hG1, hf1⟩ := h9
  refine m_istore C dL_law_1276 (by decide) rfl ?_
  have hD1 := hD.keep (M2 := M1) (fun q q1 q2 => hf1.2 q (by omega) (by omega) (by omega))
  obtain ⟨fs1, hob1⟩ := hD1.ob
  refine m_aload_n C 4 dL_law_1278 rfl rfl ?_
  refine m_aload_n C 6 dL_law_1279 rfl rfl ?_
  refine m_iload C 1 dL_law_1280 rfl ?_
  refine m_iconst C dL_law_1282 ?_
  refine m_iadd C dL_law_1283 ?_
  refine m_sld C hXs hbl dL_law_1284 (by omega) hL ?_
  refine m_callV C (R_strength hF hl hJ hN hD1 (by omega) hI (by omega) hG.tx hG.ot (m_rng _)) dL_law_1285 kc_X10_strength kV_L_225 hob1 rfl rfl rfl rfl (Nat.le_of_ble_eq_true rfl) ⟨(Nat.le_of_ble_eq_true rfl), (Nat.le_of_ble_eq_true rfl)⟩ ⟨by show _ ≤ 603072; omega, by show _ ≤ 7186538; omega⟩ m_nox (fun v9 M2 h9 => ?_)
  obtain ⟨z, rfl, hz, hD2, hf2⟩ := h9
  refine m_istore C dL_law_1288 (by decide) rfl ?_
  have hI2 : lI (K + 63600) (W) := (hI.mono (by omega))
  have hkk := m_W_k (kk (W) M2 ⟨hG1.mfr hf2, ⟨_, hD2⟩, ⟨f3, (hf2.2 _ (by omega)).trans hO3⟩, ⟨f2, (hf2.2 _ (by omega)).trans ((hf1.2 _ (by omega) (by omega) (by omega)).trans hO2)⟩, hI2⟩)
  exact m_tail hF hl C hx hD2 hI2 (by omega) hr5 hz (fun z0 => (hf2.2 _ (by omega)).trans (hv1 z0)) ⟨by omega, by omega⟩ dL_law_1290 dL_law_1291 dL_law_1294 dL_law_1296 dL_law_1301 dL_law_1303 dL_law_1306 dL_law_1307 dL_law_1308 dL_law_1309 dL_law_1311 dL_law_1312 dL_law_1313 dL_law_1318 (by decide) hkk
set_option maxHeartbeats 2000000 in
theorem L_purse (hF : m_F D aC s) (hl : l.stackTraces = false) (hJ : m_J s fo ks vs fA sA dO dT) (hX : m_TH s) (hN : m_NM s sa va) (hNC : m_NC s) (C : m_C D aC s RL cL_law 10 l p s m args meth c) {b L x : Nat} {xs : Nat → Int32} (hXs : va_X b L xs s s.heap) (hbl : b < s.heap.size) (hL : L ≤ 2560) {K i : Int} {W : gW} {M : m_M} (hi : 0 ≤ i ∧ i + 5 ≤ (L : Int)) (hK : K ≤ 76000000) (hS : lS s fo x K W M) (hc : cells + 470 ≤ 603072 ∧ slots + 940 ≤ 7186538) (kk : ∀ (W2 : gW) (M2 : m_M), lS s fo x (K + 63600) W2 M2 → m_W D aC s 10 p l e room_1 s m args below meth c (cells + 470) (slots + 940) Q 2889 (lL i x b) [] M2) : m_W D aC s 10 p l e room_1 s m args below meth c cells slots Q 1321 (lL i x b) [] M := by
  obtain ⟨hG, ⟨th, hD⟩, ⟨f1, hO1⟩, ⟨f2, hO2⟩, hI⟩ := hS
  have hx := hG.1.2.2
  refine m_aload_n C 4 dL_law_1321 rfl rfl ?_
  refine m_aload_n C 5 dL_law_1322 rfl rfl ?_
  refine m_iload C 0 dL_law_1323 rfl ?_
  refine m_iconst C dL_law_1325 ?_
  refine m_iadd C dL_law_1326 ?_
  refine m_sld C hXs hbl dL_law_1327 (by omega) hL ?_
  refine m_aload_n C 2 dL_law_1328 rfl rfl ?_
  refine m_callSW C (w_purse hF hl hNC hG (o1 := x + 248) (by omega) hO1 (hM := C_purse hF hl hJ hX hG hI (by omega) (m_rng _))) dL_law_1329 kw_L_purse kS_L_226 rfl rfl (Nat.le_of_ble_eq_true rfl) ⟨(Nat.le_of_ble_eq_true rfl), (Nat.le_of_ble_eq_true rfl)⟩ ⟨by show _ ≤ 603072; omega, by show _ ≤ 7186538; omega⟩ (fun v9 M1 h9 => ?_)
  obtain ⟨rfl, hr5, hv1, ⟨f3, hO3⟩, hG1, hf1⟩ := h9
  refine m_istore C dL_law_1332 (by decide) rfl ?_
  have hD1 := hD.keep (M2 := M1) (fun q q1 q2 => hf1.2 q (by omega) (by omega) (by omega))
  obtain ⟨fs1, hob1⟩ := hD1.ob
  refine m_aload_n C 4 dL_law_1334 rfl rfl ?_
  refine m_aload_n C 6 dL_law_1335 rfl rfl ?_
  refine m_iload C 1 dL_law_1336 rfl ?_
  refine m_iconst C dL_law_1338 ?_
  refine m_iadd C dL_law_1339 ?_
  refine m_sld C hXs hbl dL_law_1340 (by omega) hL ?_
  refine m_callV C (R_purse hF hl hJ hN hD1 (by omega) hI (by omega) hG.tx hG.ot (m_rng _)) dL_law_1341 kc_X10_purse kV_L_228 hob1 rfl rfl rfl rfl (Nat.le_of_ble_eq_true rfl) ⟨(Nat.le_of_ble_eq_true rfl), (Nat.le_of_ble_eq_true rfl)⟩ ⟨by show _ ≤ 603072; omega, by show _ ≤ 7186538; omega⟩ m_nox (fun v9 M2 h9 => ?_)
  obtain ⟨z, rfl, hz, hD2, hf2⟩ := h9
  refine m_istore C dL_law_1344 (by decide) rfl ?_
  have hI2 : lI (K + 63600) (W) := (hI.mono (by omega))
  have hkk := m_W_k (kk (W) M2 ⟨hG1.mfr hf2, ⟨_, hD2⟩, ⟨f3, (hf2.2 _ (by omega)).trans hO3⟩, ⟨f2, (hf2.2 _ (by omega)).trans ((hf1.2 _ (by omega) (by omega) (by omega)).trans hO2)⟩, hI2⟩)
  exact m_tail hF hl C hx hD2 hI2 (by omega) hr5 hz (fun z0 => (hf2.2 _ (by omega)).trans (hv1 z0)) ⟨by omega, by omega⟩ dL_law_1346 dL_law_1347 dL_law_1350 dL_law_1352 dL_law_1357 dL_law_1359 dL_law_1362 dL_law_1363 dL_law_1364 dL_law_1365 dL_law_1367 dL_law_1368 dL_law_1369 dL_law_1374 (by decide) hkk
set_option maxHeartbeats 2000000 in
theorem L_debt (hF : m_F D aC s) (hl : l.stackTraces = false) (hJ : m_J s fo ks vs fA sA dO dT) (hX : m_TH s) (hN : m_NM s sa va) (hNC : m_NC s) (C : m_C D aC s RL cL_law 10 l p s m args meth c) {b L x : Nat} {xs : Nat → Int32} (hXs : va_X b L xs s s.heap) (hbl : b < s.heap.size) (hL : L ≤ 2560) {K i : Int} {W : gW} {M : m_M} (hi : 0 ≤ i ∧ i + 5 ≤ (L : Int)) (hK : K ≤ 76000000) (hS : lS s fo x K W M) (hc : cells + 470 ≤ 603072 ∧ slots + 940 ≤ 7186538) (kk : ∀ (W2 : gW) (M2 : m_M), lS s fo x (K + 63600) W2 M2 → m_W D aC s 10 p l e room_1 s m args below meth c (cells + 470) (slots + 940) Q 2889 (lL i x b) [] M2) : m_W D aC s 10 p l e room_1 s m args below meth c cells slots Q 1377 (lL i x b) [] M := by
  obtain ⟨hG, ⟨th, hD⟩, ⟨f1, hO1⟩, ⟨f2, hO2⟩, hI⟩ := hS
  have hx := hG.1.2.2
  refine m_aload_n C 4 dL_law_1377 rfl rfl ?_
  refine m_aload_n C 5 dL_law_1378 rfl rfl ?_
  refine m_iload C 0 dL_law_1379 rfl ?_
  refine m_iconst C dL_law_1381 ?_
  refine m_iadd C dL_law_1382 ?_
  refine m_sld C hXs hbl dL_law_1383 (by omega) hL ?_
  refine m_aload_n C 2 dL_law_1384 rfl rfl ?_
  refine m_callSW C (w_debt hF hl hNC hG (o1 := x + 248) (by omega) hO1 (hM := C_debt hF hl hJ hX hG hI (by omega) (m_rng _))) dL_law_1385 kw_L_debt kS_L_229 rfl rfl (Nat.le_of_ble_eq_true rfl) ⟨(Nat.le_of_ble_eq_true rfl), (Nat.le_of_ble_eq_true rfl)⟩ ⟨by show _ ≤ 603072; omega, by show _ ≤ 7186538; omega⟩ (fun v9 M1 h9 => ?_)
  obtain ⟨rfl, hr5, hv1, ⟨f3, hO3⟩, hG1, hf1⟩ := h9
  refine m_istore C dL_law_1388 (by decide) rfl ?_
  have hD1 := hD.keep (M2 := M1) (fun q q1 q2 => hf1.2 q (by omega) (by omega) (by omega))
  obtain ⟨fs1, hob1⟩ := hD1.ob
  refine m_aload_n C 4 dL_law_1390 rfl rfl ?_
  refine m_aload_n C 6 dL_law_1391 rfl rfl ?_
  refine m_iload C 1 dL_law_1392 rfl ?_
  refine m_iconst C dL_law_1394 ?_
  refine m_iadd C dL_law_1395 ?_
  refine m_sld C hXs hbl dL_law_1396 (by omega) hL ?_
  refine m_callV C (R_debt hF hl hJ hN hD1 (by omega) hI (by omega) hG.tx hG.ot (m_rng _)) dL_law_1397 kc_X10_debt kV_L_231 hob1 rfl rfl rfl rfl (Nat.le_of_ble_eq_true rfl) ⟨(Nat.le_of_ble_eq_true rfl), (Nat.le_of_ble_eq_true rfl)⟩ ⟨by show _ ≤ 603072; omega, by show _ ≤ 7186538; omega⟩ m_nox (fun v9 M2 h9 => ?_)
  obtain ⟨z, rfl, hz, hD2, hf2⟩ := h9
  refine m_istore C dL_law_1400 (by decide) rfl ?_
  have hI2 : lI (K + 63600) (W) := (hI.mono (by omega))
  have hkk := m_W_k (kk (W) M2 ⟨hG1.mfr hf2, ⟨_, hD2⟩, ⟨f3, (hf2.2 _ (by omega)).trans hO3⟩, ⟨f2, (hf2.2 _ (by omega)).trans ((hf1.2 _ (by omega) (by omega) (by omega)).trans hO2)⟩, hI2⟩)
  exact m_tail hF hl C hx hD2 hI2 (by omega) hr5 hz (fun z0 => (hf2.2 _ (by omega)).trans (hv1 z0)) ⟨by omega, by omega⟩ dL_law_1402 dL_law_1403 dL_law_1406 dL_law_1408 dL_law_1413 dL_law_1415 dL_law_1418 dL_law_1419 dL_law_1420 dL_law_1421 dL_law_1423 dL_law_1424 dL_law_1425 dL_law_1430 (by decide) hkk
set_option maxHeartbeats 2000000 in
theorem L_skippedNights (hF : m_F D aC s) (hl : l.stackTraces = false) (hJ : m_J s fo ks vs fA sA dO dT) (hX : m_TH s) (hN : m_NM s sa va) (hNC : m_NC s) (C : m_C D aC s RL cL_law 10 l p s m args meth c) {b L x : Nat} {xs : Nat → Int32} (hXs : va_X b L xs s s.heap) (hbl : b < s.heap.size) (hL : L ≤ 2560) {K i : Int} {W : gW} {M : m_M} (hi : 0 ≤ i ∧ i + 5 ≤ (L : Int)) (hK : K ≤ 76000000) (hS : lS s fo x K W M) (hc : cells + 470 ≤ 603072 ∧ slots + 940 ≤ 7186538) (kk : ∀ (W2 : gW) (M2 : m_M), lS s fo x (K + 63600) W2 M2 → m_W D aC s 10 p l e room_1 s m args below meth c (cells + 470) (slots + 940) Q 2889 (lL i x b) [] M2) : m_W D aC s 10 p l e room_1 s m args below meth c cells slots Q 1433 (lL i x b) [] M := by
  obtain ⟨hG, ⟨th, hD⟩, ⟨f1, hO1⟩, ⟨f2, hO2⟩, hI⟩ := hS
  have hx := hG.1.2.2
  refine m_aload_n C 4 dL_law_1433 rfl rfl ?_
  refine m_aload_n C 5 dL_law_1434 rfl rfl ?_
  refine m_iload C 0 dL_law_1435 rfl ?_
  refine m_iconst C dL_law_1437 ?_
  refine m_iadd C dL_law_1438 ?_
  refine m_sld C hXs hbl dL_law_1439 (by omega) hL ?_
  refine m_aload_n C 2 dL_law_1440 rfl rfl ?_
  refine m_callSW C (w_skippedNights hF hl hNC hG (o1 := x + 248) (by omega) hO1 (hM := C_skippedNights hF hl hJ hX hG hI (by omega) (m_rng _))) dL_law_1441 kw_L_skippedNights kS_L_232 rfl rfl (Nat.le_of_ble_eq_true rfl) ⟨(Nat.le_of_ble_eq_true rfl), (Nat.le_of_ble_eq_true rfl)⟩ ⟨by show _ ≤ 603072; omega, by show _ ≤ 7186538; omega⟩ (fun v9 M1 h9 => ?_)
  obtain ⟨rfl, hr5, hv1, ⟨f3, hO3⟩, hG1, hf1⟩ := h9
  refine m_istore C dL_law_1444 (by decide) rfl ?_
  have hD1 := hD.keep (M2 := M1) (fun q q1 q2 => hf1.2 q (by omega) (by omega) (by omega))
  obtain ⟨fs1, hob1⟩ := hD1.ob
  refine m_aload_n C 4 dL_law_1446 rfl rfl ?_
  refine m_aload_n C 6 dL_law_1447 rfl rfl ?_
  refine m_iload C 1 dL_law_1448 rfl ?_
  refine m_iconst C dL_law_1450 ?_
  refine m_iadd C dL_law_1451 ?_
  refine m_sld C hXs hbl dL_law_1452 (by omega) hL ?_
  refine m_callV C (R_skippedNights hF hl hJ hN hD1 (by omega) hI (by omega) hG.tx hG.ot (m_rng _)) dL_law_1453 kc_X10_skippedNights kV_L_234 hob1 rfl rfl rfl rfl (Nat.le_of_ble_eq_true rfl) ⟨(Nat.le_of_ble_eq_true rfl), (Nat.le_of_ble_eq_true rfl)⟩ ⟨by show _ ≤ 603072; omega, by show _ ≤ 7186538; omega⟩ m_nox (fun v9 M2 h9 => ?_)
  obtain ⟨z, rfl, hz, hD2, hf2⟩ := h9
  refine m_istore C dL_law_1456 (by decide) rfl ?_
  have hI2 : lI (K + 63600) (W) := (hI.mono (by omega))
  have hkk := m_W_k (kk (W) M2 ⟨hG1.mfr hf2, ⟨_, hD2⟩, ⟨f3, (hf2.2 _ (by omega)).trans hO3⟩, ⟨f2, (hf2.2 _ (by omega)).trans ((hf1.2 _ (by omega) (by omega) (by omega)).trans hO2)⟩, hI2⟩)
  exact m_tail hF hl C hx hD2 hI2 (by omega) hr5 hz (fun z0 => (hf2.2 _ (by omega)).trans (hv1 z0)) ⟨by omega, by omega⟩ dL_law_1458 dL_law_1459 dL_law_1462 dL_law_1464 dL_law_1469 dL_law_1471 dL_law_1474 dL_law_1475 dL_law_1476 dL_law_1477 dL_law_1479 dL_law_1480 dL_law_1481 dL_law_1486 (by decide) hkk
set_option maxHeartbeats 2000000 in
theorem L_isResting (hF : m_F D aC s) (hl : l.stackTraces = false) (hJ : m_J s fo ks vs fA sA dO dT) (hX : m_TH s) (hN : m_NM s sa va) (hNC : m_NC s) (C : m_C D aC s RL cL_law 10 l p s m args meth c) {b L x : Nat} {xs : Nat → Int32} (hXs : va_X b L xs s s.heap) (hbl : b < s.heap.size) (hL : L ≤ 2560) {K i : Int} {W : gW} {M : m_M} (hi : 0 ≤ i ∧ i + 5 ≤ (L : Int)) (hK : K ≤ 76000000) (hS : lS s fo x K W M) (hc : cells + 470 ≤ 603072 ∧ slots + 940 ≤ 7186538) (kk : ∀ (W2 : gW) (M2 : m_M), lS s fo x (K + 63600) W2 M2 → m_W D aC s 10 p l e room_1 s m args below meth c (cells + 470) (slots + 940) Q 2889 (lL i x b) [] M2) : m_W D aC s 10 p l e room_1 s m args below meth c cells slots Q 1489 (lL i x b) [] M := by
  obtain ⟨hG, ⟨th, hD⟩, ⟨f1, hO1⟩, ⟨f2, hO2⟩, hI⟩ := hS
  have hx := hG.1.2.2
  refine m_aload_n C 4 dL_law_1489 rfl rfl ?_
  refine m_aload_n C 5 dL_law_1490 rfl rfl ?_
  refine m_iload C 0 dL_law_1491 rfl ?_
  refine m_iconst C dL_law_1493 ?_
  refine m_iadd C dL_law_1494 ?_
  refine m_sld C hXs hbl dL_law_1495 (by omega) hL ?_
  refine m_aload_n C 2 dL_law_1496 rfl rfl ?_
  refine m_callSW C (w_isResting hF hl hNC hG (o1 := x + 248) (by omega) hO1 (hb := fun _ => G_gob8 (hI.B (by omega)) _) (hM := C_isResting hF hl hJ hX hG hI (by omega) (m_rng _))) dL_law_1497 kw_L_isResting kS_L_235 rfl rfl (Nat.le_of_ble_eq_true rfl) ⟨(Nat.le_of_ble_eq_true rfl), (Nat.le_of_ble_eq_true rfl)⟩ ⟨by show _ ≤ 603072; omega, by show _ ≤ 7186538; omega⟩ (fun v9 M1 h9 => ?_)
  obtain ⟨rfl, hr5, hv1, ⟨f3, hO3⟩, hG1, hf1⟩ := h9
  refine m_istore C dL_law_1500 (by decide) rfl ?_
  have hD1 := hD.keep (M2 := M1) (fun q q1 q2 => hf1.2 q (by omega) (by omega) (by omega))
  obtain ⟨fs1, hob1⟩ := hD1.ob
  refine m_aload_n C 4 dL_law_1502 rfl rfl ?_
  refine m_aload_n C 6 dL_law_1503 rfl rfl ?_
  refine m_iload C 1 dL_law_1504 rfl ?_
  refine m_iconst C dL_law_1506 ?_
  refine m_iadd C dL_law_1507 ?_
  refine m_sld C hXs hbl dL_law_1508 (by omega) hL ?_
  refine m_callV C (R_isResting hF hl hJ hN hD1 (by omega) hI (by omega) hG.tx hG.ot (m_rng _)) dL_law_1509 kc_X10_isResting kV_L_237 hob1 rfl rfl rfl rfl (Nat.le_of_ble_eq_true rfl) ⟨(Nat.le_of_ble_eq_true rfl), (Nat.le_of_ble_eq_true rfl)⟩ ⟨by show _ ≤ 603072; omega, by show _ ≤ 7186538; omega⟩ m_nox (fun v9 M2 h9 => ?_)
  obtain ⟨z, rfl, hz, hD2, hf2⟩ := h9
  refine m_istore C dL_law_1512 (by decide) rfl ?_
  have hI2 : lI (K + 63600) (W) := (hI.mono (by omega))
  have hkk := m_W_k (kk (W) M2 ⟨hG1.mfr hf2, ⟨_, hD2⟩, ⟨f3, (hf2.2 _ (by omega)).trans hO3⟩, ⟨f2, (hf2.2 _ (by omega)).trans ((hf1.2 _ (by omega) (by omega) (by omega)).trans hO2)⟩, hI2⟩)
  obtain ⟨wd, hV, hW⟩ := hD2
  generalize hr : G_gob W.1 8 (xs (i + 1).toNat).toInt = r at *
  have e14 : wd 0 14 = r.1 := hW.1
  refine m_aload_n C 5 dL_law_1514 rfl rfl ?_
  refine m_callV C (t_X10_thrown hF hl hV (by omega) (hI.B (by omega))) dL_law_1515 kc_X10_thrown kV_L_165 hV.ob rfl rfl rfl rfl (Nat.le_of_ble_eq_true rfl) ⟨(Nat.le_of_ble_eq_true rfl), (Nat.le_of_ble_eq_true rfl)⟩ ⟨by show _ ≤ 603072; omega, by show _ ≤ 7186538; omega⟩ m_nox (fun v9 M3 h9 => ?_)
  obtain ⟨rfl, h9⟩ := h9
  replace h9 := h9.symm
  subst h9
  rw [e14]
  refine m_iload C 1 dL_law_1518 rfl ?_
  refine m_icmp_same (tgt := 1525) C dL_law_1520 (by decide) ?_
  refine m_iload C 1 dL_law_1525 rfl ?_
  refine m_if_ne (tgt := 1549) C dL_law_1527 (by decide) (by omega) (fun c1 => ?_) (fun c1 => ?_)
  · refine m_goto (tgt := 2889) C dL_law_1549 (by decide) ?_
    exact m_lvs [2, 3, 4, 5, 6, 7] rfl hkk
  · refine m_aload_n C 4 dL_law_1530 rfl rfl ?_
    refine m_iconst C dL_law_1531 ?_
    refine m_lald C dL_law_1532 ((hf2.2 _ (by omega)).trans (hv1 c1)) (by decide) (by decide) ?_
    refine m_iload C 0 dL_law_1533 rfl ?_
    have hz := hz c1
    subst hz
    have hb0 := G_gob8 (hI.B (by omega)) (xs (i + 1).toNat).toInt
    rw [hr] at hb0
    refine m_if_eq (tgt := 1542) C dL_law_1535 (by decide) (by omega) (fun c2 => ?_) (fun c2 => ?_)
    · refine m_lconst (z := 0) C dL_law_1542 rfl ?_
      rw [c2]
      refine m_lcmp0 C dL_law_1543 ?_
      refine m_if_eq (tgt := 1549) C dL_law_1544 (by decide) (by decide) (fun c3 => ?_) (fun c3 => absurd rfl c3)
      refine m_goto (tgt := 2889) C dL_law_1549 (by decide) ?_
      exact m_lvs [2, 3, 4, 5, 6, 7] rfl hkk
    · have c3 : r.2 = 1 := by omega
      refine m_lconst (z := 1) C dL_law_1538 rfl ?_
      refine m_goto (tgt := 1543) C dL_law_1539 (by decide) ?_
      rw [c3]
      refine m_lcmp0 C dL_law_1543 ?_
      refine m_if_eq (tgt := 1549) C dL_law_1544 (by decide) (by decide) (fun c3 => ?_) (fun c3 => absurd rfl c3)
      refine m_goto (tgt := 2889) C dL_law_1549 (by decide) ?_
      exact m_lvs [2, 3, 4, 5, 6, 7] rfl hkk
set_option maxHeartbeats 2000000 in
theorem L_energy (hF : m_F D aC s) (hl : l.stackTraces = false) (hJ : m_J s fo ks vs fA sA dO dT) (hX : m_TH s) (hN : m_NM s sa va) (hNC : m_NC s) (C : m_C D aC s RL cL_law 10 l p s m args meth c) {b L x : Nat} {xs : Nat → Int32} (hXs : va_X b L xs s s.heap) (hbl : b < s.heap.size) (hL : L ≤ 2560) {K i : Int} {W : gW} {M : m_M} (hi : 0 ≤ i ∧ i + 5 ≤ (L : Int)) (hK : K ≤ 76000000) (hS : lS s fo x K W M) (hc : cells + 470 ≤ 603072 ∧ slots + 940 ≤ 7186538) (kk : ∀ (W2 : gW) (M2 : m_M), lS s fo x (K + 63600) W2 M2 → m_W D aC s 10 p l e room_1 s m args below meth c (cells + 470) (slots + 940) Q 2889 (lL i x b) [] M2) : m_W D aC s 10 p l e room_1 s m args below meth c cells slots Q 1552 (lL i x b) [] M := by
  obtain ⟨hG, ⟨th, hD⟩, ⟨f1, hO1⟩, ⟨f2, hO2⟩, hI⟩ := hS
  have hx := hG.1.2.2
  refine m_aload_n C 4 dL_law_1552 rfl rfl ?_
  refine m_aload_n C 5 dL_law_1553 rfl rfl ?_
  refine m_iload C 0 dL_law_1554 rfl ?_
  refine m_iconst C dL_law_1556 ?_
  refine m_iadd C dL_law_1557 ?_
  refine m_sld C hXs hbl dL_law_1558 (by omega) hL ?_
  refine m_aload_n C 2 dL_law_1559 rfl rfl ?_
  refine m_callSW C (w_energy hF hl hNC hG (o1 := x + 248) (by omega) hO1 (hM := C_energy hF hl hJ hX hG hI (by omega) (m_rng _))) dL_law_1560 kw_L_energy kS_L_238 rfl rfl (Nat.le_of_ble_eq_true rfl) ⟨(Nat.le_of_ble_eq_true rfl), (Nat.le_of_ble_eq_true rfl)⟩ ⟨by show _ ≤ 603072; omega, by show _ ≤ 7186538; omega⟩ (fun v9 M1 h9 => ?_)
  obtain ⟨rfl, hr5, hv1, ⟨f3, hO3⟩, hG1, hf1⟩ := h9
  refine m_istore C dL_law_1563 (by decide) rfl ?_
  have hD1 := hD.keep (M2 := M1) (fun q q1 q2 => hf1.2 q (by omega) (by omega) (by omega))
  obtain ⟨fs1, hob1⟩ := hD1.ob
  refine m_aload_n C 4 dL_law_1565 rfl rfl ?_
  refine m_aload_n C 6 dL_law_1566 rfl rfl ?_
  refine m_iload C 1 dL_law_1567 rfl ?_
  refine m_iconst C dL_law_1569 ?_
  refine m_iadd C dL_law_1570 ?_
  refine m_sld C hXs hbl dL_law_1571 (by omega) hL ?_
  refine m_callV C (R_energy hF hl hJ hN hD1 (by omega) hI (by omega) hG.tx hG.ot (m_rng _)) dL_law_1572 kc_X10_energy kV_L_240 hob1 rfl rfl rfl rfl (Nat.le_of_ble_eq_true rfl) ⟨(Nat.le_of_ble_eq_true rfl), (Nat.le_of_ble_eq_true rfl)⟩ ⟨by show _ ≤ 603072; omega, by show _ ≤ 7186538; omega⟩ m_nox (fun v9 M2 h9 => ?_)
  obtain ⟨z, rfl, hz, hD2, hf2⟩ := h9
  refine m_istore C dL_law_1575 (by decide) rfl ?_
  have hI2 : lI (K + 63600) (W) := (hI.mono (by omega))
  have hkk := m_W_k (kk (W) M2 ⟨hG1.mfr hf2, ⟨_, hD2⟩, ⟨f3, (hf2.2 _ (by omega)).trans hO3⟩, ⟨f2, (hf2.2 _ (by omega)).trans ((hf1.2 _ (by omega) (by omega) (by omega)).trans hO2)⟩, hI2⟩)
  exact m_tail hF hl C hx hD2 hI2 (by omega) hr5 hz (fun z0 => (hf2.2 _ (by omega)).trans (hv1 z0)) ⟨by omega, by omega⟩ dL_law_1577 dL_law_1578 dL_law_1581 dL_law_1583 dL_law_1588 dL_law_1590 dL_law_1593 dL_law_1594 dL_law_1595 dL_law_1596 dL_law_1598 dL_law_1599 dL_law_1600 dL_law_1605 (by decide) hkk
set_option maxHeartbeats 2000000 in
theorem L_goblinByWealth (hF : m_F D aC s) (hl : l.stackTraces = false) (hJ : m_J s fo ks vs fA sA dO dT) (hX : m_TH s) (hN : m_NM s sa va) (hNC : m_NC s) (C : m_C D aC s RL cL_law 10 l p s m args meth c) {b L x : Nat} {xs : Nat → Int32} (hXs : va_X b L xs s s.heap) (hbl : b < s.heap.size) (hL : L ≤ 2560) {K i : Int} {W : gW} {M : m_M} (hi : 0 ≤ i ∧ i + 5 ≤ (L : Int)) (hK : K ≤ 76000000) (hS : lS s fo x K W M) (hc : cells + 470 ≤ 603072 ∧ slots + 940 ≤ 7186538) (kk : ∀ (W2 : gW) (M2 : m_M), lS s fo x (K + 63600) W2 M2 → m_W D aC s 10 p l e room_1 s m args below meth c (cells + 470) (slots + 940) Q 2889 (lL i x b) [] M2) : m_W D aC s 10 p l e room_1 s m args below meth c cells slots Q 1608 (lL i x b) [] M := by
  obtain ⟨hG, ⟨th, hD⟩, ⟨f1, hO1⟩, ⟨f2, hO2⟩, hI⟩ := hS
  have hx := hG.1.2.2
  refine m_aload_n C 4 dL_law_1608 rfl rfl ?_
  refine m_aload_n C 5 dL_law_1609 rfl rfl ?_
  refine m_iload C 0 dL_law_1610 rfl ?_
  refine m_iconst C dL_law_1612 ?_
  refine m_iadd C dL_law_1613 ?_
  refine m_sld C hXs hbl dL_law_1614 (by omega) hL ?_
  refine m_aload_n C 2 dL_law_1615 rfl rfl ?_
  refine m_callSW C (w_goblinByWealth hF hl hNC hG (o1 := x + 248) (by omega) hO1 (hM := C_goblinByWealth hF hl hJ hX hG hI (by omega) (m_rng _))) dL_law_1616 kw_L_goblinByWealth kS_L_241 rfl rfl (Nat.le_of_ble_eq_true rfl) ⟨(Nat.le_of_ble_eq_true rfl), (Nat.le_of_ble_eq_true rfl)⟩ ⟨by show _ ≤ 603072; omega, by show _ ≤ 7186538; omega⟩ (fun v9 M1 h9 => ?_)
  obtain ⟨rfl, hr5, hv1, ⟨f3, hO3⟩, hG1, hf1⟩ := h9
  refine m_istore C dL_law_1619 (by decide) rfl ?_
  have hD1 := hD.keep (M2 := M1) (fun q q1 q2 => hf1.2 q (by omega) (by omega) (by omega))
  obtain ⟨fs1, hob1⟩ := hD1.ob
  refine m_aload_n C 4 dL_law_1621 rfl rfl ?_
  refine m_aload_n C 6 dL_law_1622 rfl rfl ?_
  refine m_iload C 1 dL_law_1623 rfl ?_
  refine m_iconst C dL_law_1625 ?_
  refine m_iadd C dL_law_1626 ?_
  refine m_sld C hXs hbl dL_law_1627 (by omega) hL ?_
  refine m_callV C (R_goblinByWealth hF hl hJ hN hD1 (by omega) hI (by omega) hG.tx hG.ot (m_rng _)) dL_law_1628 kc_X10_goblinByWealth kV_L_243 hob1 rfl rfl rfl rfl (Nat.le_of_ble_eq_true rfl) ⟨(Nat.le_of_ble_eq_true rfl), (Nat.le_of_ble_eq_true rfl)⟩ ⟨by show _ ≤ 603072; omega, by show _ ≤ 7186538; omega⟩ m_nox (fun v9 M2 h9 => ?_)
  obtain ⟨z, rfl, hz, hD2, hf2⟩ := h9
  refine m_istore C dL_law_1631 (by decide) rfl ?_
  have hI2 : lI (K + 63600) (W) := (hI.mono (by omega))
  have hkk := m_W_k (kk (W) M2 ⟨hG1.mfr hf2, ⟨_, hD2⟩, ⟨f3, (hf2.2 _ (by omega)).trans hO3⟩, ⟨f2, (hf2.2 _ (by omega)).trans ((hf1.2 _ (by omega) (by omega) (by omega)).trans hO2)⟩, hI2⟩)
  exact m_tail hF hl C hx hD2 hI2 (by omega) hr5 hz (fun z0 => (hf2.2 _ (by omega)).trans (hv1 z0)) ⟨by omega, by omega⟩ dL_law_1633 dL_law_1634 dL_law_1637 dL_law_1639 dL_law_1644 dL_law_1646 dL_law_1649 dL_law_1650 dL_law_1651 dL_law_1652 dL_law_1654 dL_law_1655 dL_law_1656 dL_law_1661 (by decide) hkk
set_option maxHeartbeats 2000000 in
theorem L_bestWages (hF : m_F D aC s) (hl : l.stackTraces = false) (hJ : m_J s fo ks vs fA sA dO dT) (hX : m_TH s) (hN : m_NM s sa va) (hNC : m_NC s) (C : m_C D aC s RL cL_law 10 l p s m args meth c) {b L x : Nat} {xs : Nat → Int32} (hXs : va_X b L xs s s.heap) (hbl : b < s.heap.size) (hL : L ≤ 2560) {K i : Int} {W : gW} {M : m_M} (hi : 0 ≤ i ∧ i + 5 ≤ (L : Int)) (hK : K ≤ 76000000) (hS : lS s fo x K W M) (hc : cells + 470 ≤ 603072 ∧ slots + 940 ≤ 7186538) (kk : ∀ (W2 : gW) (M2 : m_M), lS s fo x (K + 63600) W2 M2 → m_W D aC s 10 p l e room_1 s m args below meth c (cells + 470) (slots + 940) Q 2889 (lL i x b) [] M2) : m_W D aC s 10 p l e room_1 s m args below meth c cells slots Q 1664 (lL i x b) [] M := by
  obtain ⟨hG, ⟨th, hD⟩, ⟨f1, hO1⟩, ⟨f2, hO2⟩, hI⟩ := hS
  have hx := hG.1.2.2
  refine m_aload_n C 4 dL_law_1664 rfl rfl ?_
  refine m_aload_n C 5 dL_law_1665 rfl rfl ?_
  refine m_iload C 0 dL_law_1666 rfl ?_
  refine m_iconst C dL_law_1668 ?_
  refine m_iadd C dL_law_1669 ?_
  refine m_sld C hXs hbl dL_law_1670 (by omega) hL ?_
  refine m_aload_n C 2 dL_law_1671 rfl rfl ?_
  refine m_callSW C (w_bestWages hF hl hNC hG (o1 := x + 248) (by omega) hO1 (hM := C_bestWages hF hl hJ hX hG hI (by omega) (m_rng _))) dL_law_1672 kw_L_bestWages kS_L_244 rfl rfl (Nat.le_of_ble_eq_true rfl) ⟨(Nat.le_of_ble_eq_true rfl), (Nat.le_of_ble_eq_true rfl)⟩ ⟨by show _ ≤ 603072; omega, by show _ ≤ 7186538; omega⟩ (fun v9 M1 h9 => ?_)
  obtain ⟨rfl, hr5, hv1, ⟨f3, hO3⟩, hG1, hf1⟩ := h9
  refine m_istore C dL_law_1675 (by decide) rfl ?_
  have hD1 := hD.keep (M2 := M1) (fun q q1 q2 => hf1.2 q (by omega) (by omega) (by omega))
  obtain ⟨fs1, hob1⟩ := hD1.ob
  refine m_aload_n C 4 dL_law_1677 rfl rfl ?_
  refine m_aload_n C 6 dL_law_1678 rfl rfl ?_
  refine m_iload C 1 dL_law_1679 rfl ?_
  refine m_iconst C dL_law_1681 ?_
  refine m_iadd C dL_law_1682 ?_
  refine m_sld C hXs hbl dL_law_1683 (by omega) hL ?_
  refine m_callV C (R_bestWages hF hl hJ hN hD1 (by omega) hI (by omega) hG.tx hG.ot (m_rng _)) dL_law_1684 kc_X10_bestWages kV_L_246 hob1 rfl rfl rfl rfl (Nat.le_of_ble_eq_true rfl) ⟨(Nat.le_of_ble_eq_true rfl), (Nat.le_of_ble_eq_true rfl)⟩ ⟨by show _ ≤ 603072; omega, by show _ ≤ 7186538; omega⟩ m_nox (fun v9 M2 h9 => ?_)
  obtain ⟨z, rfl, hz, hD2, hf2⟩ := h9
  refine m_istore C dL_law_1687 (by decide) rfl ?_
  have hI2 : lI (K + 63600) (W) := (hI.mono (by omega))
  have hkk := m_W_k (kk (W) M2 ⟨hG1.mfr hf2, ⟨_, hD2⟩, ⟨f3, (hf2.2 _ (by omega)).trans hO3⟩, ⟨f2, (hf2.2 _ (by omega)).trans ((hf1.2 _ (by omega) (by omega) (by omega)).trans hO2)⟩, hI2⟩)
  exact m_tail hF hl C hx hD2 hI2 (by omega) hr5 hz (fun z0 => (hf2.2 _ (by omega)).trans (hv1 z0)) ⟨by omega, by omega⟩ dL_law_1689 dL_law_1690 dL_law_1693 dL_law_1695 dL_law_1700 dL_law_1702 dL_law_1705 dL_law_1706 dL_law_1707 dL_law_1708 dL_law_1710 dL_law_1711 dL_law_1712 dL_law_1717 (by decide) hkk
set_option maxHeartbeats 2000000 in
theorem L_bestWagesByTable (hF : m_F D aC s) (hl : l.stackTraces = false) (hJ : m_J s fo ks vs fA sA dO dT) (hX : m_TH s) (hN : m_NM s sa va) (hNC : m_NC s) (C : m_C D aC s RL cL_law 10 l p s m args meth c) {b L x : Nat} {xs : Nat → Int32} (hXs : va_X b L xs s s.heap) (hbl : b < s.heap.size) (hL : L ≤ 2560) {K i : Int} {W : gW} {M : m_M} (hi : 0 ≤ i ∧ i + 5 ≤ (L : Int)) (hK : K ≤ 76000000) (hS : lS s fo x K W M) (hc : cells + 470 ≤ 603072 ∧ slots + 940 ≤ 7186538) (kk : ∀ (W2 : gW) (M2 : m_M), lS s fo x (K + 63600) W2 M2 → m_W D aC s 10 p l e room_1 s m args below meth c (cells + 470) (slots + 940) Q 2889 (lL i x b) [] M2) : m_W D aC s 10 p l e room_1 s m args below meth c cells slots Q 1720 (lL i x b) [] M := by
  obtain ⟨hG, ⟨th, hD⟩, ⟨f1, hO1⟩, ⟨f2, hO2⟩, hI⟩ := hS
  have hx := hG.1.2.2
  refine m_aload_n C 4 dL_law_1720 rfl rfl ?_
  refine m_aload_n C 5 dL_law_1721 rfl rfl ?_
  refine m_iload C 0 dL_law_1722 rfl ?_
  refine m_iconst C dL_law_1724 ?_
  refine m_iadd C dL_law_1725 ?_
  refine m_sld C hXs hbl dL_law_1726 (by omega) hL ?_
  refine m_aload_n C 2 dL_law_1727 rfl rfl ?_
  refine m_callSW C (w_bestWagesByTable hF hl hNC hG (o1 := x + 248) (by omega) hO1 (hM := C_bestWagesByTable hF hl hJ hX hG hI (by omega) (m_rng _))) dL_law_1728 kw_L_bestWagesByTable kS_L_247 rfl rfl (Nat.le_of_ble_eq_true rfl) ⟨(Nat.le_of_ble_eq_true rfl), (Nat.le_of_ble_eq_true rfl)⟩ ⟨by show _ ≤ 603072; omega, by show _ ≤ 7186538; omega⟩ (fun v9 M1 h9 => ?_)
  obtain ⟨rfl, hr5, hv1, ⟨f3, hO3⟩, hG1, hf1⟩ := h9
  refine m_istore C dL_law_1731 (by decide) rfl ?_
  have hD1 := hD.keep (M2 := M1) (fun q q1 q2 => hf1.2 q (by omega) (by omega) (by omega))
  obtain ⟨fs1, hob1⟩ := hD1.ob
  refine m_aload_n C 4 dL_law_1733 rfl rfl ?_
  refine m_aload_n C 6 dL_law_1734 rfl rfl ?_
  refine m_iload C 1 dL_law_1735 rfl ?_
  refine m_iconst C dL_law_1737 ?_
  refine m_iadd C dL_law_1738 ?_
  refine m_sld C hXs hbl dL_law_1739 (by omega) hL ?_
  refine m_callV C (R_bestWagesByTable hF hl hJ hN hD1 (by omega) hI (by omega) hG.tx hG.ot (m_rng _)) dL_law_1740 kc_X10_bestWagesByTable kV_L_249 hob1 rfl rfl rfl rfl (Nat.le_of_ble_eq_true rfl) ⟨(Nat.le_of_ble_eq_true rfl), (Nat.le_of_ble_eq_true rfl)⟩ ⟨by show _ ≤ 603072; omega, by show _ ≤ 7186538; omega⟩ m_nox (fun v9 M2 h9 => ?_)
  obtain ⟨z, rfl, hz, hD2, hf2⟩ := h9
  refine m_istore C dL_law_1743 (by decide) rfl ?_
  have hI2 : lI (K + 63600) (W) := (hI.mono (by omega))
  have hkk := m_W_k (kk (W) M2 ⟨hG1.mfr hf2, ⟨_, hD2⟩, ⟨f3, (hf2.2 _ (by omega)).trans hO3⟩, ⟨f2, (hf2.2 _ (by omega)).trans ((hf1.2 _ (by omega) (by omega) (by omega)).trans hO2)⟩, hI2⟩)
  exact m_tail hF hl C hx hD2 hI2 (by omega) hr5 hz (fun z0 => (hf2.2 _ (by omega)).trans (hv1 z0)) ⟨by omega, by omega⟩ dL_law_1745 dL_law_1746 dL_law_1749 dL_law_1751 dL_law_1756 dL_law_1758 dL_law_1761 dL_law_1762 dL_law_1763 dL_law_1764 dL_law_1766 dL_law_1767 dL_law_1768 dL_law_1773 (by decide) hkk
set_option maxHeartbeats 2000000 in
theorem L_openContracts (hF : m_F D aC s) (hl : l.stackTraces = false) (hJ : m_J s fo ks vs fA sA dO dT) (hX : m_TH s) (hN : m_NM s sa va) (hNC : m_NC s) (C : m_C D aC s RL cL_law 10 l p s m args meth c) {b L x : Nat} {xs : Nat → Int32} (hXs : va_X b L xs s s.heap) (hbl : b < s.heap.size) (hL : L ≤ 2560) {K i : Int} {W : gW} {M : m_M} (hi : 0 ≤ i ∧ i + 5 ≤ (L : Int)) (hK : K ≤ 76000000) (hS : lS s fo x K W M) (hc : cells + 470 ≤ 603072 ∧ slots + 940 ≤ 7186538) (kk : ∀ (W2 : gW) (M2 : m_M), lS s fo x (K + 63600) W2 M2 → m_W D aC s 10 p l e room_1 s m args below meth c (cells + 470) (slots + 940) Q 2889 (lL i x b) [] M2) : m_W D aC s 10 p l e room_1 s m args below meth c cells slots Q 1776 (lL i x b) [] M := by
  obtain ⟨hG, ⟨th, hD⟩, ⟨f1, hO1⟩, ⟨f2, hO2⟩, hI⟩ := hS
  have hx := hG.1.2.2
  refine m_aload_n C 4 dL_law_1776 rfl rfl ?_
  refine m_callV C (C_openContracts hF hl hJ hX hG hI (by omega)) dL_law_1777 kc_X9_openContracts kV_L_250 hG.2.1 rfl rfl rfl rfl (Nat.le_of_ble_eq_true rfl) ⟨(Nat.le_of_ble_eq_true rfl), (Nat.le_of_ble_eq_true rfl)⟩ ⟨by show _ ≤ 603072; omega, by show _ ≤ 7186538; omega⟩ (fun E M1 ce q9 H1 locs1 ls h1 hx hH hS hce hcv hcl => absurd hx.1.2 (by simp)) (fun v9 M1 h9 => ?_)
  obtain ⟨-, rfl, hG1, hf1⟩ := h9
  have hD1 := hD.keep (M2 := M1) (fun q q1 q2 => hf1.2 q (by omega) (by omega))
  obtain ⟨fs1, hob1⟩ := hD1.ob
  refine m_aload_n C 3 dL_law_1780 rfl rfl ?_
  refine m_callV C (R_openContracts hF hl hJ hN hD1 (by omega) hI (by omega) hG.tx hG.ot) dL_law_1781 kc_X10_openContracts kV_L_253 hob1 rfl rfl rfl rfl (Nat.le_of_ble_eq_true rfl) ⟨(Nat.le_of_ble_eq_true rfl), (Nat.le_of_ble_eq_true rfl)⟩ ⟨by show _ ≤ 603072; omega, by show _ ≤ 7186538; omega⟩ m_nox (fun v9 M2 h9 => ?_)
  obtain ⟨z, rfl, hz, hD2, hf2⟩ := h9
  have hz := hz rfl
  subst hz
  refine m_icmp_same (tgt := 2889) C dL_law_1784 (by decide) ?_
  exact kk (W) M2 ⟨hG1.mfr hf2, ⟨_, hD2⟩, ⟨f1, (hf2.2 _ (by omega)).trans ((hf1.2 _ (by omega) (by omega)).trans hO1)⟩, ⟨f2, (hf2.2 _ (by omega)).trans ((hf1.2 _ (by omega) (by omega)).trans hO2)⟩, (hI.mono (by omega))⟩
set_option maxHeartbeats 2000000 in
theorem L_contractAt (hF : m_F D aC s) (hl : l.stackTraces = false) (hJ : m_J s fo ks vs fA sA dO dT) (hX : m_TH s) (hN : m_NM s sa va) (hNC : m_NC s) (C : m_C D aC s RL cL_law 10 l p s m args meth c) {b L x : Nat} {xs : Nat → Int32} (hXs : va_X b L xs s s.heap) (hbl : b < s.heap.size) (hL : L ≤ 2560) {K i : Int} {W : gW} {M : m_M} (hi : 0 ≤ i ∧ i + 5 ≤ (L : Int)) (hK : K ≤ 76000000) (hS : lS s fo x K W M) (hc : cells + 470 ≤ 603072 ∧ slots + 940 ≤ 7186538) (kk : ∀ (W2 : gW) (M2 : m_M), lS s fo x (K + 63600) W2 M2 → m_W D aC s 10 p l e room_1 s m args below meth c (cells + 470) (slots + 940) Q 2889 (lL i x b) [] M2) : m_W D aC s 10 p l e room_1 s m args below meth c cells slots Q 1789 (lL i x b) [] M := by
  obtain ⟨hG, ⟨th, hD⟩, ⟨f1, hO1⟩, ⟨f2, hO2⟩, hI⟩ := hS
  have hx := hG.1.2.2
  refine m_aload_n C 4 dL_law_1789 rfl rfl ?_
  refine m_aload_n C 5 dL_law_1790 rfl rfl ?_
  refine m_iload C 0 dL_law_1791 rfl ?_
  refine m_iconst C dL_law_1793 ?_
  refine m_iadd C dL_law_1794 ?_
  refine m_sld C hXs hbl dL_law_1795 (by omega) hL ?_
  refine m_aload_n C 2 dL_law_1796 rfl rfl ?_
  refine m_callSW C (w_contractAt hF hl hNC hG (o1 := x + 248) (by omega) hO1 (hM := C_contractAt hF hl hJ hX hG hI (by omega) (m_rng _))) dL_law_1797 kw_L_contractAt kS_L_254 rfl rfl (Nat.le_of_ble_eq_true rfl) ⟨(Nat.le_of_ble_eq_true rfl), (Nat.le_of_ble_eq_true rfl)⟩ ⟨by show _ ≤ 603072; omega, by show _ ≤ 7186538; omega⟩ (fun v9 M1 h9 => ?_)
  obtain ⟨rfl, hr5, hv1, ⟨f3, hO3⟩, hG1, hf1⟩ := h9
  refine m_istore C dL_law_1800 (by decide) rfl ?_
  have hD1 := hD.keep (M2 := M1) (fun q q1 q2 => hf1.2 q (by omega) (by omega) (by omega))
  obtain ⟨fs1, hob1⟩ := hD1.ob
  refine m_aload_n C 4 dL_law_1802 rfl rfl ?_
  refine m_aload_n C 6 dL_law_1803 rfl rfl ?_
  refine m_iload C 1 dL_law_1804 rfl ?_
  refine m_iconst C dL_law_1806 ?_
  refine m_iadd C dL_law_1807 ?_
  refine m_sld C hXs hbl dL_law_1808 (by omega) hL ?_
  refine m_callV C (R_contractAt hF hl hJ hN hD1 (by omega) hI (by omega) hG.tx hG.ot (m_rng _)) dL_law_1809 kc_X10_contractAt kV_L_256 hob1 rfl rfl rfl rfl (Nat.le_of_ble_eq_true rfl) ⟨(Nat.le_of_ble_eq_true rfl), (Nat.le_of_ble_eq_true rfl)⟩ ⟨by show _ ≤ 603072; omega, by show _ ≤ 7186538; omega⟩ m_nox (fun v9 M2 h9 => ?_)
  obtain ⟨z, rfl, hz, hD2, hf2⟩ := h9
  refine m_istore C dL_law_1812 (by decide) rfl ?_
  have hI2 : lI (K + 63600) (W) := (hI.mono (by omega))
  have hkk := m_W_k (kk (W) M2 ⟨hG1.mfr hf2, ⟨_, hD2⟩, ⟨f3, (hf2.2 _ (by omega)).trans hO3⟩, ⟨f2, (hf2.2 _ (by omega)).trans ((hf1.2 _ (by omega) (by omega) (by omega)).trans hO2)⟩, hI2⟩)
  exact m_tail hF hl C hx hD2 hI2 (by omega) hr5 hz (fun z0 => (hf2.2 _ (by omega)).trans (hv1 z0)) ⟨by omega, by omega⟩ dL_law_1814 dL_law_1815 dL_law_1818 dL_law_1820 dL_law_1825 dL_law_1827 dL_law_1830 dL_law_1831 dL_law_1832 dL_law_1833 dL_law_1835 dL_law_1836 dL_law_1837 dL_law_1842 (by decide) hkk
set_option maxHeartbeats 2000000 in
theorem L_goblinOf (hF : m_F D aC s) (hl : l.stackTraces = false) (hJ : m_J s fo ks vs fA sA dO dT) (hX : m_TH s) (hN : m_NM s sa va) (hNC : m_NC s) (C : m_C D aC s RL cL_law 10 l p s m args meth c) {b L x : Nat} {xs : Nat → Int32} (hXs : va_X b L xs s s.heap) (hbl : b < s.heap.size) (hL : L ≤ 2560) {K i : Int} {W : gW} {M : m_M} (hi : 0 ≤ i ∧ i + 5 ≤ (L : Int)) (hK : K ≤ 76000000) (hS : lS s fo x K W M) (hc : cells + 470 ≤ 603072 ∧ slots + 940 ≤ 7186538) (kk : ∀ (W2 : gW) (M2 : m_M), lS s fo x (K + 63600) W2 M2 → m_W D aC s 10 p l e room_1 s m args below meth c (cells + 470) (slots + 940) Q 2889 (lL i x b) [] M2) : m_W D aC s 10 p l e room_1 s m args below meth c cells slots Q 1845 (lL i x b) [] M := by
  obtain ⟨hG, ⟨th, hD⟩, ⟨f1, hO1⟩, ⟨f2, hO2⟩, hI⟩ := hS
  have hx := hG.1.2.2
  refine m_aload_n C 4 dL_law_1845 rfl rfl ?_
  refine m_aload_n C 5 dL_law_1846 rfl rfl ?_
  refine m_iload C 0 dL_law_1847 rfl ?_
  refine m_iconst C dL_law_1849 ?_
  refine m_iadd C dL_law_1850 ?_
  refine m_sld C hXs hbl dL_law_1851 (by omega) hL ?_
  refine m_aload_n C 2 dL_law_1852 rfl rfl ?_
  refine m_callSW C (w_goblinOf hF hl hNC hG (o1 := x + 248) (by omega) hO1 (hM := C_goblinOf hF hl hJ hX hG hI (by omega) (m_rng _))) dL_law_1853 kw_L_goblinOf kS_L_257 rfl rfl (Nat.le_of_ble_eq_true rfl) ⟨(Nat.le_of_ble_eq_true rfl), (Nat.le_of_ble_eq_true rfl)⟩ ⟨by show _ ≤ 603072; omega, by show _ ≤ 7186538; omega⟩ (fun v9 M1 h9 => ?_)
  obtain ⟨rfl, hr5, hv1, ⟨f3, hO3⟩, hG1, hf1⟩ := h9
  refine m_istore C dL_law_1856 (by decide) rfl ?_
  have hD1 := hD.keep (M2 := M1) (fun q q1 q2 => hf1.2 q (by omega) (by omega) (by omega))
  obtain ⟨fs1, hob1⟩ := hD1.ob
  refine m_aload_n C 4 dL_law_1858 rfl rfl ?_
  refine m_aload_n C 6 dL_law_1859 rfl rfl ?_
  refine m_iload C 1 dL_law_1860 rfl ?_
  refine m_iconst C dL_law_1862 ?_
  refine m_iadd C dL_law_1863 ?_
  refine m_sld C hXs hbl dL_law_1864 (by omega) hL ?_
  refine m_callV C (R_goblinOf hF hl hJ hN hD1 (by omega) hI (by omega) hG.tx hG.ot (m_rng _)) dL_law_1865 kc_X10_goblinOf kV_L_259 hob1 rfl rfl rfl rfl (Nat.le_of_ble_eq_true rfl) ⟨(Nat.le_of_ble_eq_true rfl), (Nat.le_of_ble_eq_true rfl)⟩ ⟨by show _ ≤ 603072; omega, by show _ ≤ 7186538; omega⟩ m_nox (fun v9 M2 h9 => ?_)
  obtain ⟨z, rfl, hz, hD2, hf2⟩ := h9
  refine m_istore C dL_law_1868 (by decide) rfl ?_
  have hI2 : lI (K + 63600) (W) := (hI.mono (by omega))
  have hkk := m_W_k (kk (W) M2 ⟨hG1.mfr hf2, ⟨_, hD2⟩, ⟨f3, (hf2.2 _ (by omega)).trans hO3⟩, ⟨f2, (hf2.2 _ (by omega)).trans ((hf1.2 _ (by omega) (by omega) (by omega)).trans hO2)⟩, hI2⟩)
  exact m_tail hF hl C hx hD2 hI2 (by omega) hr5 hz (fun z0 => (hf2.2 _ (by omega)).trans (hv1 z0)) ⟨by omega, by omega⟩ dL_law_1870 dL_law_1871 dL_law_1874 dL_law_1876 dL_law_1881 dL_law_1883 dL_law_1886 dL_law_1887 dL_law_1888 dL_law_1889 dL_law_1891 dL_law_1892 dL_law_1893 dL_law_1898 (by decide) hkk
set_option maxHeartbeats 2000000 in
theorem L_roomOf (hF : m_F D aC s) (hl : l.stackTraces = false) (hJ : m_J s fo ks vs fA sA dO dT) (hX : m_TH s) (hN : m_NM s sa va) (hNC : m_NC s) (C : m_C D aC s RL cL_law 10 l p s m args meth c) {b L x : Nat} {xs : Nat → Int32} (hXs : va_X b L xs s s.heap) (hbl : b < s.heap.size) (hL : L ≤ 2560) {K i : Int} {W : gW} {M : m_M} (hi : 0 ≤ i ∧ i + 5 ≤ (L : Int)) (hK : K ≤ 76000000) (hS : lS s fo x K W M) (hc : cells + 470 ≤ 603072 ∧ slots + 940 ≤ 7186538) (kk : ∀ (W2 : gW) (M2 : m_M), lS s fo x (K + 63600) W2 M2 → m_W D aC s 10 p l e room_1 s m args below meth c (cells + 470) (slots + 940) Q 2889 (lL i x b) [] M2) : m_W D aC s 10 p l e room_1 s m args below meth c cells slots Q 1901 (lL i x b) [] M := by
  obtain ⟨hG, ⟨th, hD⟩, ⟨f1, hO1⟩, ⟨f2, hO2⟩, hI⟩ := hS
  have hx := hG.1.2.2
  refine m_aload_n C 4 dL_law_1901 rfl rfl ?_
  refine m_aload_n C 5 dL_law_1902 rfl rfl ?_
  refine m_iload C 0 dL_law_1903 rfl ?_
  refine m_iconst C dL_law_1905 ?_
  refine m_iadd C dL_law_1906 ?_
  refine m_sld C hXs hbl dL_law_1907 (by omega) hL ?_
  refine m_aload_n C 2 dL_law_1908 rfl rfl ?_
  refine m_callSW C (w_roomOf hF hl hNC hG (o1 := x + 248) (by omega) hO1 (hM := C_roomOf hF hl hJ hX hG hI (by omega) (m_rng _))) dL_law_1909 kw_L_roomOf kS_L_260 rfl rfl (Nat.le_of_ble_eq_true rfl) ⟨(Nat.le_of_ble_eq_true rfl), (Nat.le_of_ble_eq_true rfl)⟩ ⟨by show _ ≤ 603072; omega, by show _ ≤ 7186538; omega⟩ (fun v9 M1 h9 => ?_)
  obtain ⟨rfl, hr5, hv1, ⟨f3, hO3⟩, hG1, hf1⟩ := h9
  refine m_istore C dL_law_1912 (by decide) rfl ?_
  have hD1 := hD.keep (M2 := M1) (fun q q1 q2 => hf1.2 q (by omega) (by omega) (by omega))
  obtain ⟨fs1, hob1⟩ := hD1.ob
  refine m_aload_n C 4 dL_law_1914 rfl rfl ?_
  refine m_aload_n C 6 dL_law_1915 rfl rfl ?_
  refine m_iload C 1 dL_law_1916 rfl ?_
  refine m_iconst C dL_law_1918 ?_
  refine m_iadd C dL_law_1919 ?_
  refine m_sld C hXs hbl dL_law_1920 (by omega) hL ?_
  refine m_callV C (R_roomOf hF hl hJ hN hD1 (by omega) hI (by omega) hG.tx hG.ot (m_rng _)) dL_law_1921 kc_X10_roomOf kV_L_262 hob1 rfl rfl rfl rfl (Nat.le_of_ble_eq_true rfl) ⟨(Nat.le_of_ble_eq_true rfl), (Nat.le_of_ble_eq_true rfl)⟩ ⟨by show _ ≤ 603072; omega, by show _ ≤ 7186538; omega⟩ m_nox (fun v9 M2 h9 => ?_)
  obtain ⟨z, rfl, hz, hD2, hf2⟩ := h9
  refine m_istore C dL_law_1924 (by decide) rfl ?_
  have hI2 : lI (K + 63600) (W) := (hI.mono (by omega))
  have hkk := m_W_k (kk (W) M2 ⟨hG1.mfr hf2, ⟨_, hD2⟩, ⟨f3, (hf2.2 _ (by omega)).trans hO3⟩, ⟨f2, (hf2.2 _ (by omega)).trans ((hf1.2 _ (by omega) (by omega) (by omega)).trans hO2)⟩, hI2⟩)
  exact m_tail hF hl C hx hD2 hI2 (by omega) hr5 hz (fun z0 => (hf2.2 _ (by omega)).trans (hv1 z0)) ⟨by omega, by omega⟩ dL_law_1926 dL_law_1927 dL_law_1930 dL_law_1932 dL_law_1937 dL_law_1939 dL_law_1942 dL_law_1943 dL_law_1944 dL_law_1945 dL_law_1947 dL_law_1948 dL_law_1949 dL_law_1954 (by decide) hkk
set_option maxHeartbeats 2000000 in
theorem L_wage (hF : m_F D aC s) (hl : l.stackTraces = false) (hJ : m_J s fo ks vs fA sA dO dT) (hX : m_TH s) (hN : m_NM s sa va) (hNC : m_NC s) (C : m_C D aC s RL cL_law 10 l p s m args meth c) {b L x : Nat} {xs : Nat → Int32} (hXs : va_X b L xs s s.heap) (hbl : b < s.heap.size) (hL : L ≤ 2560) {K i : Int} {W : gW} {M : m_M} (hi : 0 ≤ i ∧ i + 5 ≤ (L : Int)) (hK : K ≤ 76000000) (hS : lS s fo x K W M) (hc : cells + 470 ≤ 603072 ∧ slots + 940 ≤ 7186538) (kk : ∀ (W2 : gW) (M2 : m_M), lS s fo x (K + 63600) W2 M2 → m_W D aC s 10 p l e room_1 s m args below meth c (cells + 470) (slots + 940) Q 2889 (lL i x b) [] M2) : m_W D aC s 10 p l e room_1 s m args below meth c cells slots Q 1957 (lL i x b) [] M := by
  obtain ⟨hG, ⟨th, hD⟩, ⟨f1, hO1⟩, ⟨f2, hO2⟩, hI⟩ := hS
  have hx := hG.1.2.2
  refine m_aload_n C 4 dL_law_1957 rfl rfl ?_
  refine m_aload_n C 5 dL_law_1958 rfl rfl ?_
  refine m_iload C 0 dL_law_1959 rfl ?_
  refine m_iconst C dL_law_1961 ?_
  refine m_iadd C dL_law_1962 ?_
  refine m_sld C hXs hbl dL_law_1963 (by omega) hL ?_
  refine m_aload_n C 2 dL_law_1964 rfl rfl ?_
  refine m_callSW C (w_wage hF hl hNC hG (o1 := x + 248) (by omega) hO1 (hM := C_wage hF hl hJ hX hG hI (by omega) (m_rng _))) dL_law_1965 kw_L_wage kS_L_263 rfl rfl (Nat.le_of_ble_eq_true rfl) ⟨(Nat.le_of_ble_eq_true rfl), (Nat.le_of_ble_eq_true rfl)⟩ ⟨by show _ ≤ 603072; omega, by show _ ≤ 7186538; omega⟩ (fun v9 M1 h9 => ?_)
  obtain ⟨rfl, hr5, hv1, ⟨f3, hO3⟩, hG1, hf1⟩ := h9
  refine m_istore C dL_law_1968 (by decide) rfl ?_
  have hD1 := hD.keep (M2 := M1) (fun q q1 q2 => hf1.2 q (by omega) (by omega) (by omega))
  obtain ⟨fs1, hob1⟩ := hD1.ob
  refine m_aload_n C 4 dL_law_1970 rfl rfl ?_
  refine m_aload_n C 6 dL_law_1971 rfl rfl ?_
  refine m_iload C 1 dL_law_1972 rfl ?_
  refine m_iconst C dL_law_1974 ?_
  refine m_iadd C dL_law_1975 ?_
  refine m_sld C hXs hbl dL_law_1976 (by omega) hL ?_
  refine m_callV C (R_wage hF hl hJ hN hD1 (by omega) hI (by omega) hG.tx hG.ot (m_rng _)) dL_law_1977 kc_X10_wage kV_L_265 hob1 rfl rfl rfl rfl (Nat.le_of_ble_eq_true rfl) ⟨(Nat.le_of_ble_eq_true rfl), (Nat.le_of_ble_eq_true rfl)⟩ ⟨by show _ ≤ 603072; omega, by show _ ≤ 7186538; omega⟩ m_nox (fun v9 M2 h9 => ?_)
  obtain ⟨z, rfl, hz, hD2, hf2⟩ := h9
  refine m_istore C dL_law_1980 (by decide) rfl ?_
  have hI2 : lI (K + 63600) (W) := (hI.mono (by omega))
  have hkk := m_W_k (kk (W) M2 ⟨hG1.mfr hf2, ⟨_, hD2⟩, ⟨f3, (hf2.2 _ (by omega)).trans hO3⟩, ⟨f2, (hf2.2 _ (by omega)).trans ((hf1.2 _ (by omega) (by omega) (by omega)).trans hO2)⟩, hI2⟩)
  exact m_tail hF hl C hx hD2 hI2 (by omega) hr5 hz (fun z0 => (hf2.2 _ (by omega)).trans (hv1 z0)) ⟨by omega, by omega⟩ dL_law_1982 dL_law_1983 dL_law_1986 dL_law_1988 dL_law_1993 dL_law_1995 dL_law_1998 dL_law_1999 dL_law_2000 dL_law_2001 dL_law_2003 dL_law_2004 dL_law_2005 dL_law_2010 (by decide) hkk
set_option maxHeartbeats 2000000 in
theorem L_effort (hF : m_F D aC s) (hl : l.stackTraces = false) (hJ : m_J s fo ks vs fA sA dO dT) (hX : m_TH s) (hN : m_NM s sa va) (hNC : m_NC s) (C : m_C D aC s RL cL_law 10 l p s m args meth c) {b L x : Nat} {xs : Nat → Int32} (hXs : va_X b L xs s s.heap) (hbl : b < s.heap.size) (hL : L ≤ 2560) {K i : Int} {W : gW} {M : m_M} (hi : 0 ≤ i ∧ i + 5 ≤ (L : Int)) (hK : K ≤ 76000000) (hS : lS s fo x K W M) (hc : cells + 470 ≤ 603072 ∧ slots + 940 ≤ 7186538) (kk : ∀ (W2 : gW) (M2 : m_M), lS s fo x (K + 63600) W2 M2 → m_W D aC s 10 p l e room_1 s m args below meth c (cells + 470) (slots + 940) Q 2889 (lL i x b) [] M2) : m_W D aC s 10 p l e room_1 s m args below meth c cells slots Q 2013 (lL i x b) [] M := by
  obtain ⟨hG, ⟨th, hD⟩, ⟨f1, hO1⟩, ⟨f2, hO2⟩, hI⟩ := hS
  have hx := hG.1.2.2
  refine m_aload_n C 4 dL_law_2013 rfl rfl ?_
  refine m_aload_n C 5 dL_law_2014 rfl rfl ?_
  refine m_iload C 0 dL_law_2015 rfl ?_
  refine m_iconst C dL_law_2017 ?_
  refine m_iadd C dL_law_2018 ?_
  refine m_sld C hXs hbl dL_law_2019 (by omega) hL ?_
  refine m_aload_n C 2 dL_law_2020 rfl rfl ?_
  refine m_callSW C (w_effort hF hl hNC hG (o1 := x + 248) (by omega) hO1 (hM := C_effort hF hl hJ hX hG hI (by omega) (m_rng _))) dL_law_2021 kw_L_effort kS_L_266 rfl rfl (Nat.le_of_ble_eq_true rfl) ⟨(Nat.le_of_ble_eq_true rfl), (Nat.le_of_ble_eq_true rfl)⟩ ⟨by show _ ≤ 603072; omega, by show _ ≤ 7186538; omega⟩ (fun v9 M1 h9 => ?_)
  obtain ⟨rfl, hr5, hv1, ⟨f3, hO3⟩, hG1, hf1⟩ := h9
  refine m_istore C dL_law_2024 (by decide) rfl ?_
  have hD1 := hD.keep (M2 := M1) (fun q q1 q2 => hf1.2 q (by omega) (by omega) (by omega))
  obtain ⟨fs1, hob1⟩ := hD1.ob
  refine m_aload_n C 4 dL_law_2026 rfl rfl ?_
  refine m_aload_n C 6 dL_law_2027 rfl rfl ?_
  refine m_iload C 1 dL_law_2028 rfl ?_
  refine m_iconst C dL_law_2030 ?_
  refine m_iadd C dL_law_2031 ?_
  refine m_sld C hXs hbl dL_law_2032 (by omega) hL ?_
  refine m_callV C (R_effort hF hl hJ hN hD1 (by omega) hI (by omega) hG.tx hG.ot (m_rng _)) dL_law_2033 kc_X10_effort kV_L_268 hob1 rfl rfl rfl rfl (Nat.le_of_ble_eq_true rfl) ⟨(Nat.le_of_ble_eq_true rfl), (Nat.le_of_ble_eq_true rfl)⟩ ⟨by show _ ≤ 603072; omega, by show _ ≤ 7186538; omega⟩ m_nox (fun v9 M2 h9 => ?_)
  obtain ⟨z, rfl, hz, hD2, hf2⟩ := h9
  refine m_istore C dL_law_2036 (by decide) rfl ?_
  have hI2 : lI (K + 63600) (W) := (hI.mono (by omega))
  have hkk := m_W_k (kk (W) M2 ⟨hG1.mfr hf2, ⟨_, hD2⟩, ⟨f3, (hf2.2 _ (by omega)).trans hO3⟩, ⟨f2, (hf2.2 _ (by omega)).trans ((hf1.2 _ (by omega) (by omega) (by omega)).trans hO2)⟩, hI2⟩)
  exact m_tail hF hl C hx hD2 hI2 (by omega) hr5 hz (fun z0 => (hf2.2 _ (by omega)).trans (hv1 z0)) ⟨by omega, by omega⟩ dL_law_2038 dL_law_2039 dL_law_2042 dL_law_2044 dL_law_2049 dL_law_2051 dL_law_2054 dL_law_2055 dL_law_2056 dL_law_2057 dL_law_2059 dL_law_2060 dL_law_2061 dL_law_2066 (by decide) hkk
set_option maxHeartbeats 2000000 in
theorem L_nightsUntilDone (hF : m_F D aC s) (hl : l.stackTraces = false) (hJ : m_J s fo ks vs fA sA dO dT) (hX : m_TH s) (hN : m_NM s sa va) (hNC : m_NC s) (C : m_C D aC s RL cL_law 10 l p s m args meth c) {b L x : Nat} {xs : Nat → Int32} (hXs : va_X b L xs s s.heap) (hbl : b < s.heap.size) (hL : L ≤ 2560) {K i : Int} {W : gW} {M : m_M} (hi : 0 ≤ i ∧ i + 5 ≤ (L : Int)) (hK : K ≤ 76000000) (hS : lS s fo x K W M) (hc : cells + 470 ≤ 603072 ∧ slots + 940 ≤ 7186538) (kk : ∀ (W2 : gW) (M2 : m_M), lS s fo x (K + 63600) W2 M2 → m_W D aC s 10 p l e room_1 s m args below meth c (cells + 470) (slots + 940) Q 2889 (lL i x b) [] M2) : m_W D aC s 10 p l e room_1 s m args below meth c cells slots Q 2069 (lL i x b) [] M := by
  obtain ⟨hG, ⟨th, hD⟩, ⟨f1, hO1⟩, ⟨f2, hO2⟩, hI⟩ := hS
  have hx := hG.1.2.2
  refine m_aload_n C 4 dL_law_2069 rfl rfl ?_
  refine m_aload_n C 5 dL_law_2070 rfl rfl ?_
  refine m_iload C 0 dL_law_2071 rfl ?_
  refine m_iconst C dL_law_2073 ?_
  refine m_iadd C dL_law_2074 ?_
  refine m_sld C hXs hbl dL_law_2075 (by omega) hL ?_
  refine m_aload_n C 2 dL_law_2076 rfl rfl ?_
  refine m_callSW C (w_nightsUntilDone hF hl hNC hG (o1 := x + 248) (by omega) hO1 (hM := C_nightsUntilDone hF hl hJ hX hG hI (by omega) (m_rng _))) dL_law_2077 kw_L_nightsUntilDone kS_L_269 rfl rfl (Nat.le_of_ble_eq_true rfl) ⟨(Nat.le_of_ble_eq_true rfl), (Nat.le_of_ble_eq_true rfl)⟩ ⟨by show _ ≤ 603072; omega, by show _ ≤ 7186538; omega⟩ (fun v9 M1 h9 => ?_)
  obtain ⟨rfl, hr5, hv1, ⟨f3, hO3⟩, hG1, hf1⟩ := h9
  refine m_istore C dL_law_2080 (by decide) rfl ?_
  have hD1 := hD.keep (M2 := M1) (fun q q1 q2 => hf1.2 q (by omega) (by omega) (by omega))
  obtain ⟨fs1, hob1⟩ := hD1.ob
  refine m_aload_n C 4 dL_law_2082 rfl rfl ?_
  refine m_aload_n C 6 dL_law_2083 rfl rfl ?_
  refine m_iload C 1 dL_law_2084 rfl ?_
  refine m_iconst C dL_law_2086 ?_
  refine m_iadd C dL_law_2087 ?_
  refine m_sld C hXs hbl dL_law_2088 (by omega) hL ?_
  refine m_callV C (R_nightsUntilDone hF hl hJ hN hD1 (by omega) hI (by omega) hG.tx hG.ot (m_rng _)) dL_law_2089 kc_X10_nightsUntilDone kV_L_271 hob1 rfl rfl rfl rfl (Nat.le_of_ble_eq_true rfl) ⟨(Nat.le_of_ble_eq_true rfl), (Nat.le_of_ble_eq_true rfl)⟩ ⟨by show _ ≤ 603072; omega, by show _ ≤ 7186538; omega⟩ m_nox (fun v9 M2 h9 => ?_)
  obtain ⟨z, rfl, hz, hD2, hf2⟩ := h9
  refine m_istore C dL_law_2092 (by decide) rfl ?_
  have hI2 : lI (K + 63600) (W) := (hI.mono (by omega))
  have hkk := m_W_k (kk (W) M2 ⟨hG1.mfr hf2, ⟨_, hD2⟩, ⟨f3, (hf2.2 _ (by omega)).trans hO3⟩, ⟨f2, (hf2.2 _ (by omega)).trans ((hf1.2 _ (by omega) (by omega) (by omega)).trans hO2)⟩, hI2⟩)
  exact m_tail hF hl C hx hD2 hI2 (by omega) hr5 hz (fun z0 => (hf2.2 _ (by omega)).trans (hv1 z0)) ⟨by omega, by omega⟩ dL_law_2094 dL_law_2095 dL_law_2098 dL_law_2100 dL_law_2105 dL_law_2107 dL_law_2110 dL_law_2111 dL_law_2112 dL_law_2113 dL_law_2115 dL_law_2116 dL_law_2117 dL_law_2122 (by decide) hkk
set_option maxHeartbeats 2000000 in
theorem L_chestAfter (hF : m_F D aC s) (hl : l.stackTraces = false) (hJ : m_J s fo ks vs fA sA dO dT) (hX : m_TH s) (hN : m_NM s sa va) (hNC : m_NC s) (C : m_C D aC s RL cL_law 10 l p s m args meth c) {b L x : Nat} {xs : Nat → Int32} (hXs : va_X b L xs s s.heap) (hbl : b < s.heap.size) (hL : L ≤ 2560) {K i : Int} {W : gW} {M : m_M} (hi : 0 ≤ i ∧ i + 5 ≤ (L : Int)) (hK : K ≤ 76000000) (hS : lS s fo x K W M) (hc : cells + 470 ≤ 603072 ∧ slots + 940 ≤ 7186538) (kk : ∀ (W2 : gW) (M2 : m_M), lS s fo x (K + 63600) W2 M2 → m_W D aC s 10 p l e room_1 s m args below meth c (cells + 470) (slots + 940) Q 2889 (lL i x b) [] M2) : m_W D aC s 10 p l e room_1 s m args below meth c cells slots Q 2125 (lL i x b) [] M := by
  obtain ⟨hG, ⟨th, hD⟩, ⟨f1, hO1⟩, ⟨f2, hO2⟩, hI⟩ := hS
  have hx := hG.1.2.2
  refine m_aload_n C 4 dL_law_2125 rfl rfl ?_
  refine m_aload_n C 5 dL_law_2126 rfl rfl ?_
  refine m_iload C 0 dL_law_2127 rfl ?_
  refine m_iconst C dL_law_2129 ?_
  refine m_iadd C dL_law_2130 ?_
  refine m_sld C hXs hbl dL_law_2131 (by omega) hL ?_
  refine m_aload_n C 2 dL_law_2132 rfl rfl ?_
  refine m_callSW C (w_chestAfter hF hl hNC hG (o1 := x + 248) (by omega) hO1 (hM := C_chestAfter hF hl hJ hX hG hI (by omega) (m_rng _))) dL_law_2133 kw_L_chestAfter kS_L_272 rfl rfl (Nat.le_of_ble_eq_true rfl) ⟨(Nat.le_of_ble_eq_true rfl), (Nat.le_of_ble_eq_true rfl)⟩ ⟨by show _ ≤ 603072; omega, by show _ ≤ 7186538; omega⟩ (fun v9 M1 h9 => ?_)
  obtain ⟨rfl, hr5, hv1, ⟨f3, hO3⟩, hG1, hf1⟩ := h9
  refine m_istore C dL_law_2136 (by decide) rfl ?_
  have hD1 := hD.keep (M2 := M1) (fun q q1 q2 => hf1.2 q (by omega) (by omega) (by omega))
  obtain ⟨fs1, hob1⟩ := hD1.ob
  refine m_aload_n C 4 dL_law_2138 rfl rfl ?_
  refine m_aload_n C 6 dL_law_2139 rfl rfl ?_
  refine m_iload C 1 dL_law_2140 rfl ?_
  refine m_iconst C dL_law_2142 ?_
  refine m_iadd C dL_law_2143 ?_
  refine m_sld C hXs hbl dL_law_2144 (by omega) hL ?_
  refine m_callV C (R_chestAfter hF hl hJ hN hD1 (by omega) hI (by omega) hG.tx hG.ot (m_rng _)) dL_law_2145 kc_X10_chestAfter kV_L_274 hob1 rfl rfl rfl rfl (Nat.le_of_ble_eq_true rfl) ⟨(Nat.le_of_ble_eq_true rfl), (Nat.le_of_ble_eq_true rfl)⟩ ⟨by show _ ≤ 603072; omega, by show _ ≤ 7186538; omega⟩ m_nox (fun v9 M2 h9 => ?_)
  obtain ⟨z, rfl, hz, hD2, hf2⟩ := h9
  refine m_istore C dL_law_2148 (by decide) rfl ?_
  have hI2 : lI (K + 63600) (W) := (hI.mono (by omega))
  have hkk := m_W_k (kk (W) M2 ⟨hG1.mfr hf2, ⟨_, hD2⟩, ⟨f3, (hf2.2 _ (by omega)).trans hO3⟩, ⟨f2, (hf2.2 _ (by omega)).trans ((hf1.2 _ (by omega) (by omega) (by omega)).trans hO2)⟩, hI2⟩)
  exact m_tail hF hl C hx hD2 hI2 (by omega) hr5 hz (fun z0 => (hf2.2 _ (by omega)).trans (hv1 z0)) ⟨by omega, by omega⟩ dL_law_2150 dL_law_2151 dL_law_2154 dL_law_2156 dL_law_2161 dL_law_2163 dL_law_2166 dL_law_2167 dL_law_2168 dL_law_2169 dL_law_2171 dL_law_2172 dL_law_2173 dL_law_2178 (by decide) hkk
set_option maxHeartbeats 2000000 in
theorem L_debtAfter (hF : m_F D aC s) (hl : l.stackTraces = false) (hJ : m_J s fo ks vs fA sA dO dT) (hX : m_TH s) (hN : m_NM s sa va) (hNC : m_NC s) (C : m_C D aC s RL cL_law 10 l p s m args meth c) {b L x : Nat} {xs : Nat → Int32} (hXs : va_X b L xs s s.heap) (hbl : b < s.heap.size) (hL : L ≤ 2560) {K i : Int} {W : gW} {M : m_M} (hi : 0 ≤ i ∧ i + 5 ≤ (L : Int)) (hK : K ≤ 76000000) (hS : lS s fo x K W M) (hc : cells + 470 ≤ 603072 ∧ slots + 940 ≤ 7186538) (kk : ∀ (W2 : gW) (M2 : m_M), lS s fo x (K + 63600) W2 M2 → m_W D aC s 10 p l e room_1 s m args below meth c (cells + 470) (slots + 940) Q 2889 (lL i x b) [] M2) : m_W D aC s 10 p l e room_1 s m args below meth c cells slots Q 2181 (lL i x b) [] M := by
  obtain ⟨hG, ⟨th, hD⟩, ⟨f1, hO1⟩, ⟨f2, hO2⟩, hI⟩ := hS
  have hx := hG.1.2.2
  refine m_aload_n C 4 dL_law_2181 rfl rfl ?_
  refine m_aload_n C 5 dL_law_2182 rfl rfl ?_
  refine m_iload C 0 dL_law_2183 rfl ?_
  refine m_iconst C dL_law_2185 ?_
  refine m_iadd C dL_law_2186 ?_
  refine m_sld C hXs hbl dL_law_2187 (by omega) hL ?_
  refine m_aload_n C 5 dL_law_2188 rfl rfl ?_
  refine m_iload C 0 dL_law_2189 rfl ?_
  refine m_iconst C dL_law_2191 ?_
  refine m_iadd C dL_law_2192 ?_
  refine m_sld C hXs hbl dL_law_2193 (by omega) hL ?_
  refine m_aload_n C 2 dL_law_2194 rfl rfl ?_
  refine m_callSW C (w_debtAfter hF hl hNC hG (o1 := x + 248) (by omega) hO1 (hM := C_debtAfter hF hl hJ hX hG hI (by omega) (m_rng _) (m_rng _))) dL_law_2195 kw_L_debtAfter kS_L_275 rfl rfl (Nat.le_of_ble_eq_true rfl) ⟨(Nat.le_of_ble_eq_true rfl), (Nat.le_of_ble_eq_true rfl)⟩ ⟨by show _ ≤ 603072; omega, by show _ ≤ 7186538; omega⟩ (fun v9 M1 h9 => ?_)
  obtain ⟨rfl, hr5, hv1, ⟨f3, hO3⟩, hG1, hf1⟩ := h9
  refine m_istore C dL_law_2198 (by decide) rfl ?_
  have hD1 := hD.keep (M2 := M1) (fun q q1 q2 => hf1.2 q (by omega) (by omega) (by omega))
  obtain ⟨fs1, hob1⟩ := hD1.ob
  refine m_aload_n C 4 dL_law_2200 rfl rfl ?_
  refine m_aload_n C 6 dL_law_2201 rfl rfl ?_
  refine m_iload C 1 dL_law_2202 rfl ?_
  refine m_iconst C dL_law_2204 ?_
  refine m_iadd C dL_law_2205 ?_
  refine m_sld C hXs hbl dL_law_2206 (by omega) hL ?_
  refine m_aload_n C 6 dL_law_2207 rfl rfl ?_
  refine m_iload C 1 dL_law_2208 rfl ?_
  refine m_iconst C dL_law_2210 ?_
  refine m_iadd C dL_law_2211 ?_
  refine m_sld C hXs hbl dL_law_2212 (by omega) hL ?_
  refine m_callV C (R_debtAfter hF hl hJ hN hD1 (by omega) hI (by omega) hG.tx hG.ot (m_rng _) (m_rng _)) dL_law_2213 kc_X10_debtAfter kV_L_277 hob1 rfl rfl rfl rfl (Nat.le_of_ble_eq_true rfl) ⟨(Nat.le_of_ble_eq_true rfl), (Nat.le_of_ble_eq_true rfl)⟩ ⟨by show _ ≤ 603072; omega, by show _ ≤ 7186538; omega⟩ m_nox (fun v9 M2 h9 => ?_)
  obtain ⟨z, rfl, hz, hD2, hf2⟩ := h9
  refine m_istore C dL_law_2216 (by decide) rfl ?_
  have hI2 : lI (K + 63600) (W) := (hI.mono (by omega))
  have hkk := m_W_k (kk (W) M2 ⟨hG1.mfr hf2, ⟨_, hD2⟩, ⟨f3, (hf2.2 _ (by omega)).trans hO3⟩, ⟨f2, (hf2.2 _ (by omega)).trans ((hf1.2 _ (by omega) (by omega) (by omega)).trans hO2)⟩, hI2⟩)
  exact m_tail hF hl C hx hD2 hI2 (by omega) hr5 hz (fun z0 => (hf2.2 _ (by omega)).trans (hv1 z0)) ⟨by omega, by omega⟩ dL_law_2218 dL_law_2219 dL_law_2222 dL_law_2224 dL_law_2229 dL_law_2231 dL_law_2234 dL_law_2235 dL_law_2236 dL_law_2237 dL_law_2239 dL_law_2240 dL_law_2241 dL_law_2246 (by decide) hkk
set_option maxHeartbeats 2000000 in
theorem L_night (hF : m_F D aC s) (hl : l.stackTraces = false) (hJ : m_J s fo ks vs fA sA dO dT) (hX : m_TH s) (hN : m_NM s sa va) (hNC : m_NC s) (C : m_C D aC s RL cL_law 10 l p s m args meth c) {b L x : Nat} {xs : Nat → Int32} (hXs : va_X b L xs s s.heap) (hbl : b < s.heap.size) (hL : L ≤ 2560) {K i : Int} {W : gW} {M : m_M} (hi : 0 ≤ i ∧ i + 5 ≤ (L : Int)) (hK : K ≤ 76000000) (hS : lS s fo x K W M) (hc : cells + 470 ≤ 603072 ∧ slots + 940 ≤ 7186538) (kk : ∀ (W2 : gW) (M2 : m_M), lS s fo x (K + 63600) W2 M2 → m_W D aC s 10 p l e room_1 s m args below meth c (cells + 470) (slots + 940) Q 2889 (lL i x b) [] M2) : m_W D aC s 10 p l e room_1 s m args below meth c cells slots Q 2249 (lL i x b) [] M := by
  obtain ⟨hG, ⟨th, hD⟩, ⟨f1, hO1⟩, ⟨f2, hO2⟩, hI⟩ := hS
  have hx := hG.1.2.2
  refine m_aload_n C 4 dL_law_2249 rfl rfl ?_
  refine m_callV C (C_night hF hl hJ hX hG hI (by omega)) dL_law_2250 kc_X9_night kV_L_278 hG.2.1 rfl rfl rfl rfl (Nat.le_of_ble_eq_true rfl) ⟨(Nat.le_of_ble_eq_true rfl), (Nat.le_of_ble_eq_true rfl)⟩ ⟨by show _ ≤ 603072; omega, by show _ ≤ 7186538; omega⟩ (fun E M1 ce q9 H1 locs1 ls h1 hx hH hS hce hcv hcl => absurd hx.1.2 (by simp)) (fun v9 M1 h9 => ?_)
  obtain ⟨-, rfl, hG1, hf1⟩ := h9
  have hD1 := hD.keep (M2 := M1) (fun q q1 q2 => hf1.2 q (by omega) (by omega))
  obtain ⟨fs1, hob1⟩ := hD1.ob
  refine m_aload_n C 3 dL_law_2253 rfl rfl ?_
  refine m_callV C (R_night hF hl hJ hN hD1 (by omega) hI (by omega) hG.tx hG.ot) dL_law_2254 kc_X10_night kV_L_281 hob1 rfl rfl rfl rfl (Nat.le_of_ble_eq_true rfl) ⟨(Nat.le_of_ble_eq_true rfl), (Nat.le_of_ble_eq_true rfl)⟩ ⟨by show _ ≤ 603072; omega, by show _ ≤ 7186538; omega⟩ m_nox (fun v9 M2 h9 => ?_)
  obtain ⟨z, rfl, hz, hD2, hf2⟩ := h9
  have hz := hz rfl
  subst hz
  refine m_icmp_same (tgt := 2889) C dL_law_2257 (by decide) ?_
  exact kk (W) M2 ⟨hG1.mfr hf2, ⟨_, hD2⟩, ⟨f1, (hf2.2 _ (by omega)).trans ((hf1.2 _ (by omega) (by omega)).trans hO1)⟩, ⟨f2, (hf2.2 _ (by omega)).trans ((hf1.2 _ (by omega) (by omega)).trans hO2)⟩, (hI.mono (by omega))⟩
set_option maxHeartbeats 2000000 in
theorem L_chest (hF : m_F D aC s) (hl : l.stackTraces = false) (hJ : m_J s fo ks vs fA sA dO dT) (hX : m_TH s) (hN : m_NM s sa va) (hNC : m_NC s) (C : m_C D aC s RL cL_law 10 l p s m args meth c) {b L x : Nat} {xs : Nat → Int32} (hXs : va_X b L xs s s.heap) (hbl : b < s.heap.size) (hL : L ≤ 2560) {K i : Int} {W : gW} {M : m_M} (hi : 0 ≤ i ∧ i + 5 ≤ (L : Int)) (hK : K ≤ 76000000) (hS : lS s fo x K W M) (hc : cells + 470 ≤ 603072 ∧ slots + 940 ≤ 7186538) (kk : ∀ (W2 : gW) (M2 : m_M), lS s fo x (K + 63600) W2 M2 → m_W D aC s 10 p l e room_1 s m args below meth c (cells + 470) (slots + 940) Q 2889 (lL i x b) [] M2) : m_W D aC s 10 p l e room_1 s m args below meth c cells slots Q 2262 (lL i x b) [] M := by
  obtain ⟨hG, ⟨th, hD⟩, ⟨f1, hO1⟩, ⟨f2, hO2⟩, hI⟩ := hS
  have hx := hG.1.2.2
  refine m_aload_n C 4 dL_law_2262 rfl rfl ?_
  refine m_callV C (C_chest hF hl hJ hX hG hI (by omega)) dL_law_2263 kc_X9_chest kV_L_282 hG.2.1 rfl rfl rfl rfl (Nat.le_of_ble_eq_true rfl) ⟨(Nat.le_of_ble_eq_true rfl), (Nat.le_of_ble_eq_true rfl)⟩ ⟨by show _ ≤ 603072; omega, by show _ ≤ 7186538; omega⟩ (fun E M1 ce q9 H1 locs1 ls h1 hx hH hS hce hcv hcl => absurd hx.1.2 (by simp)) (fun v9 M1 h9 => ?_)
  obtain ⟨-, rfl, hG1, hf1⟩ := h9
  have hD1 := hD.keep (M2 := M1) (fun q q1 q2 => hf1.2 q (by omega) (by omega))
  obtain ⟨fs1, hob1⟩ := hD1.ob
  refine m_aload_n C 3 dL_law_2266 rfl rfl ?_
  refine m_callV C (R_chest hF hl hJ hN hD1 (by omega) hI (by omega) hG.tx hG.ot) dL_law_2267 kc_X10_chest kV_L_285 hob1 rfl rfl rfl rfl (Nat.le_of_ble_eq_true rfl) ⟨(Nat.le_of_ble_eq_true rfl), (Nat.le_of_ble_eq_true rfl)⟩ ⟨by show _ ≤ 603072; omega, by show _ ≤ 7186538; omega⟩ m_nox (fun v9 M2 h9 => ?_)
  obtain ⟨z, rfl, hz, hD2, hf2⟩ := h9
  have hz := hz rfl
  subst hz
  refine m_icmp_same (tgt := 2889) C dL_law_2270 (by decide) ?_
  exact kk (W) M2 ⟨hG1.mfr hf2, ⟨_, hD2⟩, ⟨f1, (hf2.2 _ (by omega)).trans ((hf1.2 _ (by omega) (by omega)).trans hO1)⟩, ⟨f2, (hf2.2 _ (by omega)).trans ((hf1.2 _ (by omega) (by omega)).trans hO2)⟩, (hI.mono (by omega))⟩
set_option maxHeartbeats 2000000 in
theorem L_allCrumbs (hF : m_F D aC s) (hl : l.stackTraces = false) (hJ : m_J s fo ks vs fA sA dO dT) (hX : m_TH s) (hN : m_NM s sa va) (hNC : m_NC s) (C : m_C D aC s RL cL_law 10 l p s m args meth c) {b L x : Nat} {xs : Nat → Int32} (hXs : va_X b L xs s s.heap) (hbl : b < s.heap.size) (hL : L ≤ 2560) {K i : Int} {W : gW} {M : m_M} (hi : 0 ≤ i ∧ i + 5 ≤ (L : Int)) (hK : K ≤ 76000000) (hS : lS s fo x K W M) (hc : cells + 470 ≤ 603072 ∧ slots + 940 ≤ 7186538) (kk : ∀ (W2 : gW) (M2 : m_M), lS s fo x (K + 63600) W2 M2 → m_W D aC s 10 p l e room_1 s m args below meth c (cells + 470) (slots + 940) Q 2889 (lL i x b) [] M2) : m_W D aC s 10 p l e room_1 s m args below meth c cells slots Q 2275 (lL i x b) [] M := by
  obtain ⟨hG, ⟨th, hD⟩, ⟨f1, hO1⟩, ⟨f2, hO2⟩, hI⟩ := hS
  have hx := hG.1.2.2
  refine m_aload_n C 4 dL_law_2275 rfl rfl ?_
  refine m_callV C (C_allCrumbs hF hl hJ hX hG hI (by omega)) dL_law_2276 kc_X9_allCrumbs kV_L_286 hG.2.1 rfl rfl rfl rfl (Nat.le_of_ble_eq_true rfl) ⟨(Nat.le_of_ble_eq_true rfl), (Nat.le_of_ble_eq_true rfl)⟩ ⟨by show _ ≤ 603072; omega, by show _ ≤ 7186538; omega⟩ (fun E M1 ce q9 H1 locs1 ls h1 hx hH hS hce hcv hcl => absurd hx.1.2 (by simp)) (fun v9 M1 h9 => ?_)
  obtain ⟨-, rfl, hG1, hf1⟩ := h9
  have hD1 := hD.keep (M2 := M1) (fun q q1 q2 => hf1.2 q (by omega) (by omega))
  obtain ⟨fs1, hob1⟩ := hD1.ob
  refine m_aload_n C 3 dL_law_2279 rfl rfl ?_
  refine m_callV C (R_allCrumbs hF hl hJ hN hD1 (by omega) hI (by omega) hG.tx hG.ot) dL_law_2280 kc_X10_allCrumbs kV_L_289 hob1 rfl rfl rfl rfl (Nat.le_of_ble_eq_true rfl) ⟨(Nat.le_of_ble_eq_true rfl), (Nat.le_of_ble_eq_true rfl)⟩ ⟨by show _ ≤ 603072; omega, by show _ ≤ 7186538; omega⟩ m_nox (fun v9 M2 h9 => ?_)
  obtain ⟨z, rfl, hz, hD2, hf2⟩ := h9
  have hz := hz rfl
  subst hz
  refine m_icmp_same (tgt := 2889) C dL_law_2283 (by decide) ?_
  exact kk (W) M2 ⟨hG1.mfr hf2, ⟨_, hD2⟩, ⟨f1, (hf2.2 _ (by omega)).trans ((hf1.2 _ (by omega) (by omega)).trans hO1)⟩, ⟨f2, (hf2.2 _ (by omega)).trans ((hf1.2 _ (by omega) (by omega)).trans hO2)⟩, (hI.mono (by omega))⟩
set_option maxHeartbeats 2000000 in
theorem L_allCrumbsByAccounts (hF : m_F D aC s) (hl : l.stackTraces = false) (hJ : m_J s fo ks vs fA sA dO dT) (hX : m_TH s) (hN : m_NM s sa va) (hNC : m_NC s) (C : m_C D aC s RL cL_law 10 l p s m args meth c) {b L x : Nat} {xs : Nat → Int32} (hXs : va_X b L xs s s.heap) (hbl : b < s.heap.size) (hL : L ≤ 2560) {K i : Int} {W : gW} {M : m_M} (hi : 0 ≤ i ∧ i + 5 ≤ (L : Int)) (hK : K ≤ 76000000) (hS : lS s fo x K W M) (hc : cells + 470 ≤ 603072 ∧ slots + 940 ≤ 7186538) (kk : ∀ (W2 : gW) (M2 : m_M), lS s fo x (K + 63600) W2 M2 → m_W D aC s 10 p l e room_1 s m args below meth c (cells + 470) (slots + 940) Q 2889 (lL i x b) [] M2) : m_W D aC s 10 p l e room_1 s m args below meth c cells slots Q 2288 (lL i x b) [] M := by
  obtain ⟨hG, ⟨th, hD⟩, ⟨f1, hO1⟩, ⟨f2, hO2⟩, hI⟩ := hS
  have hx := hG.1.2.2
  refine m_aload_n C 4 dL_law_2288 rfl rfl ?_
  refine m_callV C (C_allCrumbsByAccounts hF hl hJ hX hG hI (by omega)) dL_law_2289 kc_X9_allCrumbsByAccounts kV_L_290 hG.2.1 rfl rfl rfl rfl (Nat.le_of_ble_eq_true rfl) ⟨(Nat.le_of_ble_eq_true rfl), (Nat.le_of_ble_eq_true rfl)⟩ ⟨by show _ ≤ 603072; omega, by show _ ≤ 7186538; omega⟩ (fun E M1 ce q9 H1 locs1 ls h1 hx hH hS hce hcv hcl => absurd hx.1.2 (by simp)) (fun v9 M1 h9 => ?_)
  obtain ⟨-, rfl, hG1, hf1⟩ := h9
  have hD1 := hD.keep (M2 := M1) (fun q q1 q2 => hf1.2 q (by omega) (by omega))
  obtain ⟨fs1, hob1⟩ := hD1.ob
  refine m_aload_n C 3 dL_law_2292 rfl rfl ?_
  refine m_callV C (R_allCrumbsByAccounts hF hl hJ hN hD1 (by omega) hI (by omega) hG.tx hG.ot) dL_law_2293 kc_X10_allCrumbsByAccounts kV_L_293 hob1 rfl rfl rfl rfl (Nat.le_of_ble_eq_true rfl) ⟨(Nat.le_of_ble_eq_true rfl), (Nat.le_of_ble_eq_true rfl)⟩ ⟨by show _ ≤ 603072; omega, by show _ ≤ 7186538; omega⟩ m_nox (fun v9 M2 h9 => ?_)
  obtain ⟨z, rfl, hz, hD2, hf2⟩ := h9
  have hz := hz rfl
  subst hz
  refine m_icmp_same (tgt := 2889) C dL_law_2296 (by decide) ?_
  exact kk (W) M2 ⟨hG1.mfr hf2, ⟨_, hD2⟩, ⟨f1, (hf2.2 _ (by omega)).trans ((hf1.2 _ (by omega) (by omega)).trans hO1)⟩, ⟨f2, (hf2.2 _ (by omega)).trans ((hf1.2 _ (by omega) (by omega)).trans hO2)⟩, (hI.mono (by omega))⟩
set_option maxHeartbeats 2000000 in
theorem L_doneTotal (hF : m_F D aC s) (hl : l.stackTraces = false) (hJ : m_J s fo ks vs fA sA dO dT) (hX : m_TH s) (hN : m_NM s sa va) (hNC : m_NC s) (C : m_C D aC s RL cL_law 10 l p s m args meth c) {b L x : Nat} {xs : Nat → Int32} (hXs : va_X b L xs s s.heap) (hbl : b < s.heap.size) (hL : L ≤ 2560) {K i : Int} {W : gW} {M : m_M} (hi : 0 ≤ i ∧ i + 5 ≤ (L : Int)) (hK : K ≤ 76000000) (hS : lS s fo x K W M) (hc : cells + 470 ≤ 603072 ∧ slots + 940 ≤ 7186538) (kk : ∀ (W2 : gW) (M2 : m_M), lS s fo x (K + 63600) W2 M2 → m_W D aC s 10 p l e room_1 s m args below meth c (cells + 470) (slots + 940) Q 2889 (lL i x b) [] M2) : m_W D aC s 10 p l e room_1 s m args below meth c cells slots Q 2301 (lL i x b) [] M := by
  obtain ⟨hG, ⟨th, hD⟩, ⟨f1, hO1⟩, ⟨f2, hO2⟩, hI⟩ := hS
  have hx := hG.1.2.2
  refine m_aload_n C 4 dL_law_2301 rfl rfl ?_
  refine m_callV C (C_doneTotal hF hl hJ hX hG hI (by omega)) dL_law_2302 kc_X9_doneTotal kV_L_294 hG.2.1 rfl rfl rfl rfl (Nat.le_of_ble_eq_true rfl) ⟨(Nat.le_of_ble_eq_true rfl), (Nat.le_of_ble_eq_true rfl)⟩ ⟨by show _ ≤ 603072; omega, by show _ ≤ 7186538; omega⟩ (fun E M1 ce q9 H1 locs1 ls h1 hx hH hS hce hcv hcl => absurd hx.1.2 (by simp)) (fun v9 M1 h9 => ?_)
  obtain ⟨-, rfl, hG1, hf1⟩ := h9
  have hD1 := hD.keep (M2 := M1) (fun q q1 q2 => hf1.2 q (by omega) (by omega))
  obtain ⟨fs1, hob1⟩ := hD1.ob
  refine m_aload_n C 3 dL_law_2305 rfl rfl ?_
  refine m_callV C (R_doneTotal hF hl hJ hN hD1 (by omega) hI (by omega) hG.tx hG.ot) dL_law_2306 kc_X10_doneTotal kV_L_297 hob1 rfl rfl rfl rfl (Nat.le_of_ble_eq_true rfl) ⟨(Nat.le_of_ble_eq_true rfl), (Nat.le_of_ble_eq_true rfl)⟩ ⟨by show _ ≤ 603072; omega, by show _ ≤ 7186538; omega⟩ m_nox (fun v9 M2 h9 => ?_)
  obtain ⟨z, rfl, hz, hD2, hf2⟩ := h9
  have hz := hz rfl
  subst hz
  refine m_icmp_same (tgt := 2889) C dL_law_2309 (by decide) ?_
  exact kk (W) M2 ⟨hG1.mfr hf2, ⟨_, hD2⟩, ⟨f1, (hf2.2 _ (by omega)).trans ((hf1.2 _ (by omega) (by omega)).trans hO1)⟩, ⟨f2, (hf2.2 _ (by omega)).trans ((hf1.2 _ (by omega) (by omega)).trans hO2)⟩, (hI.mono (by omega))⟩
set_option maxHeartbeats 2000000 in
theorem L_brokenTotal (hF : m_F D aC s) (hl : l.stackTraces = false) (hJ : m_J s fo ks vs fA sA dO dT) (hX : m_TH s) (hN : m_NM s sa va) (hNC : m_NC s) (C : m_C D aC s RL cL_law 10 l p s m args meth c) {b L x : Nat} {xs : Nat → Int32} (hXs : va_X b L xs s s.heap) (hbl : b < s.heap.size) (hL : L ≤ 2560) {K i : Int} {W : gW} {M : m_M} (hi : 0 ≤ i ∧ i + 5 ≤ (L : Int)) (hK : K ≤ 76000000) (hS : lS s fo x K W M) (hc : cells + 470 ≤ 603072 ∧ slots + 940 ≤ 7186538) (kk : ∀ (W2 : gW) (M2 : m_M), lS s fo x (K + 63600) W2 M2 → m_W D aC s 10 p l e room_1 s m args below meth c (cells + 470) (slots + 940) Q 2889 (lL i x b) [] M2) : m_W D aC s 10 p l e room_1 s m args below meth c cells slots Q 2314 (lL i x b) [] M := by
  obtain ⟨hG, ⟨th, hD⟩, ⟨f1, hO1⟩, ⟨f2, hO2⟩, hI⟩ := hS
  have hx := hG.1.2.2
  refine m_aload_n C 4 dL_law_2314 rfl rfl ?_
  refine m_callV C (C_brokenTotal hF hl hJ hX hG hI (by omega)) dL_law_2315 kc_X9_brokenTotal kV_L_298 hG.2.1 rfl rfl rfl rfl (Nat.le_of_ble_eq_true rfl) ⟨(Nat.le_of_ble_eq_true rfl), (Nat.le_of_ble_eq_true rfl)⟩ ⟨by show _ ≤ 603072; omega, by show _ ≤ 7186538; omega⟩ (fun E M1 ce q9 H1 locs1 ls h1 hx hH hS hce hcv hcl => absurd hx.1.2 (by simp)) (fun v9 M1 h9 => ?_)
  obtain ⟨-, rfl, hG1, hf1⟩ := h9
  have hD1 := hD.keep (M2 := M1) (fun q q1 q2 => hf1.2 q (by omega) (by omega))
  obtain ⟨fs1, hob1⟩ := hD1.ob
  refine m_aload_n C 3 dL_law_2318 rfl rfl ?_
  refine m_callV C (R_brokenTotal hF hl hJ hN hD1 (by omega) hI (by omega) hG.tx hG.ot) dL_law_2319 kc_X10_brokenTotal kV_L_301 hob1 rfl rfl rfl rfl (Nat.le_of_ble_eq_true rfl) ⟨(Nat.le_of_ble_eq_true rfl), (Nat.le_of_ble_eq_true rfl)⟩ ⟨by show _ ≤ 603072; omega, by show _ ≤ 7186538; omega⟩ m_nox (fun v9 M2 h9 => ?_)
  obtain ⟨z, rfl, hz, hD2, hf2⟩ := h9
  have hz := hz rfl
  subst hz
  refine m_icmp_same (tgt := 2889) C dL_law_2322 (by decide) ?_
  exact kk (W) M2 ⟨hG1.mfr hf2, ⟨_, hD2⟩, ⟨f1, (hf2.2 _ (by omega)).trans ((hf1.2 _ (by omega) (by omega)).trans hO1)⟩, ⟨f2, (hf2.2 _ (by omega)).trans ((hf1.2 _ (by omega) (by omega)).trans hO2)⟩, (hI.mono (by omega))⟩
set_option maxHeartbeats 2000000 in
theorem L_unpaidTotal (hF : m_F D aC s) (hl : l.stackTraces = false) (hJ : m_J s fo ks vs fA sA dO dT) (hX : m_TH s) (hN : m_NM s sa va) (hNC : m_NC s) (C : m_C D aC s RL cL_law 10 l p s m args meth c) {b L x : Nat} {xs : Nat → Int32} (hXs : va_X b L xs s s.heap) (hbl : b < s.heap.size) (hL : L ≤ 2560) {K i : Int} {W : gW} {M : m_M} (hi : 0 ≤ i ∧ i + 5 ≤ (L : Int)) (hK : K ≤ 76000000) (hS : lS s fo x K W M) (hc : cells + 470 ≤ 603072 ∧ slots + 940 ≤ 7186538) (kk : ∀ (W2 : gW) (M2 : m_M), lS s fo x (K + 63600) W2 M2 → m_W D aC s 10 p l e room_1 s m args below meth c (cells + 470) (slots + 940) Q 2889 (lL i x b) [] M2) : m_W D aC s 10 p l e room_1 s m args below meth c cells slots Q 2327 (lL i x b) [] M := by
  obtain ⟨hG, ⟨th, hD⟩, ⟨f1, hO1⟩, ⟨f2, hO2⟩, hI⟩ := hS
  have hx := hG.1.2.2
  refine m_aload_n C 4 dL_law_2327 rfl rfl ?_
  refine m_callV C (C_unpaidTotal hF hl hJ hX hG hI (by omega)) dL_law_2328 kc_X9_unpaidTotal kV_L_302 hG.2.1 rfl rfl rfl rfl (Nat.le_of_ble_eq_true rfl) ⟨(Nat.le_of_ble_eq_true rfl), (Nat.le_of_ble_eq_true rfl)⟩ ⟨by show _ ≤ 603072; omega, by show _ ≤ 7186538; omega⟩ (fun E M1 ce q9 H1 locs1 ls h1 hx hH hS hce hcv hcl => absurd hx.1.2 (by simp)) (fun v9 M1 h9 => ?_)
  obtain ⟨-, rfl, hG1, hf1⟩ := h9
  have hD1 := hD.keep (M2 := M1) (fun q q1 q2 => hf1.2 q (by omega) (by omega))
  obtain ⟨fs1, hob1⟩ := hD1.ob
  refine m_aload_n C 3 dL_law_2331 rfl rfl ?_
  refine m_callV C (R_unpaidTotal hF hl hJ hN hD1 (by omega) hI (by omega) hG.tx hG.ot) dL_law_2332 kc_X10_unpaidTotal kV_L_305 hob1 rfl rfl rfl rfl (Nat.le_of_ble_eq_true rfl) ⟨(Nat.le_of_ble_eq_true rfl), (Nat.le_of_ble_eq_true rfl)⟩ ⟨by show _ ≤ 603072; omega, by show _ ≤ 7186538; omega⟩ m_nox (fun v9 M2 h9 => ?_)
  obtain ⟨z, rfl, hz, hD2, hf2⟩ := h9
  have hz := hz rfl
  subst hz
  refine m_icmp_same (tgt := 2889) C dL_law_2335 (by decide) ?_
  exact kk (W) M2 ⟨hG1.mfr hf2, ⟨_, hD2⟩, ⟨f1, (hf2.2 _ (by omega)).trans ((hf1.2 _ (by omega) (by omega)).trans hO1)⟩, ⟨f2, (hf2.2 _ (by omega)).trans ((hf1.2 _ (by omega) (by omega)).trans hO2)⟩, (hI.mono (by omega))⟩
set_option maxHeartbeats 2000000 in
theorem L_interestTotal (hF : m_F D aC s) (hl : l.stackTraces = false) (hJ : m_J s fo ks vs fA sA dO dT) (hX : m_TH s) (hN : m_NM s sa va) (hNC : m_NC s) (C : m_C D aC s RL cL_law 10 l p s m args meth c) {b L x : Nat} {xs : Nat → Int32} (hXs : va_X b L xs s s.heap) (hbl : b < s.heap.size) (hL : L ≤ 2560) {K i : Int} {W : gW} {M : m_M} (hi : 0 ≤ i ∧ i + 5 ≤ (L : Int)) (hK : K ≤ 76000000) (hS : lS s fo x K W M) (hc : cells + 470 ≤ 603072 ∧ slots + 940 ≤ 7186538) (kk : ∀ (W2 : gW) (M2 : m_M), lS s fo x (K + 63600) W2 M2 → m_W D aC s 10 p l e room_1 s m args below meth c (cells + 470) (slots + 940) Q 2889 (lL i x b) [] M2) : m_W D aC s 10 p l e room_1 s m args below meth c cells slots Q 2340 (lL i x b) [] M := by
  obtain ⟨hG, ⟨th, hD⟩, ⟨f1, hO1⟩, ⟨f2, hO2⟩, hI⟩ := hS
  have hx := hG.1.2.2
  refine m_aload_n C 4 dL_law_2340 rfl rfl ?_
  refine m_callV C (C_interestTotal hF hl hJ hX hG hI (by omega)) dL_law_2341 kc_X9_interestTotal kV_L_306 hG.2.1 rfl rfl rfl rfl (Nat.le_of_ble_eq_true rfl) ⟨(Nat.le_of_ble_eq_true rfl), (Nat.le_of_ble_eq_true rfl)⟩ ⟨by show _ ≤ 603072; omega, by show _ ≤ 7186538; omega⟩ (fun E M1 ce q9 H1 locs1 ls h1 hx hH hS hce hcv hcl => absurd hx.1.2 (by simp)) (fun v9 M1 h9 => ?_)
  obtain ⟨-, rfl, hG1, hf1⟩ := h9
  have hD1 := hD.keep (M2 := M1) (fun q q1 q2 => hf1.2 q (by omega) (by omega))
  obtain ⟨fs1, hob1⟩ := hD1.ob
  refine m_aload_n C 3 dL_law_2344 rfl rfl ?_
  refine m_callV C (R_interestTotal hF hl hJ hN hD1 (by omega) hI (by omega) hG.tx hG.ot) dL_law_2345 kc_X10_interestTotal kV_L_309 hob1 rfl rfl rfl rfl (Nat.le_of_ble_eq_true rfl) ⟨(Nat.le_of_ble_eq_true rfl), (Nat.le_of_ble_eq_true rfl)⟩ ⟨by show _ ≤ 603072; omega, by show _ ≤ 7186538; omega⟩ m_nox (fun v9 M2 h9 => ?_)
  obtain ⟨z, rfl, hz, hD2, hf2⟩ := h9
  have hz := hz rfl
  subst hz
  refine m_icmp_same (tgt := 2889) C dL_law_2348 (by decide) ?_
  exact kk (W) M2 ⟨hG1.mfr hf2, ⟨_, hD2⟩, ⟨f1, (hf2.2 _ (by omega)).trans ((hf1.2 _ (by omega) (by omega)).trans hO1)⟩, ⟨f2, (hf2.2 _ (by omega)).trans ((hf1.2 _ (by omega) (by omega)).trans hO2)⟩, (hI.mono (by omega))⟩
set_option maxHeartbeats 2000000 in
theorem L_meanDust (hF : m_F D aC s) (hl : l.stackTraces = false) (hJ : m_J s fo ks vs fA sA dO dT) (hX : m_TH s) (hN : m_NM s sa va) (hNC : m_NC s) (C : m_C D aC s RL cL_law 10 l p s m args meth c) {b L x : Nat} {xs : Nat → Int32} (hXs : va_X b L xs s s.heap) (hbl : b < s.heap.size) (hL : L ≤ 2560) {K i : Int} {W : gW} {M : m_M} (hi : 0 ≤ i ∧ i + 5 ≤ (L : Int)) (hK : K ≤ 76000000) (hS : lS s fo x K W M) (hc : cells + 470 ≤ 603072 ∧ slots + 940 ≤ 7186538) (kk : ∀ (W2 : gW) (M2 : m_M), lS s fo x (K + 63600) W2 M2 → m_W D aC s 10 p l e room_1 s m args below meth c (cells + 470) (slots + 940) Q 2889 (lL i x b) [] M2) : m_W D aC s 10 p l e room_1 s m args below meth c cells slots Q 2353 (lL i x b) [] M := by
  obtain ⟨hG, ⟨th, hD⟩, ⟨f1, hO1⟩, ⟨f2, hO2⟩, hI⟩ := hS
  have hx := hG.1.2.2
  refine m_aload_n C 4 dL_law_2353 rfl rfl ?_
  refine m_callV C (t_X9_meanDust hF hl hX hG.2.1 hG.2.2.1 (hI.B (by omega))) dL_law_2354 kc_X9_meanDust kV_L_310 hG.2.1 rfl rfl rfl rfl (Nat.le_of_ble_eq_true rfl) ⟨(Nat.le_of_ble_eq_true rfl), (Nat.le_of_ble_eq_true rfl)⟩ ⟨by show _ ≤ 603072; omega, by show _ ≤ 7186538; omega⟩ m_nox (fun v9 M1 h9 => ?_)
  obtain ⟨rfl, h9⟩ := h9
  replace h9 := h9.symm
  subst h9
  refine m_dstore C dL_law_2357 (by decide) rfl ?_
  obtain ⟨wd, hV, hW⟩ := hD
  refine m_aload_n C 4 dL_law_2359 rfl rfl ?_
  refine m_callV C (t_X10_meanDust hF hl hV (by omega) (hI.B (by omega))) dL_law_2360 kc_X10_meanDust kV_L_314 hV.ob rfl rfl rfl rfl (Nat.le_of_ble_eq_true rfl) ⟨(Nat.le_of_ble_eq_true rfl), (Nat.le_of_ble_eq_true rfl)⟩ ⟨by show _ ≤ 603072; omega, by show _ ≤ 7186538; omega⟩ m_nox (fun v9 M2 h9 => ?_)
  obtain ⟨rfl, hV2, hf2⟩ := h9
  refine m_dstore C dL_law_2363 (by decide) rfl ?_
  refine m_dload C 1 dL_law_2365 rfl ?_
  refine m_dload C 0 dL_law_2367 rfl ?_
  refine m_dcmp0 C dL_law_2369 (f_mean_ok (S_du_bd (hI.B (by omega)))) ?_
  refine m_if_eq (tgt := 2391) C dL_law_2370 (by decide) (by decide) (fun c1 => ?_) (fun c1 => absurd rfl c1)
  refine m_goto (tgt := 2889) C dL_law_2391 (by decide) ?_
  refine m_lvs [2, 3, 4, 5, 6, 7] rfl (kk W M2 ⟨hG.mfr hf2, ⟨_, _, hV2, hW.th 0⟩, ⟨f1, (hf2.2 _ (by omega)).trans hO1⟩, ⟨f2, (hf2.2 _ (by omega)).trans hO2⟩, hI.mono (by omega)⟩)
set_option maxHeartbeats 2000000 in
theorem L_reliability (hF : m_F D aC s) (hl : l.stackTraces = false) (hJ : m_J s fo ks vs fA sA dO dT) (hX : m_TH s) (hN : m_NM s sa va) (hNC : m_NC s) (C : m_C D aC s RL cL_law 10 l p s m args meth c) {b L x : Nat} {xs : Nat → Int32} (hXs : va_X b L xs s s.heap) (hbl : b < s.heap.size) (hL : L ≤ 2560) {K i : Int} {W : gW} {M : m_M} (hi : 0 ≤ i ∧ i + 5 ≤ (L : Int)) (hK : K ≤ 76000000) (hS : lS s fo x K W M) (hc : cells + 470 ≤ 603072 ∧ slots + 940 ≤ 7186538) (kk : ∀ (W2 : gW) (M2 : m_M), lS s fo x (K + 63600) W2 M2 → m_W D aC s 10 p l e room_1 s m args below meth c (cells + 470) (slots + 940) Q 2889 (lL i x b) [] M2) : m_W D aC s 10 p l e room_1 s m args below meth c cells slots Q 2394 (lL i x b) [] M := by
  obtain ⟨hG, ⟨th, hD⟩, ⟨f1, hO1⟩, ⟨f2, hO2⟩, hI⟩ := hS
  have hx := hG.1.2.2
  refine m_aload_n C 4 dL_law_2394 rfl rfl ?_
  refine m_aload C 1 dL_law_2395 rfl ?_
  refine m_callSW C (w_reliability hF hl hNC hX hG (o2 := x + 249) (by omega) hO2 (hI.B (by omega))) dL_law_2397 kw_L_reliability kS_L_315 rfl rfl (Nat.le_of_ble_eq_true rfl) ⟨(Nat.le_of_ble_eq_true rfl), (Nat.le_of_ble_eq_true rfl)⟩ ⟨by show _ ≤ 603072; omega, by show _ ≤ 7186538; omega⟩ (fun v9 M1 h9 => ?_)
  obtain ⟨rfl, hv1, ⟨f3, hO3⟩, hG1, hf1⟩ := h9
  refine m_istore C dL_law_2400 (by decide) rfl ?_
  have hD1 := hD.keep (M2 := M1) (fun q q1 q2 => hf1.2 q (by omega) (by omega) (by omega))
  obtain ⟨wd, hV, hW⟩ := hD1
  have hB := hI.B (by omega)
  refine m_aload_n C 4 dL_law_2402 rfl rfl ?_
  refine m_callV C (t_X10_reliability hF hl hV (by omega) hB) dL_law_2403 kc_X10_reliability kV_L_318 hV.ob rfl rfl rfl rfl (Nat.le_of_ble_eq_true rfl) ⟨(Nat.le_of_ble_eq_true rfl), (Nat.le_of_ble_eq_true rfl)⟩ ⟨by show _ ≤ 603072; omega, by show _ ≤ 7186538; omega⟩ m_nox (fun v9 M2 h9 => ?_)
  obtain ⟨hq, hf2⟩ := h9
  have hO3b := (hf2.2 (x + 249) (by omega)).trans hO3
  have hO1b := (hf2.2 (x + 248) (by omega)).trans ((hf1.2 (x + 248) (by omega) (by omega) (by omega)).trans hO1)
  have h4 := hB.s 4 (by decide)
  have h5 := hB.s 5 (by decide)
  rcases hq with ⟨c0, rfl, hV2⟩ | ⟨c0, rfl, hV2⟩
  · have hth : (if W.1 0 4 + W.1 0 5 = 0 then (1 : Int) else 0) = 0 := if_neg (by omega)
    rw [hth] at hv1 ⊢
    have hkk := m_W_k (kk W M2 ⟨hG1.mfr hf2, ⟨_, _, hV2, hW.th _⟩, ⟨f1, hO1b⟩, ⟨f3, hO3b⟩, hI.mono (by omega)⟩)
    refine m_fstore C dL_law_2406 (by decide) rfl ?_
    refine m_aload_n C 5 dL_law_2408 rfl rfl ?_
    refine m_callV C (t_X10_thrown hF hl hV2 (by omega) hB) dL_law_2409 kc_X10_thrown kV_L_165 hV2.ob rfl rfl rfl rfl (Nat.le_of_ble_eq_true rfl) ⟨(Nat.le_of_ble_eq_true rfl), (Nat.le_of_ble_eq_true rfl)⟩ ⟨by show _ ≤ 603072; omega, by show _ ≤ 7186538; omega⟩ m_nox (fun v9 M3 h9 => ?_)
    obtain ⟨rfl, h9⟩ := h9
    replace h9 := h9.symm
    subst h9
    rw [hs_s]
    refine m_iload C 1 dL_law_2412 rfl ?_
    refine m_icmp_same (tgt := 2419) C dL_law_2414 (by decide) ?_
    refine m_iload C 1 dL_law_2419 rfl ?_
    refine m_if_ne (tgt := 2457) C dL_law_2421 (by decide) (by decide) (fun c1 => absurd rfl c1) (fun c1 => ?_)
    refine m_aload C 3 dL_law_2424 rfl ?_
    refine m_iconst C dL_law_2426 ?_
    refine m_dald C dL_law_2427 ((hf2.2 (x + 249) (by omega)).trans (hv1 rfl)) (by decide) (by decide) ?_
    refine m_fload C 0 dL_law_2428 rfl ?_
    refine m_f2d C dL_law_2430 (rel_ok (by omega)) ?_
    refine m_dcmp0 C dL_law_2431 (rel_ok (by omega)) ?_
    refine m_if_eq (tgt := 2457) C dL_law_2432 (by decide) (by decide) (fun c2 => ?_) (fun c2 => absurd rfl c2)
    refine m_goto (tgt := 2889) C dL_law_2457 (by decide) ?_
    exact m_lvs [2, 3, 4, 5, 6, 7] rfl hkk
  · have hth : (if W.1 0 4 + W.1 0 5 = 0 then (1 : Int) else 0) = 1 := if_pos c0
    rw [hth] at hv1 ⊢
    have hkk := m_W_k (kk W M2 ⟨hG1.mfr hf2, ⟨_, _, hV2, hW.th _⟩, ⟨f1, hO1b⟩, ⟨f3, hO3b⟩, hI.mono (by omega)⟩)
    refine m_fstore C dL_law_2406 (by decide) rfl ?_
    refine m_aload_n C 5 dL_law_2408 rfl rfl ?_
    refine m_callV C (t_X10_thrown hF hl hV2 (by omega) hB) dL_law_2409 kc_X10_thrown kV_L_165 hV2.ob rfl rfl rfl rfl (Nat.le_of_ble_eq_true rfl) ⟨(Nat.le_of_ble_eq_true rfl), (Nat.le_of_ble_eq_true rfl)⟩ ⟨by show _ ≤ 603072; omega, by show _ ≤ 7186538; omega⟩ m_nox (fun v9 M3 h9 => ?_)
    obtain ⟨rfl, h9⟩ := h9
    replace h9 := h9.symm
    subst h9
    rw [hs_s]
    refine m_iload C 1 dL_law_2412 rfl ?_
    refine m_icmp_same (tgt := 2419) C dL_law_2414 (by decide) ?_
    refine m_iload C 1 dL_law_2419 rfl ?_
    refine m_if_ne (tgt := 2457) C dL_law_2421 (by decide) (by decide) (fun c1 => ?_) (fun c1 => absurd c1 (by decide))
    refine m_goto (tgt := 2889) C dL_law_2457 (by decide) ?_
    exact m_lvs [2, 3, 4, 5, 6, 7] rfl hkk
set_option maxHeartbeats 2000000 in
theorem L_isConsistent (hF : m_F D aC s) (hl : l.stackTraces = false) (hJ : m_J s fo ks vs fA sA dO dT) (hX : m_TH s) (hN : m_NM s sa va) (hNC : m_NC s) (C : m_C D aC s RL cL_law 10 l p s m args meth c) {b L x : Nat} {xs : Nat → Int32} (hXs : va_X b L xs s s.heap) (hbl : b < s.heap.size) (hL : L ≤ 2560) {K i : Int} {W : gW} {M : m_M} (hi : 0 ≤ i ∧ i + 5 ≤ (L : Int)) (hK : K ≤ 76000000) (hS : lS s fo x K W M) (hc : cells + 470 ≤ 603072 ∧ slots + 940 ≤ 7186538) (kk : ∀ (W2 : gW) (M2 : m_M), lS s fo x (K + 63600) W2 M2 → m_W D aC s 10 p l e room_1 s m args below meth c (cells + 470) (slots + 940) Q 2889 (lL i x b) [] M2) : m_W D aC s 10 p l e room_1 s m args below meth c cells slots Q 2460 (lL i x b) [] M := by
  obtain ⟨hG, ⟨th, hD⟩, ⟨f1, hO1⟩, ⟨f2, hO2⟩, hI⟩ := hS
  have hx := hG.1.2.2
  refine m_aload_n C 4 dL_law_2460 rfl rfl ?_
  refine m_callV C (C_isConsistent hF hl hJ hX hG hI (by omega)) dL_law_2461 kc_X9_isConsistent kV_L_319 hG.2.1 rfl rfl rfl rfl (Nat.le_of_ble_eq_true rfl) ⟨(Nat.le_of_ble_eq_true rfl), (Nat.le_of_ble_eq_true rfl)⟩ ⟨by show _ ≤ 603072; omega, by show _ ≤ 7186538; omega⟩ (fun E M1 ce q9 H1 locs1 ls h1 hx hH hS hce hcv hcl => absurd hx.1.2 (by simp)) (fun v9 M1 h9 => ?_)
  obtain ⟨-, rfl, hG1, hf1⟩ := h9
  have hD1 := hD.keep (M2 := M1) (fun q q1 q2 => hf1.2 q (by omega) (by omega))
  obtain ⟨fs1, hob1⟩ := hD1.ob
  refine m_aload_n C 3 dL_law_2464 rfl rfl ?_
  refine m_callV C (R_isConsistent hF hl hJ hN hD1 (by omega) hI (by omega) hG.tx hG.ot) dL_law_2465 kc_X10_isConsistent kV_L_323 hob1 rfl rfl rfl rfl (Nat.le_of_ble_eq_true rfl) ⟨(Nat.le_of_ble_eq_true rfl), (Nat.le_of_ble_eq_true rfl)⟩ ⟨by show _ ≤ 603072; omega, by show _ ≤ 7186538; omega⟩ m_nox (fun v9 M2 h9 => ?_)
  obtain ⟨z, rfl, hz, hD2, hf2⟩ := h9
  have hz := hz rfl
  subst hz
  refine m_icmp_same (tgt := 2889) C dL_law_2468 (by decide) ?_
  exact kk (W) M2 ⟨hG1.mfr hf2, ⟨_, hD2⟩, ⟨f1, (hf2.2 _ (by omega)).trans ((hf1.2 _ (by omega) (by omega)).trans hO1)⟩, ⟨f2, (hf2.2 _ (by omega)).trans ((hf1.2 _ (by omega) (by omega)).trans hO2)⟩, (hI.mono (by omega))⟩
set_option maxHeartbeats 2000000 in
theorem L_renderGoblin (hF : m_F D aC s) (hl : l.stackTraces = false) (hJ : m_J s fo ks vs fA sA dO dT) (hX : m_TH s) (hN : m_NM s sa va) (hNC : m_NC s) (C : m_C D aC s RL cL_law 10 l p s m args meth c) {b L x : Nat} {xs : Nat → Int32} (hXs : va_X b L xs s s.heap) (hbl : b < s.heap.size) (hL : L ≤ 2560) {K i : Int} {W : gW} {M : m_M} (hi : 0 ≤ i ∧ i + 5 ≤ (L : Int)) (hK : K ≤ 76000000) (hS : lS s fo x K W M) (hc : cells + 470 ≤ 603072 ∧ slots + 940 ≤ 7186538) (kk : ∀ (W2 : gW) (M2 : m_M), lS s fo x (K + 63600) W2 M2 → m_W D aC s 10 p l e room_1 s m args below meth c (cells + 470) (slots + 940) Q 2889 (lL i x b) [] M2) : m_W D aC s 10 p l e room_1 s m args below meth c cells slots Q 2473 (lL i x b) [] M := by
  obtain ⟨hG, ⟨th, hD⟩, ⟨f1, hO1⟩, ⟨f2, hO2⟩, hI⟩ := hS
  have hx := hG.1.2.2
  refine m_aload_n C 4 dL_law_2473 rfl rfl ?_
  refine m_aload_n C 5 dL_law_2474 rfl rfl ?_
  refine m_iload C 0 dL_law_2475 rfl ?_
  refine m_iconst C dL_law_2477 ?_
  refine m_iadd C dL_law_2478 ?_
  refine m_sld C hXs hbl dL_law_2479 (by omega) hL ?_
  refine m_aload_n C 2 dL_law_2480 rfl rfl ?_
  refine m_callSW C (w_renderGoblin hF hl hNC hG (o1 := x + 248) (by omega) hO1 (hM := C_renderGoblin hF hl hJ hX hG hI (by omega) (m_rng _))) dL_law_2481 kw_L_renderGoblin kS_L_324 rfl rfl (Nat.le_of_ble_eq_true rfl) ⟨(Nat.le_of_ble_eq_true rfl), (Nat.le_of_ble_eq_true rfl)⟩ ⟨by show _ ≤ 603072; omega, by show _ ≤ 7186538; omega⟩ (fun v9 M1 h9 => ?_)
  obtain ⟨rfl, hr5, hv1, ⟨f3, hO3⟩, hG1, hf1⟩ := h9
  refine m_istore C dL_law_2484 (by decide) rfl ?_
  have hD1 := hD.keep (M2 := M1) (fun q q1 q2 => hf1.2 q (by omega) (by omega) (by omega))
  obtain ⟨fs1, hob1⟩ := hD1.ob
  refine m_aload_n C 4 dL_law_2486 rfl rfl ?_
  refine m_aload_n C 6 dL_law_2487 rfl rfl ?_
  refine m_iload C 1 dL_law_2488 rfl ?_
  refine m_iconst C dL_law_2490 ?_
  refine m_iadd C dL_law_2491 ?_
  refine m_sld C hXs hbl dL_law_2492 (by omega) hL ?_
  refine m_callV C (R_renderGoblin hF hl hJ hN hD1 (by omega) hI (by omega) hG.tx hG.ot (m_rng _)) dL_law_2493 kc_X10_renderGoblin kV_L_326 hob1 rfl rfl rfl rfl (Nat.le_of_ble_eq_true rfl) ⟨(Nat.le_of_ble_eq_true rfl), (Nat.le_of_ble_eq_true rfl)⟩ ⟨by show _ ≤ 603072; omega, by show _ ≤ 7186538; omega⟩ m_nox (fun v9 M2 h9 => ?_)
  obtain ⟨z, rfl, hz, hD2, hf2⟩ := h9
  refine m_istore C dL_law_2496 (by decide) rfl ?_
  have hI2 : lI (K + 63600) (if (G_if (0 ≤ (xs (i + 1).toNat).toInt ∧ (xs (i + 1).toNat).toInt < W.1 0 9) ((R_gob W.1 (xs (i + 1).toNat).toInt).length : Int)).1 = 0 then wOt W (R_gob W.1 (xs (i + 1).toNat).toInt) else W) := (lI_if (fun z => ((hI.ot (by have := R_gob_len (hI.B (by omega)) (b01r z); omega)).mono (by omega))) (hI.mono (by omega)))
  have hkk := m_W_k (kk (if (G_if (0 ≤ (xs (i + 1).toNat).toInt ∧ (xs (i + 1).toNat).toInt < W.1 0 9) ((R_gob W.1 (xs (i + 1).toNat).toInt).length : Int)).1 = 0 then wOt W (R_gob W.1 (xs (i + 1).toNat).toInt) else W) M2 ⟨hG1.mfr hf2, ⟨_, hD2⟩, ⟨f3, (hf2.2 _ (by omega)).trans hO3⟩, ⟨f2, (hf2.2 _ (by omega)).trans ((hf1.2 _ (by omega) (by omega) (by omega)).trans hO2)⟩, hI2⟩)
  exact m_tail hF hl C hx hD2 hI2 (by omega) hr5 hz (fun z0 => (hf2.2 _ (by omega)).trans (hv1 z0)) ⟨by omega, by omega⟩ dL_law_2498 dL_law_2499 dL_law_2502 dL_law_2504 dL_law_2509 dL_law_2511 dL_law_2514 dL_law_2515 dL_law_2516 dL_law_2517 dL_law_2519 dL_law_2520 dL_law_2521 dL_law_2526 (by decide) hkk
set_option maxHeartbeats 2000000 in
theorem L_renderContracts (hF : m_F D aC s) (hl : l.stackTraces = false) (hJ : m_J s fo ks vs fA sA dO dT) (hX : m_TH s) (hN : m_NM s sa va) (hNC : m_NC s) (C : m_C D aC s RL cL_law 10 l p s m args meth c) {b L x : Nat} {xs : Nat → Int32} (hXs : va_X b L xs s s.heap) (hbl : b < s.heap.size) (hL : L ≤ 2560) {K i : Int} {W : gW} {M : m_M} (hi : 0 ≤ i ∧ i + 5 ≤ (L : Int)) (hK : K ≤ 76000000) (hS : lS s fo x K W M) (hc : cells + 470 ≤ 603072 ∧ slots + 940 ≤ 7186538) (kk : ∀ (W2 : gW) (M2 : m_M), lS s fo x (K + 63600) W2 M2 → m_W D aC s 10 p l e room_1 s m args below meth c (cells + 470) (slots + 940) Q 2889 (lL i x b) [] M2) : m_W D aC s 10 p l e room_1 s m args below meth c cells slots Q 2529 (lL i x b) [] M := by
  obtain ⟨hG, ⟨th, hD⟩, ⟨f1, hO1⟩, ⟨f2, hO2⟩, hI⟩ := hS
  have hx := hG.1.2.2
  refine m_aload_n C 4 dL_law_2529 rfl rfl ?_
  refine m_callV C (C_renderContracts hF hl hJ hX hG hI (by omega)) dL_law_2530 kc_X9_renderContracts kV_L_327 hG.2.1 rfl rfl rfl rfl (Nat.le_of_ble_eq_true rfl) ⟨(Nat.le_of_ble_eq_true rfl), (Nat.le_of_ble_eq_true rfl)⟩ ⟨by show _ ≤ 603072; omega, by show _ ≤ 7186538; omega⟩ (fun E M1 ce q9 H1 locs1 ls h1 hx hH hS hce hcv hcl => absurd hx.1.2 (by simp)) (fun v9 M1 h9 => ?_)
  obtain ⟨-, rfl, hG1, hf1⟩ := h9
  have hD1 := hD.keep (M2 := M1) (fun q q1 q2 => hf1.2 q (by omega) (by omega))
  obtain ⟨fs1, hob1⟩ := hD1.ob
  refine m_aload_n C 3 dL_law_2533 rfl rfl ?_
  refine m_callV C (R_renderContracts hF hl hJ hN hD1 (by omega) hI (by omega) hG.tx hG.ot) dL_law_2534 kc_X10_renderContracts kV_L_330 hob1 rfl rfl rfl rfl (Nat.le_of_ble_eq_true rfl) ⟨(Nat.le_of_ble_eq_true rfl), (Nat.le_of_ble_eq_true rfl)⟩ ⟨by show _ ≤ 603072; omega, by show _ ≤ 7186538; omega⟩ m_nox (fun v9 M2 h9 => ?_)
  obtain ⟨z, rfl, hz, hD2, hf2⟩ := h9
  have hz := hz rfl
  subst hz
  refine m_icmp_same (tgt := 2889) C dL_law_2537 (by decide) ?_
  exact kk (wOt W (R_con W.1 (W.1 0 11).toNat)) M2 ⟨hG1.mfr hf2, ⟨_, hD2⟩, ⟨f1, (hf2.2 _ (by omega)).trans ((hf1.2 _ (by omega) (by omega)).trans hO1)⟩, ⟨f2, (hf2.2 _ (by omega)).trans ((hf1.2 _ (by omega) (by omega)).trans hO2)⟩, ((hI.ot (by have z := R_con_len (hI.B (by omega)) (W.1 0 11).toNat (by have := hI.1.1.n11; omega); have := hI.1.1.n11; omega)).mono (by omega))⟩
set_option maxHeartbeats 2000000 in
theorem L_outputAt (hF : m_F D aC s) (hl : l.stackTraces = false) (hJ : m_J s fo ks vs fA sA dO dT) (hX : m_TH s) (hN : m_NM s sa va) (hNC : m_NC s) (C : m_C D aC s RL cL_law 10 l p s m args meth c) {b L x : Nat} {xs : Nat → Int32} (hXs : va_X b L xs s s.heap) (hbl : b < s.heap.size) (hL : L ≤ 2560) {K i : Int} {W : gW} {M : m_M} (hi : 0 ≤ i ∧ i + 5 ≤ (L : Int)) (hK : K ≤ 76000000) (hS : lS s fo x K W M) (hc : cells + 470 ≤ 603072 ∧ slots + 940 ≤ 7186538) (kk : ∀ (W2 : gW) (M2 : m_M), lS s fo x (K + 63600) W2 M2 → m_W D aC s 10 p l e room_1 s m args below meth c (cells + 470) (slots + 940) Q 2889 (lL i x b) [] M2) : m_W D aC s 10 p l e room_1 s m args below meth c cells slots Q 2542 (lL i x b) [] M := by
  obtain ⟨hG, ⟨th, hD⟩, ⟨f1, hO1⟩, ⟨f2, hO2⟩, hI⟩ := hS
  have hx := hG.1.2.2
  refine m_aload_n C 4 dL_law_2542 rfl rfl ?_
  refine m_aload_n C 5 dL_law_2543 rfl rfl ?_
  refine m_iload C 0 dL_law_2544 rfl ?_
  refine m_iconst C dL_law_2546 ?_
  refine m_iadd C dL_law_2547 ?_
  refine m_sld C hXs hbl dL_law_2548 (by omega) hL ?_
  refine m_aload_n C 2 dL_law_2549 rfl rfl ?_
  refine m_callSW C (w_outputAt hF hl hNC hG (o1 := x + 248) (by omega) hO1 (hM := C_outputAt hF hl hJ hX hG hI (by omega) (m_rng _))) dL_law_2550 kw_L_outputAt kS_L_331 rfl rfl (Nat.le_of_ble_eq_true rfl) ⟨(Nat.le_of_ble_eq_true rfl), (Nat.le_of_ble_eq_true rfl)⟩ ⟨by show _ ≤ 603072; omega, by show _ ≤ 7186538; omega⟩ (fun v9 M1 h9 => ?_)
  obtain ⟨rfl, hr5, hv1, ⟨f3, hO3⟩, hG1, hf1⟩ := h9
  refine m_istore C dL_law_2553 (by decide) rfl ?_
  have hD1 := hD.keep (M2 := M1) (fun q q1 q2 => hf1.2 q (by omega) (by omega) (by omega))
  obtain ⟨fs1, hob1⟩ := hD1.ob
  refine m_aload_n C 4 dL_law_2555 rfl rfl ?_
  refine m_aload_n C 6 dL_law_2556 rfl rfl ?_
  refine m_iload C 1 dL_law_2557 rfl ?_
  refine m_iconst C dL_law_2559 ?_
  refine m_iadd C dL_law_2560 ?_
  refine m_sld C hXs hbl dL_law_2561 (by omega) hL ?_
  refine m_callV C (R_outputAt hF hl hJ hN hD1 (by omega) hI (by omega) hG.tx hG.ot (m_rng _)) dL_law_2562 kc_X10_outputAt kV_L_333 hob1 rfl rfl rfl rfl (Nat.le_of_ble_eq_true rfl) ⟨(Nat.le_of_ble_eq_true rfl), (Nat.le_of_ble_eq_true rfl)⟩ ⟨by show _ ≤ 603072; omega, by show _ ≤ 7186538; omega⟩ m_nox (fun v9 M2 h9 => ?_)
  obtain ⟨z, rfl, hz, hD2, hf2⟩ := h9
  refine m_istore C dL_law_2565 (by decide) rfl ?_
  have hI2 : lI (K + 63600) (W) := (hI.mono (by omega))
  have hkk := m_W_k (kk (W) M2 ⟨hG1.mfr hf2, ⟨_, hD2⟩, ⟨f3, (hf2.2 _ (by omega)).trans hO3⟩, ⟨f2, (hf2.2 _ (by omega)).trans ((hf1.2 _ (by omega) (by omega) (by omega)).trans hO2)⟩, hI2⟩)
  exact m_tail hF hl C hx hD2 hI2 (by omega) hr5 hz (fun z0 => (hf2.2 _ (by omega)).trans (hv1 z0)) ⟨by omega, by omega⟩ dL_law_2567 dL_law_2568 dL_law_2571 dL_law_2573 dL_law_2578 dL_law_2580 dL_law_2583 dL_law_2584 dL_law_2585 dL_law_2586 dL_law_2588 dL_law_2589 dL_law_2590 dL_law_2595 (by decide) hkk
set_option maxHeartbeats 2000000 in
theorem L_type (hF : m_F D aC s) (hl : l.stackTraces = false) (hJ : m_J s fo ks vs fA sA dO dT) (hX : m_TH s) (hN : m_NM s sa va) (hNC : m_NC s) (C : m_C D aC s RL cL_law 10 l p s m args meth c) {b L x : Nat} {xs : Nat → Int32} (hXs : va_X b L xs s s.heap) (hbl : b < s.heap.size) (hL : L ≤ 2560) {K i : Int} {W : gW} {M : m_M} (hi : 0 ≤ i ∧ i + 5 ≤ (L : Int)) (hK : K ≤ 76000000) (hS : lS s fo x K W M) (hc : cells + 470 ≤ 603072 ∧ slots + 940 ≤ 7186538) (kk : ∀ (W2 : gW) (M2 : m_M), lS s fo x (K + 63600) W2 M2 → m_W D aC s 10 p l e room_1 s m args below meth c (cells + 470) (slots + 940) Q 2889 (lL i x b) [] M2) : m_W D aC s 10 p l e room_1 s m args below meth c cells slots Q 2598 (lL i x b) [] M := by
  obtain ⟨hG, ⟨th, hD⟩, ⟨f1, hO1⟩, ⟨f2, hO2⟩, hI⟩ := hS
  have hx := hG.1.2.2
  refine m_aload_n C 4 dL_law_2598 rfl rfl ?_
  refine m_aload_n C 5 dL_law_2599 rfl rfl ?_
  refine m_iload C 0 dL_law_2600 rfl ?_
  refine m_iconst C dL_law_2602 ?_
  refine m_iadd C dL_law_2603 ?_
  refine m_sld C hXs hbl dL_law_2604 (by omega) hL ?_
  refine m_i2cx C dL_law_2605 ?_
  refine m_aload_n C 2 dL_law_2606 rfl rfl ?_
  refine m_callSW C (w_type hF hl hNC hG (o1 := x + 248) (by omega) hO1 (hM := C_type hF hl hJ hX hG hI (by omega) (i_ch_rg _))) dL_law_2607 kw_L_type kS_L_334 rfl rfl (Nat.le_of_ble_eq_true rfl) ⟨(Nat.le_of_ble_eq_true rfl), (Nat.le_of_ble_eq_true rfl)⟩ ⟨by show _ ≤ 603072; omega, by show _ ≤ 7186538; omega⟩ (fun v9 M1 h9 => ?_)
  obtain ⟨rfl, hr5, hv1, ⟨f3, hO3⟩, hG1, hf1⟩ := h9
  refine m_istore C dL_law_2610 (by decide) rfl ?_
  have hD1 := hD.keep (M2 := M1) (fun q q1 q2 => hf1.2 q (by omega) (by omega) (by omega))
  obtain ⟨fs1, hob1⟩ := hD1.ob
  refine m_aload_n C 4 dL_law_2612 rfl rfl ?_
  refine m_aload_n C 6 dL_law_2613 rfl rfl ?_
  refine m_iload C 1 dL_law_2614 rfl ?_
  refine m_iconst C dL_law_2616 ?_
  refine m_iadd C dL_law_2617 ?_
  refine m_sld C hXs hbl dL_law_2618 (by omega) hL ?_
  refine m_i2cx C dL_law_2619 ?_
  refine m_callV C (R_type hF hl hJ hN hD1 (by omega) hI (by omega) hG.tx hG.ot (i_ch_rg _)) dL_law_2620 kc_X10_type kV_L_337 hob1 rfl rfl rfl rfl (Nat.le_of_ble_eq_true rfl) ⟨(Nat.le_of_ble_eq_true rfl), (Nat.le_of_ble_eq_true rfl)⟩ ⟨by show _ ≤ 603072; omega, by show _ ≤ 7186538; omega⟩ m_nox (fun v9 M2 h9 => ?_)
  obtain ⟨z, rfl, hz, hD2, hf2⟩ := h9
  refine m_istore C dL_law_2623 (by decide) rfl ?_
  have hI2 : lI (K + 63600) (if (rType W (i_ch (xs (i + 1).toNat).toInt)).1 = 0 then wTx W (W.2.2.2.2.1 ++ [(i_ch (xs (i + 1).toNat).toInt)]) else W) := (lI_if (fun z => ((hI.tx (by have := (rType_c z).2; rw [List.length_append]; show _ + 1 ≤ 60; omega)).mono (by omega))) (hI.mono (by omega)))
  have hkk := m_W_k (kk (if (rType W (i_ch (xs (i + 1).toNat).toInt)).1 = 0 then wTx W (W.2.2.2.2.1 ++ [(i_ch (xs (i + 1).toNat).toInt)]) else W) M2 ⟨hG1.mfr hf2, ⟨_, hD2⟩, ⟨f3, (hf2.2 _ (by omega)).trans hO3⟩, ⟨f2, (hf2.2 _ (by omega)).trans ((hf1.2 _ (by omega) (by omega) (by omega)).trans hO2)⟩, hI2⟩)
  exact m_tail hF hl C hx hD2 hI2 (by omega) hr5 hz (fun z0 => (hf2.2 _ (by omega)).trans (hv1 z0)) ⟨by omega, by omega⟩ dL_law_2625 dL_law_2626 dL_law_2629 dL_law_2631 dL_law_2636 dL_law_2638 dL_law_2641 dL_law_2642 dL_law_2643 dL_law_2644 dL_law_2646 dL_law_2647 dL_law_2648 dL_law_2653 (by decide) hkk
set_option maxHeartbeats 2000000 in
theorem L_runScript (hF : m_F D aC s) (hl : l.stackTraces = false) (hJ : m_J s fo ks vs fA sA dO dT) (hX : m_TH s) (hN : m_NM s sa va) (hNC : m_NC s) (C : m_C D aC s RL cL_law 10 l p s m args meth c) {b L x : Nat} {xs : Nat → Int32} (hXs : va_X b L xs s s.heap) (hbl : b < s.heap.size) (hL : L ≤ 2560) {K i : Int} {W : gW} {M : m_M} (hi : 0 ≤ i ∧ i + 5 ≤ (L : Int)) (hK : K ≤ 76000000) (hS : lS s fo x K W M) (hc : cells + 470 ≤ 603072 ∧ slots + 940 ≤ 7186538) (kk : ∀ (W2 : gW) (M2 : m_M), lS s fo x (K + 63600) W2 M2 → m_W D aC s 10 p l e room_1 s m args below meth c (cells + 470) (slots + 940) Q 2889 (lL i x b) [] M2) : m_W D aC s 10 p l e room_1 s m args below meth c cells slots Q 2656 (lL i x b) [] M := by
  obtain ⟨hG, ⟨th, hD⟩, ⟨f1, hO1⟩, ⟨f2, hO2⟩, hI⟩ := hS
  have hx := hG.1.2.2
  refine m_aload_n C 4 dL_law_2656 rfl rfl ?_
  refine m_aload_n C 2 dL_law_2657 rfl rfl ?_
  refine m_callSW C (w_runScript hF hl hNC hG (o1 := x + 248) (by omega) hO1 (hM := C_runScript hF hl hJ hX hG hI (by omega) )) dL_law_2658 kw_L_runScript kS_L_338 rfl rfl (Nat.le_of_ble_eq_true rfl) ⟨(Nat.le_of_ble_eq_true rfl), (Nat.le_of_ble_eq_true rfl)⟩ ⟨by show _ ≤ 603072; omega, by show _ ≤ 7186538; omega⟩ (fun v9 M1 h9 => ?_)
  obtain ⟨rfl, hr5, hv1, ⟨f3, hO3⟩, hG1, hf1⟩ := h9
  refine m_istore C dL_law_2661 (by decide) rfl ?_
  have hD1 := hD.keep (M2 := M1) (fun q q1 q2 => hf1.2 q (by omega) (by omega) (by omega))
  obtain ⟨fs1, hob1⟩ := hD1.ob
  refine m_aload_n C 4 dL_law_2663 rfl rfl ?_
  refine m_callV C (R_runScript hF hl hJ hN hD1 (by omega) hI (by omega) hG.tx hG.ot ) dL_law_2664 kc_X10_runScript kV_L_341 hob1 rfl rfl rfl rfl (Nat.le_of_ble_eq_true rfl) ⟨(Nat.le_of_ble_eq_true rfl), (Nat.le_of_ble_eq_true rfl)⟩ ⟨by show _ ≤ 603072; omega, by show _ ≤ 7186538; omega⟩ m_nox (fun v9 M2 h9 => ?_)
  obtain ⟨z, rfl, hz, hD2, hf2⟩ := h9
  refine m_istore C dL_law_2667 (by decide) rfl ?_
  have hI2 : lI (K + 63600) (wRun W) := hI.run
  have hkk := m_W_k (kk (wRun W) M2 ⟨hG1.mfr hf2, ⟨_, hD2⟩, ⟨f3, (hf2.2 _ (by omega)).trans hO3⟩, ⟨f2, (hf2.2 _ (by omega)).trans ((hf1.2 _ (by omega) (by omega) (by omega)).trans hO2)⟩, hI2⟩)
  exact m_tail hF hl C hx hD2 hI2 (by omega) hr5 hz (fun z0 => (hf2.2 _ (by omega)).trans (hv1 z0)) ⟨by omega, by omega⟩ dL_law_2669 dL_law_2670 dL_law_2673 dL_law_2675 dL_law_2680 dL_law_2682 dL_law_2685 dL_law_2686 dL_law_2687 dL_law_2688 dL_law_2690 dL_law_2691 dL_law_2692 dL_law_2697 (by decide) hkk
set_option maxHeartbeats 2000000 in
theorem L_errorPosition (hF : m_F D aC s) (hl : l.stackTraces = false) (hJ : m_J s fo ks vs fA sA dO dT) (hX : m_TH s) (hN : m_NM s sa va) (hNC : m_NC s) (C : m_C D aC s RL cL_law 10 l p s m args meth c) {b L x : Nat} {xs : Nat → Int32} (hXs : va_X b L xs s s.heap) (hbl : b < s.heap.size) (hL : L ≤ 2560) {K i : Int} {W : gW} {M : m_M} (hi : 0 ≤ i ∧ i + 5 ≤ (L : Int)) (hK : K ≤ 76000000) (hS : lS s fo x K W M) (hc : cells + 470 ≤ 603072 ∧ slots + 940 ≤ 7186538) (kk : ∀ (W2 : gW) (M2 : m_M), lS s fo x (K + 63600) W2 M2 → m_W D aC s 10 p l e room_1 s m args below meth c (cells + 470) (slots + 940) Q 2889 (lL i x b) [] M2) : m_W D aC s 10 p l e room_1 s m args below meth c cells slots Q 2700 (lL i x b) [] M := by
  obtain ⟨hG, ⟨th, hD⟩, ⟨f1, hO1⟩, ⟨f2, hO2⟩, hI⟩ := hS
  have hx := hG.1.2.2
  refine m_aload_n C 4 dL_law_2700 rfl rfl ?_
  refine m_aload_n C 2 dL_law_2701 rfl rfl ?_
  refine m_callSW C (w_errorPosition hF hl hNC hG (o1 := x + 248) (by omega) hO1 (hM := C_errorPosition hF hl hJ hX hG hI (by omega) )) dL_law_2702 kw_L_errorPosition kS_L_342 rfl rfl (Nat.le_of_ble_eq_true rfl) ⟨(Nat.le_of_ble_eq_true rfl), (Nat.le_of_ble_eq_true rfl)⟩ ⟨by show _ ≤ 603072; omega, by show _ ≤ 7186538; omega⟩ (fun v9 M1 h9 => ?_)
  obtain ⟨rfl, hr5, hv1, ⟨f3, hO3⟩, hG1, hf1⟩ := h9
  refine m_istore C dL_law_2705 (by decide) rfl ?_
  have hD1 := hD.keep (M2 := M1) (fun q q1 q2 => hf1.2 q (by omega) (by omega) (by omega))
  obtain ⟨fs1, hob1⟩ := hD1.ob
  refine m_aload_n C 4 dL_law_2707 rfl rfl ?_
  refine m_callV C (R_errorPosition hF hl hJ hN hD1 (by omega) hI (by omega) hG.tx hG.ot ) dL_law_2708 kc_X10_errorPosition kV_L_344 hob1 rfl rfl rfl rfl (Nat.le_of_ble_eq_true rfl) ⟨(Nat.le_of_ble_eq_true rfl), (Nat.le_of_ble_eq_true rfl)⟩ ⟨by show _ ≤ 603072; omega, by show _ ≤ 7186538; omega⟩ m_nox (fun v9 M2 h9 => ?_)
  obtain ⟨z, rfl, hz, hD2, hf2⟩ := h9
  refine m_istore C dL_law_2711 (by decide) rfl ?_
  have hI2 : lI (K + 63600) (W) := (hI.mono (by omega))
  have hkk := m_W_k (kk (W) M2 ⟨hG1.mfr hf2, ⟨_, hD2⟩, ⟨f3, (hf2.2 _ (by omega)).trans hO3⟩, ⟨f2, (hf2.2 _ (by omega)).trans ((hf1.2 _ (by omega) (by omega) (by omega)).trans hO2)⟩, hI2⟩)
  exact m_tail hF hl C hx hD2 hI2 (by omega) hr5 hz (fun z0 => (hf2.2 _ (by omega)).trans (hv1 z0)) ⟨by omega, by omega⟩ dL_law_2713 dL_law_2714 dL_law_2717 dL_law_2719 dL_law_2724 dL_law_2726 dL_law_2729 dL_law_2730 dL_law_2731 dL_law_2732 dL_law_2734 dL_law_2735 dL_law_2736 dL_law_2741 (by decide) hkk
set_option maxHeartbeats 2000000 in
theorem L_failedCommand (hF : m_F D aC s) (hl : l.stackTraces = false) (hJ : m_J s fo ks vs fA sA dO dT) (hX : m_TH s) (hN : m_NM s sa va) (hNC : m_NC s) (C : m_C D aC s RL cL_law 10 l p s m args meth c) {b L x : Nat} {xs : Nat → Int32} (hXs : va_X b L xs s s.heap) (hbl : b < s.heap.size) (hL : L ≤ 2560) {K i : Int} {W : gW} {M : m_M} (hi : 0 ≤ i ∧ i + 5 ≤ (L : Int)) (hK : K ≤ 76000000) (hS : lS s fo x K W M) (hc : cells + 470 ≤ 603072 ∧ slots + 940 ≤ 7186538) (kk : ∀ (W2 : gW) (M2 : m_M), lS s fo x (K + 63600) W2 M2 → m_W D aC s 10 p l e room_1 s m args below meth c (cells + 470) (slots + 940) Q 2889 (lL i x b) [] M2) : m_W D aC s 10 p l e room_1 s m args below meth c cells slots Q 2744 (lL i x b) [] M := by
  obtain ⟨hG, ⟨th, hD⟩, ⟨f1, hO1⟩, ⟨f2, hO2⟩, hI⟩ := hS
  have hx := hG.1.2.2
  refine m_aload_n C 4 dL_law_2744 rfl rfl ?_
  refine m_aload_n C 2 dL_law_2745 rfl rfl ?_
  refine m_callSW C (w_failedCommand hF hl hNC hG (o1 := x + 248) (by omega) hO1 (hM := C_failedCommand hF hl hJ hX hG hI (by omega) )) dL_law_2746 kw_L_failedCommand kS_L_345 rfl rfl (Nat.le_of_ble_eq_true rfl) ⟨(Nat.le_of_ble_eq_true rfl), (Nat.le_of_ble_eq_true rfl)⟩ ⟨by show _ ≤ 603072; omega, by show _ ≤ 7186538; omega⟩ (fun v9 M1 h9 => ?_)
  obtain ⟨rfl, hr5, hv1, ⟨f3, hO3⟩, hG1, hf1⟩ := h9
  refine m_istore C dL_law_2749 (by decide) rfl ?_
  have hD1 := hD.keep (M2 := M1) (fun q q1 q2 => hf1.2 q (by omega) (by omega) (by omega))
  obtain ⟨fs1, hob1⟩ := hD1.ob
  refine m_aload_n C 4 dL_law_2751 rfl rfl ?_
  refine m_callV C (R_failedCommand hF hl hJ hN hD1 (by omega) hI (by omega) hG.tx hG.ot ) dL_law_2752 kc_X10_failedCommand kV_L_347 hob1 rfl rfl rfl rfl (Nat.le_of_ble_eq_true rfl) ⟨(Nat.le_of_ble_eq_true rfl), (Nat.le_of_ble_eq_true rfl)⟩ ⟨by show _ ≤ 603072; omega, by show _ ≤ 7186538; omega⟩ m_nox (fun v9 M2 h9 => ?_)
  obtain ⟨z, rfl, hz, hD2, hf2⟩ := h9
  refine m_istore C dL_law_2755 (by decide) rfl ?_
  have hI2 : lI (K + 63600) (W) := (hI.mono (by omega))
  have hkk := m_W_k (kk (W) M2 ⟨hG1.mfr hf2, ⟨_, hD2⟩, ⟨f3, (hf2.2 _ (by omega)).trans hO3⟩, ⟨f2, (hf2.2 _ (by omega)).trans ((hf1.2 _ (by omega) (by omega) (by omega)).trans hO2)⟩, hI2⟩)
  exact m_tail hF hl C hx hD2 hI2 (by omega) hr5 hz (fun z0 => (hf2.2 _ (by omega)).trans (hv1 z0)) ⟨by omega, by omega⟩ dL_law_2757 dL_law_2758 dL_law_2761 dL_law_2763 dL_law_2768 dL_law_2770 dL_law_2773 dL_law_2774 dL_law_2775 dL_law_2776 dL_law_2778 dL_law_2779 dL_law_2780 dL_law_2785 (by decide) hkk
set_option maxHeartbeats 2000000 in
theorem L_undo (hF : m_F D aC s) (hl : l.stackTraces = false) (hJ : m_J s fo ks vs fA sA dO dT) (hX : m_TH s) (hN : m_NM s sa va) (hNC : m_NC s) (C : m_C D aC s RL cL_law 10 l p s m args meth c) {b L x : Nat} {xs : Nat → Int32} (hXs : va_X b L xs s s.heap) (hbl : b < s.heap.size) (hL : L ≤ 2560) {K i : Int} {W : gW} {M : m_M} (hi : 0 ≤ i ∧ i + 5 ≤ (L : Int)) (hK : K ≤ 76000000) (hS : lS s fo x K W M) (hc : cells + 470 ≤ 603072 ∧ slots + 940 ≤ 7186538) (kk : ∀ (W2 : gW) (M2 : m_M), lS s fo x (K + 63600) W2 M2 → m_W D aC s 10 p l e room_1 s m args below meth c (cells + 470) (slots + 940) Q 2889 (lL i x b) [] M2) : m_W D aC s 10 p l e room_1 s m args below meth c cells slots Q 2788 (lL i x b) [] M := by
  obtain ⟨hG, ⟨th, hD⟩, ⟨f1, hO1⟩, ⟨f2, hO2⟩, hI⟩ := hS
  have hx := hG.1.2.2
  refine m_aload_n C 4 dL_law_2788 rfl rfl ?_
  refine m_aload_n C 2 dL_law_2789 rfl rfl ?_
  refine m_callSW C (w_undo hF hl hNC hG (o1 := x + 248) (by omega) hO1 (hM := C_undo hF hl hJ hX hG hI (by omega) )) dL_law_2790 kw_L_undo kS_L_348 rfl rfl (Nat.le_of_ble_eq_true rfl) ⟨(Nat.le_of_ble_eq_true rfl), (Nat.le_of_ble_eq_true rfl)⟩ ⟨by show _ ≤ 603072; omega, by show _ ≤ 7186538; omega⟩ (fun v9 M1 h9 => ?_)
  obtain ⟨rfl, hr5, hv1, ⟨f3, hO3⟩, hG1, hf1⟩ := h9
  refine m_istore C dL_law_2793 (by decide) rfl ?_
  have hD1 := hD.keep (M2 := M1) (fun q q1 q2 => hf1.2 q (by omega) (by omega) (by omega))
  obtain ⟨fs1, hob1⟩ := hD1.ob
  refine m_aload_n C 4 dL_law_2795 rfl rfl ?_
  refine m_callV C (R_undo hF hl hJ hN hD1 (by omega) hI (by omega) hG.tx hG.ot ) dL_law_2796 kc_X10_undo kV_L_350 hob1 rfl rfl rfl rfl (Nat.le_of_ble_eq_true rfl) ⟨(Nat.le_of_ble_eq_true rfl), (Nat.le_of_ble_eq_true rfl)⟩ ⟨by show _ ≤ 603072; omega, by show _ ≤ 7186538; omega⟩ m_nox (fun v9 M2 h9 => ?_)
  obtain ⟨z, rfl, hz, hD2, hf2⟩ := h9
  refine m_istore C dL_law_2799 (by decide) rfl ?_
  have hI2 : lI (K + 63600) (if (rUndo W).1 = 0 then wUndo W else W) := (lI_if (fun z => ((hI.undo (b01r z)).mono (by omega))) (hI.mono (by omega)))
  have hkk := m_W_k (kk (if (rUndo W).1 = 0 then wUndo W else W) M2 ⟨hG1.mfr hf2, ⟨_, hD2⟩, ⟨f3, (hf2.2 _ (by omega)).trans hO3⟩, ⟨f2, (hf2.2 _ (by omega)).trans ((hf1.2 _ (by omega) (by omega) (by omega)).trans hO2)⟩, hI2⟩)
  exact m_tail hF hl C hx hD2 hI2 (by omega) hr5 hz (fun z0 => (hf2.2 _ (by omega)).trans (hv1 z0)) ⟨by omega, by omega⟩ dL_law_2801 dL_law_2802 dL_law_2805 dL_law_2807 dL_law_2812 dL_law_2814 dL_law_2817 dL_law_2818 dL_law_2819 dL_law_2820 dL_law_2822 dL_law_2823 dL_law_2824 dL_law_2829 (by decide) hkk
set_option maxHeartbeats 2000000 in
theorem L_save (hF : m_F D aC s) (hl : l.stackTraces = false) (hJ : m_J s fo ks vs fA sA dO dT) (hX : m_TH s) (hN : m_NM s sa va) (hNC : m_NC s) (C : m_C D aC s RL cL_law 10 l p s m args meth c) {b L x : Nat} {xs : Nat → Int32} (hXs : va_X b L xs s s.heap) (hbl : b < s.heap.size) (hL : L ≤ 2560) {K i : Int} {W : gW} {M : m_M} (hi : 0 ≤ i ∧ i + 5 ≤ (L : Int)) (hK : K ≤ 76000000) (hS : lS s fo x K W M) (hc : cells + 470 ≤ 603072 ∧ slots + 940 ≤ 7186538) (kk : ∀ (W2 : gW) (M2 : m_M), lS s fo x (K + 63600) W2 M2 → m_W D aC s 10 p l e room_1 s m args below meth c (cells + 470) (slots + 940) Q 2889 (lL i x b) [] M2) : m_W D aC s 10 p l e room_1 s m args below meth c cells slots Q 2832 (lL i x b) [] M := by
  obtain ⟨hG, ⟨th, hD⟩, ⟨f1, hO1⟩, ⟨f2, hO2⟩, hI⟩ := hS
  have hx := hG.1.2.2
  refine m_aload_n C 4 dL_law_2832 rfl rfl ?_
  refine m_callV C (C_save hF hl hJ hX hG hI (by omega)) dL_law_2833 kc_X9_save kV_L_351 hG.2.1 rfl rfl rfl rfl (Nat.le_of_ble_eq_true rfl) ⟨(Nat.le_of_ble_eq_true rfl), (Nat.le_of_ble_eq_true rfl)⟩ ⟨by show _ ≤ 603072; omega, by show _ ≤ 7186538; omega⟩ (fun E M1 ce q9 H1 locs1 ls h1 hx hH hS hce hcv hcl => absurd hx.1.2 (by simp)) (fun v9 M1 h9 => ?_)
  obtain ⟨-, rfl, hG1, hf1⟩ := h9
  have hD1 := hD.keep (M2 := M1) (fun q q1 q2 => hf1.2 q (by omega) (by omega))
  obtain ⟨fs1, hob1⟩ := hD1.ob
  refine m_aload_n C 3 dL_law_2836 rfl rfl ?_
  refine m_callV C (R_save hF hl hJ hN hD1 (by omega) hI (by omega) hG.tx hG.ot) dL_law_2837 kc_X10_save kV_L_354 hob1 rfl rfl rfl rfl (Nat.le_of_ble_eq_true rfl) ⟨(Nat.le_of_ble_eq_true rfl), (Nat.le_of_ble_eq_true rfl)⟩ ⟨by show _ ≤ 603072; omega, by show _ ≤ 7186538; omega⟩ m_nox (fun v9 M2 h9 => ?_)
  obtain ⟨z, rfl, hz, hD2, hf2⟩ := h9
  have hz := hz rfl
  subst hz
  refine m_icmp_same (tgt := 2889) C dL_law_2840 (by decide) ?_
  exact kk (wSave W) M2 ⟨hG1.mfr hf2, ⟨_, hD2⟩, ⟨f1, (hf2.2 _ (by omega)).trans ((hf1.2 _ (by omega) (by omega)).trans hO1)⟩, ⟨f2, (hf2.2 _ (by omega)).trans ((hf1.2 _ (by omega) (by omega)).trans hO2)⟩, (hI.save.mono (by omega))⟩
set_option maxHeartbeats 2000000 in
theorem L_restore (hF : m_F D aC s) (hl : l.stackTraces = false) (hJ : m_J s fo ks vs fA sA dO dT) (hX : m_TH s) (hN : m_NM s sa va) (hNC : m_NC s) (C : m_C D aC s RL cL_law 10 l p s m args meth c) {b L x : Nat} {xs : Nat → Int32} (hXs : va_X b L xs s s.heap) (hbl : b < s.heap.size) (hL : L ≤ 2560) {K i : Int} {W : gW} {M : m_M} (hi : 0 ≤ i ∧ i + 5 ≤ (L : Int)) (hK : K ≤ 76000000) (hS : lS s fo x K W M) (hc : cells + 470 ≤ 603072 ∧ slots + 940 ≤ 7186538) (kk : ∀ (W2 : gW) (M2 : m_M), lS s fo x (K + 63600) W2 M2 → m_W D aC s 10 p l e room_1 s m args below meth c (cells + 470) (slots + 940) Q 2889 (lL i x b) [] M2) : m_W D aC s 10 p l e room_1 s m args below meth c cells slots Q 2845 (lL i x b) [] M := by
  obtain ⟨hG, ⟨th, hD⟩, ⟨f1, hO1⟩, ⟨f2, hO2⟩, hI⟩ := hS
  have hx := hG.1.2.2
  refine m_aload_n C 4 dL_law_2845 rfl rfl ?_
  refine m_aload_n C 2 dL_law_2846 rfl rfl ?_
  refine m_callSW C (w_restore hF hl hNC hG (o1 := x + 248) (by omega) hO1 (hM := C_restore hF hl hJ hX hG hI (by omega) )) dL_law_2847 kw_L_restore kS_L_355 rfl rfl (Nat.le_of_ble_eq_true rfl) ⟨(Nat.le_of_ble_eq_true rfl), (Nat.le_of_ble_eq_true rfl)⟩ ⟨by show _ ≤ 603072; omega, by show _ ≤ 7186538; omega⟩ (fun v9 M1 h9 => ?_)
  obtain ⟨rfl, hr5, hv1, ⟨f3, hO3⟩, hG1, hf1⟩ := h9
  refine m_istore C dL_law_2850 (by decide) rfl ?_
  have hD1 := hD.keep (M2 := M1) (fun q q1 q2 => hf1.2 q (by omega) (by omega) (by omega))
  obtain ⟨fs1, hob1⟩ := hD1.ob
  refine m_aload_n C 4 dL_law_2852 rfl rfl ?_
  refine m_callV C (R_restore hF hl hJ hN hD1 (by omega) hI (by omega) hG.tx hG.ot ) dL_law_2853 kc_X10_restore kV_L_357 hob1 rfl rfl rfl rfl (Nat.le_of_ble_eq_true rfl) ⟨(Nat.le_of_ble_eq_true rfl), (Nat.le_of_ble_eq_true rfl)⟩ ⟨by show _ ≤ 603072; omega, by show _ ≤ 7186538; omega⟩ m_nox (fun v9 M2 h9 => ?_)
  obtain ⟨z, rfl, hz, hD2, hf2⟩ := h9
  refine m_istore C dL_law_2856 (by decide) rfl ?_
  have hI2 : lI (K + 63600) (if (rRes W).1 = 0 then wRes W else W) := (lI_if (fun z => ((hI.res (b01r z)).mono (by omega))) (hI.mono (by omega)))
  have hkk := m_W_k (kk (if (rRes W).1 = 0 then wRes W else W) M2 ⟨hG1.mfr hf2, ⟨_, hD2⟩, ⟨f3, (hf2.2 _ (by omega)).trans hO3⟩, ⟨f2, (hf2.2 _ (by omega)).trans ((hf1.2 _ (by omega) (by omega) (by omega)).trans hO2)⟩, hI2⟩)
  exact m_tail hF hl C hx hD2 hI2 (by omega) hr5 hz (fun z0 => (hf2.2 _ (by omega)).trans (hv1 z0)) ⟨by omega, by omega⟩ dL_law_2858 dL_law_2859 dL_law_2862 dL_law_2864 dL_law_2869 dL_law_2871 dL_law_2874 dL_law_2875 dL_law_2876 dL_law_2877 dL_law_2879 dL_law_2880 dL_law_2881 dL_law_2886 (by decide) hkk
end m_LAW
