/-! texts that the law builds -/
def ls_i : List Nat := [216, 221, 223, 225, 231, 266, 268, 270, 272, 274]
def ls_t : List String := ["s", "p", "", "d", "z", " ", ":", ">", "@", "/"]
def ls_z : List (List Int) := [[115], [112], [], [100], [122], [32], [58], [62], [64], [47]]
def m_LS (s0 : State) (sa va : Nat → Nat) : Prop := ∀ k, k < 10 → vk_R RL (ls_i.getD k 0) (ls_t.getD k "") (sa k) s0 ∧ m_str s0 (sa k) (va k) (ls_z.getD k [])
theorem m_LS.r0 {s0 : State} {sa va : Nat → Nat} (h : m_LS s0 sa va) : vk_R RL 216 "s" (sa 0) s0 := (h 0 (by decide)).1
theorem m_LS.t0 {s0 : State} {sa va : Nat → Nat} (h : m_LS s0 sa va) : m_str s0 (sa 0) (va 0) [115] := (h 0 (by decide)).2
theorem m_LS.r1 {s0 : State} {sa va : Nat → Nat} (h : m_LS s0 sa va) : vk_R RL 221 "p" (sa 1) s0 := (h 1 (by decide)).1
theorem m_LS.t1 {s0 : State} {sa va : Nat → Nat} (h : m_LS s0 sa va) : m_str s0 (sa 1) (va 1) [112] := (h 1 (by decide)).2
theorem m_LS.r2 {s0 : State} {sa va : Nat → Nat} (h : m_LS s0 sa va) : vk_R RL 223 "" (sa 2) s0 := (h 2 (by decide)).1
theorem m_LS.t2 {s0 : State} {sa va : Nat → Nat} (h : m_LS s0 sa va) : m_str s0 (sa 2) (va 2) [] := (h 2 (by decide)).2
theorem m_LS.r3 {s0 : State} {sa va : Nat → Nat} (h : m_LS s0 sa va) : vk_R RL 225 "d" (sa 3) s0 := (h 3 (by decide)).1
theorem m_LS.t3 {s0 : State} {sa va : Nat → Nat} (h : m_LS s0 sa va) : m_str s0 (sa 3) (va 3) [100] := (h 3 (by decide)).2
theorem m_LS.r4 {s0 : State} {sa va : Nat → Nat} (h : m_LS s0 sa va) : vk_R RL 231 "z" (sa 4) s0 := (h 4 (by decide)).1
theorem m_LS.t4 {s0 : State} {sa va : Nat → Nat} (h : m_LS s0 sa va) : m_str s0 (sa 4) (va 4) [122] := (h 4 (by decide)).2
theorem m_LS.r5 {s0 : State} {sa va : Nat → Nat} (h : m_LS s0 sa va) : vk_R RL 266 " " (sa 5) s0 := (h 5 (by decide)).1
theorem m_LS.t5 {s0 : State} {sa va : Nat → Nat} (h : m_LS s0 sa va) : m_str s0 (sa 5) (va 5) [32] := (h 5 (by decide)).2
theorem m_LS.r6 {s0 : State} {sa va : Nat → Nat} (h : m_LS s0 sa va) : vk_R RL 268 ":" (sa 6) s0 := (h 6 (by decide)).1
theorem m_LS.t6 {s0 : State} {sa va : Nat → Nat} (h : m_LS s0 sa va) : m_str s0 (sa 6) (va 6) [58] := (h 6 (by decide)).2
theorem m_LS.r7 {s0 : State} {sa va : Nat → Nat} (h : m_LS s0 sa va) : vk_R RL 270 ">" (sa 7) s0 := (h 7 (by decide)).1
theorem m_LS.t7 {s0 : State} {sa va : Nat → Nat} (h : m_LS s0 sa va) : m_str s0 (sa 7) (va 7) [62] := (h 7 (by decide)).2
theorem m_LS.r8 {s0 : State} {sa va : Nat → Nat} (h : m_LS s0 sa va) : vk_R RL 272 "@" (sa 8) s0 := (h 8 (by decide)).1
theorem m_LS.t8 {s0 : State} {sa va : Nat → Nat} (h : m_LS s0 sa va) : m_str s0 (sa 8) (va 8) [64] := (h 8 (by decide)).2
theorem m_LS.r9 {s0 : State} {sa va : Nat → Nat} (h : m_LS s0 sa va) : vk_R RL 274 "/" (sa 9) s0 := (h 9 (by decide)).1
theorem m_LS.t9 {s0 : State} {sa va : Nat → Nat} (h : m_LS s0 sa va) : m_str s0 (sa 9) (va 9) [47] := (h 9 (by decide)).2
/-- nothing below what there was has changed; a builder that lies above it -/
def kK (M0 M : m_M) : Prop := M0.1 ≤ M.1 ∧ ∀ p : Nat, p < M0.1 → M.2 p = M0.2 p
def kB (M0 : m_M) (a v : Nat) (M : m_M) : Prop := kK M0 M ∧ M0.1 ≤ a ∧ M0.1 ≤ v
theorem kK.rf {M : m_M} : kK M M := ⟨Nat.le_refl _, fun _ _ => rfl⟩
theorem kK.tr {M M1 M2 : m_M} (h : kK M M1) (h2 : kK M1 M2) : kK M M2 := ⟨Nat.le_trans h.1 h2.1, fun p hp => (h2.2 p (Nat.lt_of_lt_of_le hp h.1)).trans (h.2 p hp)⟩
theorem kB.sb {M0 M M2 : m_M} {a v v2 : Nat} (h : kB M0 a v M) (hF : sbF a v M v2 M2) : kB M0 a v2 M2 := by
  obtain ⟨⟨h1, h2⟩, h3, h4⟩ := h
  obtain ⟨f1, f2, f3, f4⟩ := hF
  exact ⟨⟨by omega, fun p hp => (f4 p (by omega) (by omega) (by omega)).trans (h2 p hp)⟩, h3, by omega⟩
theorem kB.kK {M0 M M2 : m_M} {a v : Nat} (h : kB M0 a v M) (h2 : kK M M2) : kB M0 a v M2 := ⟨h.1.tr h2, h.2⟩
theorem sbT.kK {z0 a v n : Nat} {tx : List Int} {M M2 : m_M} (h : sbT z0 a v n tx M) (h2 : kK M M2) : sbT z0 a v n tx M2 := h.kp (h2.2 a h.av.1) (h2.2 v h.av.2.1) h2.1
theorem sQ.kK {s0 : State} {q v : Nat} {z : List Int} {M M2 : m_M} (h : sQ s0 q v z M) (h0 : s0.heap.size ≤ M.1) (h2 : kK M M2) : sQ s0 q v z M2 := h.keep (h2.2 q (h.lt h0).1) (h2.2 v (h.lt h0).2) h2.1
theorem gIn.kK {z0 : Nat} {fo : Nat → Nat} {x w : Nat} {W : gW} {M M2 : m_M} (h : gIn z0 fo x w W M) (h2 : kK M M2) : gIn z0 fo x w W M2 := ghP.far h h2.1 (fun a ha _ _ => h2.2 a ha)
theorem gX.kK {z0 : Nat} {fo : Nat → Nat} {x w : Nat} {g sg : h_T} {L : Nat → h_T} {q : Int → Int} {tx : List Int} {v2 : Nat} {M M2 : m_M} (h : gX z0 fo x w g sg L q tx v2 M) (h2 : kK M M2) : gX z0 fo x w g sg L q tx v2 M2 := by
  obtain ⟨a1, a2, a3, ⟨f9, a4⟩, ⟨s9, a5, c5⟩, ⟨L9, a6, c6⟩, ⟨bf, a7⟩, ⟨v, n, cnt, fur, CM, b1, b3, b5⟩, b4⟩ := h
  have av := b1.2.1.av
  obtain ⟨k3, k4⟩ := h2
  exact ⟨by omega, (k4 _ (by omega)).trans a2, a3.keep (fun a _ _ => k4 a (by omega)), ⟨f9, a4.keep (fun a _ _ => k4 a (by omega))⟩, ⟨s9, a5.keep (fun a _ _ => k4 a (by omega)), c5⟩, ⟨L9, a6.keep (fun a _ _ => k4 a (by omega)), c6⟩, ⟨bf, (k4 _ (by omega)).trans a7⟩, ⟨v, n, cnt, fur, CM, b1.kp (fun a _ _ => k4 a (by omega)) (k4 v (by omega)) k3, b3, b5⟩, b4⟩
theorem gX.bst {z0 : Nat} {fo : Nat → Nat} {x w : Nat} {g sg : h_T} {L : Nat → h_T} {q : Int → Int} {tx : List Int} {v2 : Nat} {M M2 : m_M} {bf2 : Int → Int} (h : gX z0 fo x w g sg L q tx v2 M) (hb : M2.2 (x + 237) = some (m_ia 0 46 bf2)) (hf : m_fr (x + 237) 1 M M2) : gX z0 fo x w g sg L q tx v2 M2 := by
  obtain ⟨a1, a2, a3, ⟨f9, a4⟩, ⟨s9, a5, c5⟩, ⟨L9, a6, c6⟩, a7, ⟨v, n, cnt, fur, CM, b1, b3, b5⟩, b4⟩ := h
  have hz := hf.1
  have k4 : ∀ p : Nat, p ≠ x + 237 → M2.2 p = M.2 p := fun p hp => hf.2 p (by omega)
  exact ⟨by omega, (k4 _ (by omega)).trans a2, a3.keep (fun a _ _ => k4 a (by omega)), ⟨f9, a4.keep (fun a _ _ => k4 a (by omega))⟩, ⟨s9, a5.keep (fun a _ _ => k4 a (by omega)), c5⟩, ⟨L9, a6.keep (fun a _ _ => k4 a (by omega)), c6⟩, ⟨bf2, hb⟩, ⟨v, n, cnt, fur, CM, b1.kp (fun a _ _ => k4 a (by omega)) (k4 v (by omega)) (by omega), b3, b5⟩, b4⟩
section m_BLD
variable {D : va_G} {aC : Nat → ClassId} {s0 : State} {own : String} {cc : ByteArray} {nL : Nat} {p : Program} {l : Launch} {e : Env} {R : Room} {s : State} {m : MethodId} {args : Array Value} {below : List Frame} {meth : Method} {c : Code} {cells slots : Nat} {Q : State → Prop} {pc : Nat} {lv : List (Nat × Value)} {st : List Value} {M : m_M}
theorem m_ldcs (C : m_C D aC s0 own cc nL l p s m args meth c) {idx q : Nat} {tx : String} (hd : decode cc pc = .ok (.ldc idx, 2)) (hR : vk_R own idx tx q s0) (kk : m_W D aC s0 nL p l e R s m args below meth c cells slots Q (pc + 2) lv (.ref q :: st) M) : m_W D aC s0 nL p l e R s m args below meth c cells slots Q pc lv st M := fun H locs ls h1 h2 h3 => va_ldcS C.1 C.2.1 C.2.2.2.1 (vk_R.warm C.2.2.2.2.2.2.1.1 hR) hd (kk H locs ls h1 h2 h3)
theorem m_ldc_ws (C : m_C D aC s0 own cc nL l p s m args meth c) {idx q : Nat} {tx : String} (hd : decode cc pc = .ok (.ldc_w idx, 3)) (hR : vk_R own idx tx q s0) (kk : m_W D aC s0 nL p l e R s m args below meth c cells slots Q (pc + 3) lv (.ref q :: st) M) : m_W D aC s0 nL p l e R s m args below meth c cells slots Q pc lv st M := fun H locs ls h1 h2 h3 => by
  intro T hT X
  obtain ⟨t, a1, b1⟩ := kk H locs ls h1 h2 h3 T hT X
  have hZ := vk_R.warm C.2.2.2.2.2.2.1.1 hR
  exact ⟨t, X.ldcStringW C.1 C.2.2.2.1 (text := tx) (a := q) hZ.1 hZ.2 (g := F0 m pc ls st) rfl (by rw [C.2.1]; exact hd) t a1, b1⟩
theorem m_qVr (C : m_C D aC s0 own cc nL l p s m args meth c) {idx : Nat} {y : MethodName} {bytes : ByteArray} {nLc n d mc ms b : Nat} {ret : Option FieldType} {As rest st0 : List Value} {cn : String} {vv : Value} (hM : m_Met D aC s0 l y bytes nLc ret d mc ms (.ref b :: As) M (qM vv M) m_nx) (hd : decode cc pc = .ok (.invokevirtual idx, 3)) (hcd : m_cd y bytes nLc ret n) (hlk : m_lkV own idx y) (hq : cn = y.cls) (hrv : ∀ (H : Heap) (locs : List Loc), m_H D aC M H → va_S (m_A s0) s.heap H locs → ∃ cellB : Cell, H[b]? = some cellB ∧ cellB.vm.isStatics = false ∧ s.vm.findClass cn = some cellB.cls) (hn : As.length = n) (hst : st0 = As.reverse ++ .ref b :: rest) (hW : (rest.map fun v => v.category).sum ≤ 8)
    (hfr : d + 1 ≤ R.frames ∧ 8 + (nLc + 11) + 100 * (d + 1) ≤ R.locals) (hf : cells + mc ≤ R.cells ∧ slots + ms ≤ R.slots)
    (kk : m_W D aC s0 nL p l e R s m args below meth c cells slots Q (pc + 3) lv (vv :: rest) M) : m_W D aC s0 nL p l e R s m args below meth c cells slots Q pc lv st0 M := by
  intro H locs ls h1 h2 h3
  have hpS := m_preS C (As := .ref b :: As) h2 h3
  subst hq
  exact m_afterT (vx_runV (C := y.cls) (As := As) (b := b) (rest := rest) (m_fix C) (t_kept hM) ⟨m_callB C hcd hlk.1 hfr, C.2.2.2.2.1 _ hlk.2.1, C.2.2.2.2.1 _ hlk.2.2⟩ ⟨hpS.1, hrv H locs h2 h3, hpS.2⟩ rfl hn h1.1 hst (by show 2 * 0 + _ ≤ 8; omega) hd hf) h1 h2 h3 (fun v M' h => by rw [h.2]) (fun _ _ h => h) (fun v M' h => by rw [h.1, h.2]; exact kk)
end m_BLD
section m_BL2
variable {D : va_G} {aC : Nat → ClassId} {s0 : State} {cc : ByteArray} {nL : Nat} {p : Program} {l : Launch} {e : Env} {R : Room} {s : State} {m : MethodId} {args : Array Value} {below : List Frame} {meth : Method} {c : Code} {cells slots : Nat} {Q : State → Prop} {pc : Nat} {lv : List (Nat × Value)} {st : List Value} {M : m_M}
theorem m_newsb (C : m_C D aC s0 RL cc nL l p s m args meth c) {fo ks vs : Nat → Nat} {fA sA dO dT : Nat} (hJ : m_J s0 fo ks vs fA sA dO dT) (hz : s0.heap.size ≤ M.1) (d0 : decode cc pc = .ok (.new 209, 3)) (d3 : decode cc (pc + 3) = .ok (.dup, 1)) (d4 : decode cc (pc + 3 + 1) = .ok (.invokespecial 211, 3)) (hW : ((Value.ref M.1 :: st).map fun v => v.category).sum ≤ 8) (hfr : 2 + 1 ≤ R.frames ∧ 8 + (1 + 11) + 100 * (2 + 1) ≤ R.locals) (hc : cells + 2 ≤ R.cells ∧ slots + 20 ≤ R.slots)
    (kk : ∀ M2 : m_M, sbT s0.heap.size M.1 (M.1 + 1) 16 [] M2 → kB M M.1 (M.1 + 1) M2 → m_W D aC s0 nL p l e R s m args below meth c (cells + 2) (slots + 20) Q (pc + 3 + 1 + 3) lv (.ref M.1 :: st) M2) : m_W D aC s0 nL p l e R s m args below meth c cells slots Q pc lv st M := by
  have hF := C.2.2.2.2.2.2.2.1
  have hl := C.2.2.2.2.2.2.2.2
  refine n_new (a := M.1) (ci := 1) (fs := [.null, VI 0, VI 0, VI 0]) C d0 rfl tyJ4_ok inJ4 kk_L_209 kn_J4 ki_J4 (fun j hj => match j, hj with | 0, _ => rfl | 1, _ => rfl | 2, _ => rfl | 3, _ => rfl | _ + 4, h => absurd h (by omega)) (by omega) (by omega) rfl (fun M1 zM1 hM1 fM1 => ?_)
  refine m_dup C d3 rfl ?_
  refine m_callI C (t_J4_init_da8c8 hF hl hJ (b := M.1) zM1 hz hM1) d4 kc_J4_init_da8c8 kI_L_211 rfl rfl hW hfr ⟨by omega, by omega⟩ m_nox (fun v9 M2 h9 => ?_)
  obtain ⟨rfl, zM2, ⟨hS, hV⟩, fM2⟩ := h9
  exact kk M2 ⟨0, fun _ => 0, ⟨hS, hV⟩, fun i hi => absurd hi (Nat.not_lt_zero _), fun _ => ⟨Int.le_refl 0, (by decide : (0 : Int) < 128)⟩, ⟨by omega, by omega, by omega, hz, by omega⟩, by decide, by decide, by decide⟩ ⟨⟨by omega, fun q9 hq => (fM2 q9 hq).trans (fM1 q9 (by omega))⟩, Nat.le_refl _, by omega⟩
theorem m_apS (C : m_C D aC s0 RL cc nL l p s m args meth c) {fo ks vs : Nat → Nat} {fA sA dO dT : Nat} (hJ : m_J s0 fo ks vs fA sA dO dT) (hJS : m_JS s0) {a v n q vq : Nat} {tx z : List Int} (hT : sbT s0.heap.size a v n tx M) (hq : sQ s0 q vq z M) (hvq : vq ≠ v) (hlen : tx.length + z.length ≤ 240) (hd : decode cc pc = .ok (.invokevirtual 218, 3)) (hW : (st.map fun v => v.category).sum ≤ 8) (hfr : 5 + 1 ≤ R.frames ∧ 8 + (2 + 11) + 100 * (5 + 1) ≤ R.locals) (hc : cells + 1 ≤ R.cells ∧ slots + 482 ≤ R.slots)
    (kk : ∀ (v' n' : Nat) (M' : m_M), sbT s0.heap.size a v' n' (tx ++ z) M' → sbF a v M v' M' → m_W D aC s0 nL p l e R s m args below meth c (cells + 1) (slots + 482) Q (pc + 3) lv (.ref a :: st) M') : m_W D aC s0 nL p l e R s m args below meth c cells slots Q pc lv (.ref q :: .ref a :: st) M := by
  refine m_callVr C (t_J4_appendS C.2.2.2.2.2.2.2.1 C.2.2.2.2.2.2.2.2 hJ hT hJS hq hvq hlen) hd kc_J4_append_15ec4 kV_L_218 rfl (m_sbr C hT) rfl rfl hW hfr hc m_nox (fun v9 M' h9 => ?_)
  obtain ⟨rfl, v2, n2, hT2, hF⟩ := h9
  exact kk v2 n2 M' hT2 hF
theorem m_apI (C : m_C D aC s0 RL cc nL l p s m args meth c) {fo ks vs : Nat → Nat} {fA sA dO dT : Nat} (hJ : m_J s0 fo ks vs fA sA dO dT) {a v n : Nat} {z : Int} {tx : List Int} (hT : sbT s0.heap.size a v n tx M) (hz : 0 ≤ z ∧ z < 1000000000) (hlen : tx.length + (S_dig z.toNat).length ≤ 240) (hd : decode cc pc = .ok (.invokevirtual 212, 3)) (hW : (st.map fun v => v.category).sum ≤ 8) (hfr : 5 + 1 ≤ R.frames ∧ 8 + (2 + 11) + 100 * (5 + 1) ≤ R.locals) (hc : cells + 1 ≤ R.cells ∧ slots + 1000 ≤ R.slots)
    (kk : ∀ (v' n' : Nat) (M' : m_M), sbT s0.heap.size a v' n' (tx ++ S_dig z.toNat) M' → sbF a v M v' M' → m_W D aC s0 nL p l e R s m args below meth c (cells + 1) (slots + 1000) Q (pc + 3) lv (.ref a :: st) M') : m_W D aC s0 nL p l e R s m args below meth c cells slots Q pc lv (VI z :: .ref a :: st) M := by
  obtain ⟨k, rfl⟩ := Int.eq_ofNat_of_zero_le hz.1
  have hk : ((k : Int)).toNat = k := rfl
  rw [hk] at hlen kk
  have hn := hT.av.2.2.2
  have hcc : k_cc n ((tx.length : Int) + ((S_dig k).length : Int)) ≤ 1 := by unfold k_cc; split <;> omega
  have hcs : k_cs n ((tx.length : Int) + ((S_dig k).length : Int)) ≤ 1000 := by unfold k_cs; split <;> omega
  refine m_callVr C (t_J4_append_bf812 C.2.2.2.2.2.2.2.1 C.2.2.2.2.2.2.2.2 hJ hT (by omega) hlen) hd kc_J4_append_bf812 kV_L_212 rfl (m_sbr C hT) rfl rfl hW hfr ⟨by omega, by omega⟩ m_nox (fun v9 M' h9 => ?_)
  obtain ⟨rfl, v2, hT2, hF⟩ := h9
  exact m_wd (by omega) (by omega) (kk v2 _ M' hT2 hF)
theorem m_tos (C : m_C D aC s0 RL cc nL l p s m args meth c) {fo ks vs : Nat → Nat} {fA sA dO dT : Nat} (hJ : m_J s0 fo ks vs fA sA dO dT) (hJS : m_JS s0) {a v n : Nat} {tx : List Int} (hT : sbT s0.heap.size a v n tx M) (hlen : tx.length ≤ 240) (hd : decode cc pc = .ok (.invokevirtual 227, 3)) (hW : (st.map fun v => v.category).sum ≤ 8) (hfr : 5 + 1 ≤ R.frames ∧ 8 + (1 + 11) + 100 * (5 + 1) ≤ R.locals) (hc : cells + 2 ≤ R.cells ∧ slots + 486 ≤ R.slots)
    (kk : ∀ M' : m_M, sN M.1 (M.1 + 1) tx M' → kK M M' → m_W D aC s0 nL p l e R s m args below meth c (cells + 2) (slots + 486) Q (pc + 3) lv (.ref M.1 :: st) M') : m_W D aC s0 nL p l e R s m args below meth c cells slots Q pc lv (.ref a :: st) M := by
  refine m_callVr C (t_J4_toString C.2.2.2.2.2.2.2.1 C.2.2.2.2.2.2.2.2 hJ hJS hT hlen) hd kc_J4_toString_0e30d kV_L_227 rfl (m_sbr C hT) rfl rfl hW hfr hc m_nox (fun v9 M' h9 => ?_)
  obtain ⟨rfl, hs, hz, hf⟩ := h9
  exact kk M' hs ⟨by omega, hf⟩
end m_BL2

set_option maxHeartbeats 4000000 in
set_option maxRecDepth 100000 in
theorem t_L_isLine {D : va_G} {aC : Nat → ClassId} {s0 : State} {l : Launch} (hF : m_F D aC s0) (hl : l.stackTraces = false) {fo ks vs : Nat → Nat} {fA sA dO dT : Nat} (hJ : m_J s0 fo ks vs fA sA dO dT) (hX : m_TH s0) {x w v0 n0 : Nat} {g sg : h_T} {L : Nat → h_T} {qq : Int → Int} {tx z : List Int} {M : m_M} (X0 : gX s0.heap.size fo x w g sg L qq tx v0 M) (T0 : sbT s0.heap.size (x + 235) v0 n0 z M) {q vq : Nat} (hq : sQ s0 q vq z M) {K : Int} (hB9 : h_BK K g) (hK9 : K ≤ 80000000) (hc9 : 0 ≤ qq 0 ∧ qq 0 ≤ 8) : m_Met D aC s0 l yL_isLine cL_isLine 5 (some .boolean) 13 (470) (940) [.ref x, VI (z.length : Int), .ref q] M (qM (VI 1) M) m_nx := by
  refine m_entry (lv := [(0, .ref x), (1, VI (z.length : Int)), (2, .ref q)]) (by decide +kernel) (Nat.le_of_ble_eq_true rfl) rfl hF hl ?_
  intro p e s m args below meth c hC hr hno hnm
  change m_C D aC s0 RL _ _ _ _ _ _ _ _ _ at hC
  have hlq := hq.rg.2
  refine m_iload_n hC 1 dL_isLine_0 rfl rfl ?_
  refine m_aload_n hC 2 dL_isLine_1 rfl rfl ?_
  refine m_qVr hC (t_J0_length_s hF hl hJ hq) dL_isLine_2 kc_J0_length_8abf5 kV_L_254 rfl (m_srv hC hq) rfl rfl (Nat.le_of_ble_eq_true rfl) ⟨Nat.le_of_ble_eq_true rfl, Nat.le_of_ble_eq_true rfl⟩ ⟨Nat.le_of_ble_eq_true rfl, Nat.le_of_ble_eq_true rfl⟩ ?_
  refine m_icmp_ne (tgt := 12) hC dL_isLine_5 (by decide) (by first | omega | (simp [hs_at] <;> omega)) (fun c1 => by omega) (fun c1 => ?_)
  refine m_iconst hC dL_isLine_8 ?_
  refine m_goto (tgt := 13) hC dL_isLine_9 (by decide) ?_
  refine m_istore_n hC dL_isLine_13 rfl (by decide) rfl ?_
  refine m_iconst hC dL_isLine_14 ?_
  refine m_istore hC dL_isLine_15 (by decide) rfl ?_
  have LL : ∀ (n : Nat) (i : Int), (z.length : Int) - i < (n : Int) → 0 ≤ i → i ≤ (z.length : Int) → m_W D aC s0 5 p l e (m_R 13 (470) (940)) s m args below meth c (0) (0) (m_Q D aC s0 below (qM (VI 1) M) m_nx args s (470) (940)) 17 [(4, VI i), (3, VI 1), (2, .ref q), (1, VI (z.length : Int)), (0, .ref x)] [] M := by
    intro n
    induction n with
    | zero =>
      intro i hn h0 h1
      omega
    | succ n ih =>
      intro i hn h0 h1
      have hcr := hq.rg.1 i.toNat
      refine m_iload hC 0 dL_isLine_17 rfl ?_
      refine m_aload_n hC 2 dL_isLine_19 rfl rfl ?_
      refine m_qVr hC (t_J0_length_s hF hl hJ hq) dL_isLine_20 kc_J0_length_8abf5 kV_L_254 rfl (m_srv hC hq) rfl rfl (Nat.le_of_ble_eq_true rfl) ⟨Nat.le_of_ble_eq_true rfl, Nat.le_of_ble_eq_true rfl⟩ ⟨Nat.le_of_ble_eq_true rfl, Nat.le_of_ble_eq_true rfl⟩ ?_
      refine m_icmp_ge (tgt := 57) hC dL_isLine_23 (by decide) (by first | omega | (simp [hs_at] <;> omega)) (fun c2 => ?_) (fun c2 => ?_)
      · refine m_iload_n hC 1 dL_isLine_57 rfl rfl ?_
        exact m_zret hC dL_isLine_58 hr (by rfl) (Nat.le_of_ble_eq_true rfl) (Nat.le_of_ble_eq_true rfl) (⟨rfl, rfl⟩)
      · refine m_iload_n hC 1 dL_isLine_26 rfl rfl ?_
        refine m_if_eq (tgt := 57) hC dL_isLine_27 (by decide) (by omega) (fun c3 => by omega) (fun c3 => ?_)
        refine m_aload_n hC 4 dL_isLine_30 rfl rfl ?_
        refine m_iload hC 0 dL_isLine_31 rfl ?_
        refine m_qV hC (t_X9_outputAt_y hF hl hJ hX X0 T0 hB9 hK9 hc9 (y := i) (by omega)) dL_isLine_33 kc_X9_outputAt kV_L_259 X0.2.1 rfl rfl rfl rfl (Nat.le_of_ble_eq_true rfl) ⟨Nat.le_of_ble_eq_true rfl, Nat.le_of_ble_eq_true rfl⟩ ⟨Nat.le_of_ble_eq_true rfl, Nat.le_of_ble_eq_true rfl⟩ ?_
        refine m_aload_n hC 2 dL_isLine_36 rfl rfl ?_
        refine m_iload hC 0 dL_isLine_37 rfl ?_
        refine m_qVr hC (t_J0_charAt_s hF hl hJ hq (i := i) (by omega)) dL_isLine_39 kc_J0_charAt_5068e kV_L_263 rfl (m_srv hC hq) rfl rfl (Nat.le_of_ble_eq_true rfl) ⟨Nat.le_of_ble_eq_true rfl, Nat.le_of_ble_eq_true rfl⟩ ⟨Nat.le_of_ble_eq_true rfl, Nat.le_of_ble_eq_true rfl⟩ ?_
        refine m_icmp_ne (tgt := 49) hC dL_isLine_42 (by decide) (by first | omega | (simp [hs_at] <;> omega)) (fun c4 => by omega) (fun c4 => ?_)
        refine m_iconst hC dL_isLine_45 ?_
        refine m_goto (tgt := 50) hC dL_isLine_46 (by decide) ?_
        refine m_istore_n hC dL_isLine_50 rfl (by decide) rfl ?_
        refine m_iinc hC 1 dL_isLine_51 rfl (by decide) rfl ?_
        refine m_goto (tgt := 17) hC dL_isLine_54 (by decide) ?_
        refine m_lvs [0, 1, 2, 3, 4] rfl (ih (i + 1) (by omega) (by omega) (by omega))
  refine m_lvs [0, 1, 4, 3, 2] rfl (LL (z.length + 1) 0 (by omega) (by omega) (by omega))

set_option maxHeartbeats 4000000 in
set_option maxRecDepth 100000 in
theorem t_X9_bestWagesByTable_s {D : va_G} {aC : Nat → ClassId} {s0 : State} {l : Launch} (hF : m_F D aC s0) (hl : l.stackTraces = false) {x w : Nat} {g sg : h_T} {L : Nat → h_T} {q : Int → Int} {tx ot : List Int} {M : m_M} {K : Int} {fo : Nat → Nat} (hX : m_TH s0) (hG : ghP s0.heap.size fo x w g sg L q tx ot M) (hB : h_BK K g) (hK : K ≤ 80000000) (hc : 0 ≤ q 0 ∧ q 0 ≤ 8) {y : Int} (hy : -2147483648 ≤ y ∧ y < 2147483648) (hyg : 0 ≤ y ∧ y < g 0 9) : m_Met D aC s0 l yX9_bestWagesByTable cX9_bestWagesByTable 2 (some .int) 8 (0) (0) [.ref x, VI y] M (fun v M' => v = some (VI (h_ks g y (g 0 11).toNat (S_energy g y))) ∧ (∃ bf2 : Int → Int, M'.2 (x + 237) = some (m_ia 0 46 bf2)) ∧ m_fr (x + 237) 1 M M') m_nx := by
  refine m_entry (lv := [(0, .ref x), (1, VI y)]) (by decide +kernel) (Nat.le_of_ble_eq_true rfl) rfl hF hl ?_
  intro p e s m args below meth c hC hr hno hnm
  change m_C D aC s0 RX9 _ _ _ _ _ _ _ _ _ at hC
  have hG9 := hG
  obtain ⟨a1, hO, hR, ⟨f9, hFo⟩, a5, ⟨L9, hH, hL⟩, a7, a8⟩ := hG9
  have hx := a1.2.2
  have h8 := hB.n8.2
  have h9 := hB.n9.2
  have h11 := hB.n11.2
  have hB0 := hB.toB (by omega)
  obtain ⟨p9, hQ⟩ := id hH
  obtain ⟨bf, hBf⟩ := a7
  refine m_aload_n hC 0 dX9_bestWagesByTable_0 rfl rfl ?_
  refine m_iload_n hC 1 dX9_bestWagesByTable_1 rfl rfl ?_
  refine m_callV hC (t_X9_checkGoblin_y hF hl hX hO hR hB0 hy hyg) dX9_bestWagesByTable_2 kc_X9_checkGoblin kV_X9_177 hO rfl rfl rfl rfl (Nat.le_of_ble_eq_true rfl) (by decide) (by decide) m_nox (fun v9 M1 h9 => ?_)
  obtain ⟨rfl, h9⟩ := h9
  replace h9 := h9.symm
  subst h9
  refine m_aload_n hC 0 dX9_bestWagesByTable_5 rfl rfl ?_
  refine m_getf hC dX9_bestWagesByTable_6 kf_X9_12 hO rfl ?_
  refine m_getf hC dX9_bestWagesByTable_9 kf_X9_201 hR.ob rfl ?_
  refine m_iload_n hC 1 dX9_bestWagesByTable_12 rfl rfl ?_
  refine m_aload_n hC 0 dX9_bestWagesByTable_13 rfl rfl ?_
  refine m_getf hC dX9_bestWagesByTable_14 kf_X9_12 hO rfl ?_
  refine m_iload_n hC 1 dX9_bestWagesByTable_17 rfl rfl ?_
  refine m_callV hC (t_X7_energyOf hF hl hR hB0 hyg) dX9_bestWagesByTable_18 kc_X7_energyOf kV_X9_195 hR.ob rfl rfl rfl rfl (Nat.le_of_ble_eq_true rfl) (by decide) (by decide) m_nox (fun v9 M2 h9 => ?_)
  obtain ⟨rfl, h9⟩ := h9
  replace h9 := h9.symm
  subst h9
  refine m_aload_n hC 0 dX9_bestWagesByTable_21 rfl rfl ?_
  refine m_getf hC dX9_bestWagesByTable_22 kf_X9_43 hO rfl ?_
  refine m_callV hC (t_X3_bestOfTable hF hl hR hB0 hBf (by omega) (by omega) hy (S_energy_bd hB0 hyg)) dX9_bestWagesByTable_25 kc_X3_bestOfTable kV_X9_210 hR.co rfl rfl rfl rfl (Nat.le_of_ble_eq_true rfl) (by decide) (by decide) m_nox (fun v9 M1 h9 => ?_)
  obtain ⟨rfl, hb1, f1⟩ := h9
  have hG1 := hG.u_bst hb1 f1 (by omega)
  have hfr1 := gFr.of (x := x) (w := w) f1 (by omega)
  exact m_iret hC dX9_bestWagesByTable_28 hr (by decide) (by decide) (⟨rfl, hb1, f1⟩)

