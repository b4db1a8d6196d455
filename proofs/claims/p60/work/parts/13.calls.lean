def m_Q (D : va_G) (aC : Nat → ClassId) (s0 : State) (below : List Frame) (post : Option Value → m_M → Prop) (px : String → m_M → Prop) (args : Array Value) (s : State) (mc ms : Nat) : State → Prop := vx_MQ below (m_Qc D aC s0 post) (m_XC D aC s0 px) args s mc ms (m_A s0)
/-- a method: its code among the words -/
theorem m_blind {D : va_G} {aC : Nat → ClassId} {s0 : State} {As : List Value} {M : m_M} : FrameBlind (m_Pc D aC s0 As M) := fun a U g mk q => ⟨q.1, ⟨q.2.1.1, q.2.1.2⟩, q.2.2⟩
theorem m_Zto {s0 s U : State} {H : Heap} {locs : List Loc} (hZ : m_Z s0 s s.heap) (hS : va_S (m_A s0) s.heap H locs) (hU : U.heap = H) (hW : s.WarmedH U.vm) : m_Z s0 U U.heap := by
  refine ⟨State.WarmedH.trans hZ.1 hW, by rw [hU]; exact Nat.le_trans hZ.2.1 hS.1, fun q hq => ?_⟩
  rw [hU, hS.2.1 q (Nat.lt_of_lt_of_le hq hZ.2.1) (Nat.not_le.mpr hq)]
  exact hZ.2.2 q hq
section m_CALLS
variable {D : va_G} {aC : Nat → ClassId} {s0 : State} {own : String} {cc : ByteArray} {nL : Nat} {p : Program} {l : Launch} {e : Env} {R : Room} {s : State} {m : MethodId} {args : Array Value} {below : List Frame} {meth : Method} {c : Code} {cells slots : Nat} {Q : State → Prop} {pc : Nat} {lv : List (Nat × Value)} {st : List Value} {M : m_M}
theorem m_entry {y : MethodName} {ret : Option FieldType} {d mc ms : Nat} {As : List Value} {post : Option Value → m_M → Prop} {px : String → m_M → Prop} (hy : plainName y.cls = true) (hlen : (lg_sl As).length ≤ nL) (hlv : lv_args 0 As = lv) (hF : m_F D aC s0) (hl : l.stackTraces = false)
    (body : ∀ (p : Program) (e : Env) (s : State) (m : MethodId) (args : Array Value) (below : List Frame) (meth : Method) (c : Code), m_C D aC s0 y.cls cc nL l p s m args meth c → meth.sig.returnType = ret → (∀ x ∈ c.exceptionTable.toList, False) → meth.name = y.name →
      m_W D aC s0 nL p l e (m_R d mc ms) s m args below meth c 0 0 (m_Q D aC s0 below post px args s mc ms) 0 lv [] M) : m_Met D aC s0 l y cc nL ret d mc ms As M post px := by
  refine vx_ofW (cc := cc) (maxL := nL) (ret := ret) hy rfl ?_
  intro p e s m args below meth c s₁ B hml htab hv
  obtain ⟨rfl, hZ, hH⟩ := hv
  have hts0 := atoms_spec (ws := m_ws y cc nL ret) B.pre
  have hts : ∀ w ∈ lwg, w.before As.toArray s = true := fun w hw => hts0 w (List.mem_cons_of_mem _ hw)
  have hown : s.vm.findClass y.cls = some m.cls := findClass_of_methodNamed B.named
  have hlo := lv_entry As (n := nL) hlen
  rw [hlv] at hlo
  rw [lg_entry_eq]
  exact body p e s m As.toArray below meth c ⟨B.exec, B.bytes, hml, hown, hts, B.notSynchronized, hZ, hF, hl⟩ B.returns htab (name_of_methodNamed B.named B.method).1 s.heap [] _ hlo hH va_S.rf
theorem m_ret0 {post : Option Value → m_M → Prop} {px : String → m_M → Prop} {mc ms : Nat} {v : Option Value} {H : Heap} {locs : List Loc} (hH : m_H D aC M H) (hS : va_S (m_A s0) s.heap H locs) (hp : post v M) {t : State} (ht : t.heap = H) : m_Qc D aC s0 post args s (.returned v) t :=
  ⟨⟨v, M, rfl, hp, by rw [ht]; exact hH⟩, hS.F ht⟩
theorem m_iret (C : m_C D aC s0 own cc nL l p s m args meth c) {post : Option Value → m_M → Prop} {px : String → m_M → Prop} {mc ms : Nat} {z : Int} (hd : decode cc pc = .ok (.ireturn, 1)) (hr : meth.sig.returnType = some .int) (hc : cells ≤ mc) (hs : slots ≤ ms) (hp : post (some (VI z)) M) : m_W D aC s0 nL p l e R s m args below meth c cells slots (m_Q D aC s0 below post px args s mc ms) pc lv [VI z] M := fun H locs ls h1 h2 h3 =>
  W.widen hc hs (vx_ret (W.iret C.1 C.2.1 hr (fun t ht hW => m_ret0 (px := px) (mc := mc) (ms := ms) h2 h3 hp ht) h3.2.2 hd C.2.2.2.2.2.1))
theorem m_zret (C : m_C D aC s0 own cc nL l p s m args meth c) {post : Option Value → m_M → Prop} {px : String → m_M → Prop} {mc ms : Nat} {z : Int} {ty : FieldType} (hd : decode cc pc = .ok (.ireturn, 1)) (hr : meth.sig.returnType = some ty) (hn : narrow ty (VI z) = VI z) (hc : cells ≤ mc) (hs : slots ≤ ms) (hp : post (some (VI z)) M) : m_W D aC s0 nL p l e R s m args below meth c cells slots (m_Q D aC s0 below post px args s mc ms) pc lv [VI z] M := fun H locs ls h1 h2 h3 =>
  W.widen hc hs (vx_ret (W.zret C.1 C.2.1 hr hn (fun t ht hW => m_ret0 (px := px) (mc := mc) (ms := ms) h2 h3 hp ht) h3.2.2 hd C.2.2.2.2.2.1))
theorem m_vret (C : m_C D aC s0 own cc nL l p s m args meth c) {post : Option Value → m_M → Prop} {px : String → m_M → Prop} {mc ms : Nat} (hd : decode cc pc = .ok (.return_, 1)) (hr : meth.sig.returnType = none) (hc : cells ≤ mc) (hs : slots ≤ ms) (hp : post none M) : m_W D aC s0 nL p l e R s m args below meth c cells slots (m_Q D aC s0 below post px args s mc ms) pc lv [] M := fun H locs ls h1 h2 h3 =>
  W.widen hc hs (vx_ret (W.vret C.1 C.2.1 hr (fun t ht hW => m_ret0 (px := px) (mc := mc) (ms := ms) h2 h3 hp ht) h3.2.2 hd C.2.2.2.2.2.1))
theorem m_aret (C : m_C D aC s0 own cc nL l p s m args meth c) {post : Option Value → m_M → Prop} {px : String → m_M → Prop} {mc ms a : Nat} {ty : FieldType} (hd : decode cc pc = .ok (.areturn, 1)) (hr : meth.sig.returnType = some ty) (hrt : (∃ n, ty = .object n) ∨ ∃ t, ty = .array t) (hc : cells ≤ mc) (hs : slots ≤ ms) (hp : post (some (.ref a)) M) : m_W D aC s0 nL p l e R s m args below meth c cells slots (m_Q D aC s0 below post px args s mc ms) pc lv [.ref a] M := fun H locs ls h1 h2 h3 =>
  W.widen hc hs (vx_ret (W.aret C.1 C.2.1 hr hrt (Or.inr ⟨a, rfl⟩) (fun t ht hW => m_ret0 (px := px) (mc := mc) (ms := ms) h2 h3 hp ht) h3.2.2 hd C.2.2.2.2.2.1))
/-- behind a call -/
theorem m_after {post : Option Value → m_M → Prop} {px : String → m_M → Prop} {mc ms : Nat} {a : Array Value} {H : Heap} {locs : List Loc} {ls : Array Slot} {rest st0 : List Value} (hr : vx_Run p l e R s m args below meth c H locs cells slots mc ms (F0 m pc ls st0) rest (m_Qc D aC s0 post a) (m_XC D aC s0 px) (m_A s0)) (h1 : lv_has ls nL lv) (hS : va_S (m_A s0) s.heap H locs)
    (kx : ∀ (E : String) (M' : m_M) (ce : Cell) (q9 : Addr) (H1 : Heap) (locs1 : List Loc), px E M' → m_H D aC M' H1 → va_S (m_A s0) s.heap H1 locs1 → H1[q9]? = some ce → ce.vm = .none → s.vm.findClass E = some ce.cls → vx_W p l e R s m args below meth c H1 locs1 (cells + mc) (slots + ms) Q (F0 m pc ls rest) q9)
    (kk : ∀ (v : Option Value) (M' : m_M), post v M' → m_W D aC s0 nL p l e R s m args below meth c (cells + mc) (slots + ms) Q (pc + 3) lv (v.toList ++ rest) M') : W p l e R s m args below meth c H locs cells slots Q (F0 m pc ls st0) := by
  intro T hT X
  rcases hr T hT X with ⟨v, st₀, t, T', L, h0, X', hL, e1, e2, ⟨⟨v', M', hv, hp, hb⟩, hF⟩, st⟩ | ⟨q, st₀, t, T', L, E, ce, h0, X', hL, e1, e2, ⟨⟨M', hp, hb⟩, hF⟩, hce, hcv, hcl, st⟩
  · cases hv
    obtain ⟨k1, k2, k3⟩ := vx_keep h0 e1 hS (fun _ _ h => h) (fun _ h => h) hL hF
    obtain ⟨t2, a1, b1⟩ := kk _ _ hp T'.heap (locs ++ L) ls h1 (by rw [e1]; exact hb) k3 T' rfl X'
    exact ⟨t2, st t2 a1, b1⟩
  · obtain ⟨k1, k2, k3⟩ := vx_keep h0 e1 hS (fun _ _ h => h) (fun _ h => h) hL hF
    obtain ⟨t2, a1, b1⟩ := kx E M' ce q T'.heap (locs ++ L) hp (by rw [e1]; exact hb) k3 (by rw [e1]; exact hce) hcv hcl T' rfl X'
    exact ⟨t2, st.trans a1, b1⟩
theorem m_good (y : MethodName) {bytes : ByteArray} {nLc : Nat} {ret : Option FieldType} (h : Cond.code y bytes nLc ret ∈ lwg) : GoodIn lwg (m_ws y bytes nLc ret) := fun w hw => by
  rcases List.mem_cons.mp hw with rfl | hw
  · exact ⟨h, lwg_good h⟩
  · exact ⟨hw, lwg_good hw⟩
theorem m_callB (C : m_C D aC s0 own cc nL l p s m args meth c) {idx : Nat} {y : MethodName} {bytes : ByteArray} {nLc n d mc ms : Nat} {ret : Option FieldType} (hcd : m_cd y bytes nLc ret n) (hln : Cond.methodLink own idx y ∈ lwg) (hfr : d + 1 ≤ R.frames ∧ 8 + (nLc + 11) + 100 * (d + 1) ≤ R.locals) : CallB R s args own idx y bytes nLc ret (m_ws y bytes nLc ret) (m_R d mc ms) mc ms n :=
  callB_of n C.2.2.2.2.1 (m_good y hcd.1) rfl rfl rfl (C.2.2.2.2.1 _ hcd.2.1) (C.2.2.2.2.1 _ hln) hcd.2.2 hfr
theorem m_fix (C : m_C D aC s0 own cc nL l p s m args meth c) : CallFix p m c cc nL s args lwg own := ⟨C.1, C.2.1, C.2.2.1, C.2.2.2.1, C.2.2.2.2.1⟩
theorem m_preS (C : m_C D aC s0 own cc nL l p s m args meth c) {H : Heap} {locs : List Loc} {As : List Value} (hH : m_H D aC M H) (hS : va_S (m_A s0) s.heap H locs) : PreS s H (m_Pc D aC s0 As M) As :=
  ⟨m_blind, fun U hU hW => ⟨rfl, m_Zto C.2.2.2.2.2.2.1 hS hU hW, by rw [hU]; exact hH⟩⟩
theorem m_recv (C : m_C D aC s0 own cc nL l p s m args meth c) {H : Heap} {locs : List Loc} {b ci : Nat} {fs : List Value} {q : vw_C} (hH : m_H D aC M H) (hS : va_S (m_A s0) s.heap H locs) (hb : M.2 b = some (m_ob ci fs)) (hc : vwCl[ci]? = some q) : ∃ cellB : Cell, H[b]? = some cellB ∧ cellB.vm.isStatics = false ∧ s.vm.findClass q.1 = some cellB.cls := by
  have hK := m_Ks C.2.2.2.2.2.2.2.1 C.2.2.2.2.2.2.1
  obtain ⟨r', hr', cell, g1, g2, g3, -⟩ := hH.2 b _ hb
  exact ⟨cell, g1, by rw [g3]; rfl, by rw [g2]; exact (hK.1 ci q hc).2.1⟩
theorem m_callV (C : m_C D aC s0 own cc nL l p s m args meth c) {idx : Nat} {y : MethodName} {bytes : ByteArray} {nLc n d mc ms b ci : Nat} {ret : Option FieldType} {As rest st0 fs : List Value} {q : vw_C} {post : Option Value → m_M → Prop} {px : String → m_M → Prop} (hM : m_Met D aC s0 l y bytes nLc ret d mc ms (.ref b :: As) M post px) (hd : decode cc pc = .ok (.invokevirtual idx, 3)) (hcd : m_cd y bytes nLc ret n) (hlk : m_lkV own idx y) (hb : M.2 b = some (m_ob ci fs)) (hc : vwCl[ci]? = some q) (hq : q.1 = y.cls) (hn : As.length = n) (hst : st0 = As.reverse ++ .ref b :: rest) (hW : (rest.map fun v => v.category).sum ≤ 8)
    (hfr : d + 1 ≤ R.frames ∧ 8 + (nLc + 11) + 100 * (d + 1) ≤ R.locals) (hf : cells + mc ≤ R.cells ∧ slots + ms ≤ R.slots)
    (kx : ∀ (E : String) (M' : m_M) (ce : Cell) (q9 : Addr) (H1 : Heap) (locs1 : List Loc) (ls : Array Slot), lv_has ls nL lv → px E M' → m_H D aC M' H1 → va_S (m_A s0) s.heap H1 locs1 → H1[q9]? = some ce → ce.vm = .none → s.vm.findClass E = some ce.cls → vx_W p l e R s m args below meth c H1 locs1 (cells + mc) (slots + ms) Q (F0 m pc ls rest) q9)
    (kk : ∀ (v : Option Value) (M' : m_M), post v M' → m_W D aC s0 nL p l e R s m args below meth c (cells + mc) (slots + ms) Q (pc + 3) lv (v.toList ++ rest) M') : m_W D aC s0 nL p l e R s m args below meth c cells slots Q pc lv st0 M := by
  intro H locs ls h1 h2 h3
  have hrv := m_recv C h2 h3 hb hc
  rw [hq] at hrv
  have hpS := m_preS C (As := .ref b :: As) h2 h3
  exact m_after (vx_runV (C := y.cls) (As := As) (b := b) (rest := rest) (m_fix C) hM ⟨m_callB C hcd hlk.1 hfr, C.2.2.2.2.1 _ hlk.2.1, C.2.2.2.2.1 _ hlk.2.2⟩ ⟨hpS.1, hrv, hpS.2⟩ rfl hn h1.1 hst (by show 2 * 0 + _ ≤ 8; omega) hd hf) h1 h3 (fun E M' ce q9 H1 locs1 a1 a2 a3 a4 a5 a6 => kx E M' ce q9 H1 locs1 ls h1 a1 a2 a3 a4 a5 a6) kk
theorem m_callS (C : m_C D aC s0 own cc nL l p s m args meth c) {idx : Nat} {y : MethodName} {bytes : ByteArray} {nLc n d mc ms : Nat} {ret : Option FieldType} {As rest st0 : List Value} {post : Option Value → m_M → Prop} {px : String → m_M → Prop} (hM : m_Met D aC s0 l y bytes nLc ret d mc ms As M post px) (hd : decode cc pc = .ok (.invokestatic idx, 3)) (hcd : m_cd y bytes nLc ret n) (hlk : m_lkS own idx y) (hn : As.length = n) (hst : st0 = As.reverse ++ rest) (hW : (rest.map fun v => v.category).sum ≤ 8)
    (hfr : d + 1 ≤ R.frames ∧ 8 + (nLc + 11) + 100 * (d + 1) ≤ R.locals) (hf : cells + mc ≤ R.cells ∧ slots + ms ≤ R.slots)
    (kx : ∀ (E : String) (M' : m_M) (ce : Cell) (q9 : Addr) (H1 : Heap) (locs1 : List Loc) (ls : Array Slot), lv_has ls nL lv → px E M' → m_H D aC M' H1 → va_S (m_A s0) s.heap H1 locs1 → H1[q9]? = some ce → ce.vm = .none → s.vm.findClass E = some ce.cls → vx_W p l e R s m args below meth c H1 locs1 (cells + mc) (slots + ms) Q (F0 m pc ls rest) q9)
    (kk : ∀ (v : Option Value) (M' : m_M), post v M' → m_W D aC s0 nL p l e R s m args below meth c (cells + mc) (slots + ms) Q (pc + 3) lv (v.toList ++ rest) M') : m_W D aC s0 nL p l e R s m args below meth c cells slots Q pc lv st0 M := by
  intro H locs ls h1 h2 h3
  exact m_after (vx_runS (As := As) (rest := rest) (m_fix C) hM ⟨m_callB C hcd hlk.1 hfr, C.2.2.2.2.1 _ hlk.2⟩ (m_preS C h2 h3) rfl hn h1.1 hst (by show 2 * 0 + _ ≤ 8; omega) hd hf) h1 h3 (fun E M' ce q9 H1 locs1 a1 a2 a3 a4 a5 a6 => kx E M' ce q9 H1 locs1 ls h1 a1 a2 a3 a4 a5 a6) kk
theorem m_callI (C : m_C D aC s0 own cc nL l p s m args meth c) {idx : Nat} {y : MethodName} {bytes : ByteArray} {nLc n d mc ms b : Nat} {As rest st0 : List Value} {post : Option Value → m_M → Prop} {px : String → m_M → Prop} (hM : m_Met D aC s0 l y bytes nLc none d mc ms (.ref b :: As) M post px) (hd : decode cc pc = .ok (.invokespecial idx, 3)) (hcd : m_cd y bytes nLc none n) (hlk : m_lkI own idx y) (hn : As.length = n) (hst : st0 = As.reverse ++ .ref b :: rest) (hW : (rest.map fun v => v.category).sum ≤ 8)
    (hfr : d + 1 ≤ R.frames ∧ 8 + (nLc + 11) + 100 * (d + 1) ≤ R.locals) (hf : cells + mc ≤ R.cells ∧ slots + ms ≤ R.slots)
    (kx : ∀ (E : String) (M' : m_M) (ce : Cell) (q9 : Addr) (H1 : Heap) (locs1 : List Loc) (ls : Array Slot), lv_has ls nL lv → px E M' → m_H D aC M' H1 → va_S (m_A s0) s.heap H1 locs1 → H1[q9]? = some ce → ce.vm = .none → s.vm.findClass E = some ce.cls → vx_W p l e R s m args below meth c H1 locs1 (cells + mc) (slots + ms) Q (F0 m pc ls rest) q9)
    (kk : ∀ (v : Option Value) (M' : m_M), post v M' → m_W D aC s0 nL p l e R s m args below meth c (cells + mc) (slots + ms) Q (pc + 3) lv (v.toList ++ rest) M') : m_W D aC s0 nL p l e R s m args below meth c cells slots Q pc lv st0 M := by
  intro H locs ls h1 h2 h3
  exact m_after (vx_runI (As := As) (b := b) (rest := rest) (m_fix C) hM ⟨m_callB C hcd hlk.1 hfr, hlk.2.2, C.2.2.2.2.1 _ hlk.2.1⟩ (m_preS C h2 h3) rfl hn h1.1 hst (by show 2 * 0 + _ ≤ 8; omega) hd hf) h1 h3 (fun E M' ce q9 H1 locs1 a1 a2 a3 a4 a5 a6 => kx E M' ce q9 H1 locs1 ls h1 a1 a2 a3 a4 a5 a6) kk
theorem m_callN (C : m_C D aC s0 own cc nL l p s m args meth c) {idx : Nat} {y : MethodName} {host : String} {bytes : ByteArray} {nLc n d mc ms b : Nat} {As rest st0 : List Value} {post : Option Value → m_M → Prop} {px : String → m_M → Prop} (hM : m_Met D aC s0 l y bytes nLc none d mc ms (.ref b :: As) M post px) (hd : decode cc pc = .ok (.invokespecial idx, 3)) (hcd : m_cd y bytes nLc none n) (hnw : va_Nw (.methodLinkNest own idx y host) s0) (hlk : m_lkN y) (hn : As.length = n) (hst : st0 = As.reverse ++ .ref b :: rest) (hW : (rest.map fun v => v.category).sum ≤ 8)
    (hfr : d + 1 ≤ R.frames ∧ 8 + (nLc + 11) + 100 * (d + 1) ≤ R.locals) (hf : cells + mc ≤ R.cells ∧ slots + ms ≤ R.slots)
    (kx : ∀ (E : String) (M' : m_M) (ce : Cell) (q9 : Addr) (H1 : Heap) (locs1 : List Loc) (ls : Array Slot), lv_has ls nL lv → px E M' → m_H D aC M' H1 → va_S (m_A s0) s.heap H1 locs1 → H1[q9]? = some ce → ce.vm = .none → s.vm.findClass E = some ce.cls → vx_W p l e R s m args below meth c H1 locs1 (cells + mc) (slots + ms) Q (F0 m pc ls rest) q9)
    (kk : ∀ (v : Option Value) (M' : m_M), post v M' → m_W D aC s0 nL p l e R s m args below meth c (cells + mc) (slots + ms) Q (pc + 3) lv (v.toList ++ rest) M') : m_W D aC s0 nL p l e R s m args below meth c cells slots Q pc lv st0 M := by
  intro H locs ls h1 h2 h3
  have hcn : va_CN R s args own idx y host bytes nLc none (m_ws y bytes nLc none) (m_R d mc ms) mc ms n := va_cnB n C.2.2.2.2.1 (m_good y hcd.1) rfl rfl rfl (va_Nw.warmM C.2.2.2.2.2.2.1.1 hnw) (C.2.2.2.2.1 _ hcd.2.1) hcd.2.2 hfr
  exact m_after (vx_runIN (As := As) (b := b) (rest := rest) (m_fix C) hM ⟨hcn, hlk.2, C.2.2.2.2.1 _ hlk.1⟩ (m_preS C h2 h3) rfl hn h1.1 hst (by show 2 * 0 + _ ≤ 8; omega) hd hf) h1 h3 (fun E M' ce q9 H1 locs1 a1 a2 a3 a4 a5 a6 => kx E M' ce q9 H1 locs1 ls h1 a1 a2 a3 a4 a5 a6) kk
/-- what the callee throws goes on to the caller -/
theorem m_out {post0 : Option Value → m_M → Prop} {px px0 : String → m_M → Prop} {mc0 ms0 : Nat} (C : m_C D aC s0 own cc nL l p s m args meth c) (hno : ∀ x ∈ c.exceptionTable.toList, False) (hc : cells ≤ mc0) (hs : slots ≤ ms0) (hpx : ∀ E M', px E M' → px0 E M') {rest : List Value} : ∀ (E : String) (M' : m_M) (ce : Cell) (q9 : Addr) (H1 : Heap) (locs1 : List Loc) (ls : Array Slot), lv_has ls nL lv → px E M' → m_H D aC M' H1 → va_S (m_A s0) s.heap H1 locs1 → H1[q9]? = some ce → ce.vm = .none → s.vm.findClass E = some ce.cls → vx_W p l e R s m args below meth c H1 locs1 cells slots (m_Q D aC s0 below post0 px0 args s mc0 ms0) (F0 m pc ls rest) q9 :=
  fun E M' ce q9 H1 locs1 ls h1 hx hH hS hce hcv hcl => vx_out (fun x hx => (hno x hx).elim) C.2.2.2.2.2.1 hce hcv hcl (fun t ht hal => ⟨⟨M', hpx E M' hx, by rw [ht]; exact hH⟩, hS.F ht⟩) hS.2.2 hc hs
theorem m_nox {rest : List Value} : ∀ (E : String) (M' : m_M) (ce : Cell) (q9 : Addr) (H1 : Heap) (locs1 : List Loc) (ls : Array Slot), lv_has ls nL lv → m_nx E M' → m_H D aC M' H1 → va_S (m_A s0) s.heap H1 locs1 → H1[q9]? = some ce → ce.vm = .none → s.vm.findClass E = some ce.cls → vx_W p l e R s m args below meth c H1 locs1 cells slots Q (F0 m pc ls rest) q9 := fun _ _ _ _ _ _ _ _ h => h.elim
theorem m_obji (C : m_C D aC s0 own cc nL l p s m args meth c) {idx a : Nat} (hd : decode cc pc = .ok (.invokespecial idx, 3)) (hl : Cond.methodLink own idx objectInit ∈ lwg) (hi : Cond.instanceMethod objectInit ∈ lwg) (hcd : Cond.code objectInit ⟨#[0xb1]⟩ 1 none ∈ lwg) (hfr : 1 ≤ R.frames) (hlo : (st.map fun v => v.category).sum + 12 ≤ R.locals) (kk : m_W D aC s0 nL p l e R s m args below meth c cells slots Q (pc + 3) lv st M) : m_W D aC s0 nL p l e R s m args below meth c cells slots Q pc lv (.ref a :: st) M := by
  intro H locs ls h1 h2 h3
  exact W.objInit C.1 C.2.1 C.2.2.2.1 (C.2.2.2.2.1 _ hl) (C.2.2.2.2.1 _ hi) (C.2.2.2.2.1 _ hcd) rfl (by rw [C.2.2.1]; exact h1.1) rfl hd hfr (by show 2 * 0 + _ + 12 ≤ _; omega) (kk H locs ls h1 h2 h3)
end m_CALLS
