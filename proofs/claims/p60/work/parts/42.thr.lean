def thrN : List String := ["java/lang/RuntimeException", "java/lang/Exception"]
def thrS : List (Nat × String) := [(108, "java/lang/IndexOutOfBoundsException"), (115, "java/lang/IllegalArgumentException"), (120, "java/lang/IllegalStateException"), (125, "java/lang/UnsupportedOperationException"), (289, "java/lang/ArithmeticException")]
def thrT : List (Nat × String) := [(106, "no such index"), (113, "a number is out of its bounds"), (118, "not in this state"), (123, "the household cannot do this now"), (128, "no such open contract"), (134, "no such room"), (142, "no such rank"), (168, "no such broom"), (215, "no such goblin"), (218, "no such position"), (237, "a goblin that rests does nothing"), (248, "not done within the nights that are predicted"), (256, "the number of nights is out of its bounds"), (287, "no contract is done or broken"), (322, "no such index in the output text"), (341, "the script does not have the required form"), (355, "a command of the script failed"), (357, "every script had the required form"), (359, "no command of a script failed"), (362, "there is nothing to undo"), (367, "there is no snapshot")]
def isDC : Cond → Bool
  | .declares _ => true
  | .castable _ _ => true
  | _ => false
theorem isDC_e {w : Cond} (h : isDC w = true) : (∃ x, w = .declares x) ∨ ∃ a b, w = .castable a b := by
  cases w <;> first | exact Or.inl ⟨_, rfl⟩ | exact Or.inr ⟨_, _, rfl⟩ | (simp [isDC] at h)
theorem thr_dc : ∀ q ∈ thrS, ∀ w ∈ (vx_atS RX9 q.1 q.2 thrN).filter (fun w => !goodWord w), isDC w = true := by decide +kernel
theorem thr_good : ∀ q ∈ thrS, ∀ w ∈ (vx_atS RX9 q.1 q.2 thrN).filter goodWord, w ∈ lwg := by decide +kernel
theorem thr_ot : ∀ q ∈ thrS, ∀ w ∈ vx_atS RX9 q.1 q.2 thrN, vx_ot w = true := by decide +kernel
def eNs : String := "java/util/NoSuchElementException"
def m_six : ByteArray := ⟨#[0x2a, 0x2b, 0xb7, 0x00, 0x0d, 0xb1]⟩
def m_ownN : List Cond := (Bundle.ownAtoms RX9 130 eNs thrN).filter (fun w => decide (w ≠ .code (Bundle.initS eNs) Bundle.six 2 none) && decide (w ≠ .methodLink eNs 7 (Bundle.initS "java/lang/RuntimeException"))) ++ Bundle.passSAtoms eNs "java/lang/RuntimeException" 13 m_six
def m_atN : List Cond := m_ownN.filter vx_no
theorem m_oN1 : ∀ x ∈ Bundle.throwableAtoms, x ∈ m_ownN := by decide +kernel
theorem m_oN2 : ∀ x ∈ Bundle.throwableSAtoms, x ∈ m_ownN := by decide +kernel
theorem m_oN3 : ∀ x ∈ Bundle.chainSAtoms "java/lang/RuntimeException" ["java/lang/Exception"], x ∈ m_ownN := by decide +kernel
theorem m_oN4 : ∀ x ∈ Bundle.passSAtoms eNs "java/lang/RuntimeException" 13 m_six, x ∈ m_ownN := by decide +kernel
theorem thn_dc : ∀ w ∈ m_atN.filter (fun w => !goodWord w), isDC w = true := by decide +kernel
theorem thn_good : ∀ w ∈ m_atN.filter goodWord, w ∈ lwg := by decide +kernel
theorem thn_ot : ∀ w ∈ m_atN, vx_ot w = true := by decide +kernel
section
variable {p : Program} {l : Launch} {e : Env} {R : Room} {s : State} {m₀ : MethodId} {args : Array Value} {below : List Frame} {meth : Method} {c : Code} {W : State} {locs : List Loc} {cells slots : Nat}
set_option maxHeartbeats 1000000 in
theorem m_ctorN (X : Stand p l e R s m₀ args below meth c W locs cells slots) (hexec : p.tables.exec = Jvm.exec) (htr : e.platform.stackTraces = false)
    (hown : s.vm.findClass RX9 = some m₀.cls) (h : ∀ a ∈ m_ownN, a.before args s = true)
    (hlocs : ∀ x ∈ locs, ∀ cell, s.heap[x.base]? = some cell → cell.vm.isStatics = false)
    {a : Addr} {cX : ClassId} {kX : Class} (hfoundX : s.vm.findClass eNs = some cX) (hkX : s.vm.classes[cX]? = some kX) (hcell : W.heap[a]? = some (freshCell cX kX)) (hnew : s.heap.size ≤ a)
    {msg : Value} (hmsg : msg.isRef = true)
    {g : JFrame} (hg : g.method = m₀) (hsize : g.locals.size = c.maxLocals) {rest : List Value} (hstack : g.stack = msg :: .ref a :: .ref a :: rest)
    (hd6 : decode c.code g.pc = .ok (.invokespecial 130, 3))
    (hRframes : 5 < R.frames) (hRlocals : 2 * g.monitorRoom + ((Value.ref a :: rest).map fun v => v.category).sum + 81 ≤ R.locals) :
    ∃ (V : State) (ce : Cell) (L : List Loc), Stand p l e R s m₀ args below meth c (V.setCell a ce) (locs ++ L) cells slots ∧ (∀ y ∈ L, y.base = a) ∧ a < V.heap.size ∧ ce.cls = cX ∧ ce.vm = .none ∧
      ∀ target, Steps p.tables e below ((V.setCell a ce).setTop { g with stack := .ref a :: rest, pc := g.pc + 3 }) target → Steps p.tables e below (W.setTop g) target := by
  have howns : e.platform.frameOwnsMonitors = true := by rw [X.admits.platform]
  have hfin : e.platform.finalization = false := by rw [X.admits.platform]
  have hpl : e.platform.magicAccessors = ({} : Platform).magicAccessors := by rw [X.admits.platform]
  have a' : ∀ x, x ∈ m_ownN → x.holds args s none s [] = true := fun x hx => h x hx
  obtain ⟨T, Z0, L, -, Y⟩ := ThrowableC.of_atoms (args := args) howns hfin hpl (fun x hx => h x (m_oN1 x hx))
  obtain ⟨Z, M, LZ, LM, hnZ⟩ := Init0T.ofS_atoms (args := args) hpl L Y (fun x hx => h x (m_oN2 x hx))
  obtain ⟨P2, Ps2, hlen2, L2, hL2, hm2, hsup2, hpass2⟩ := Bundle.chainS (args := args) hpl hnZ ["java/lang/Exception"] "java/lang/RuntimeException" (by decide +kernel) (by decide +kernel) (fun x hx => h x (m_oN3 x hx))
  obtain ⟨P1, L1, hP1m, hs1⟩ := PassC.ofS_atoms (args := args) (s := s) hpl (X := eNs) (Y := "java/lang/RuntimeException") (index := 13) (bytes := m_six) (Bundle.fit_spec (by decide +kernel)).1 (Bundle.fit_spec (by decide +kernel)).2 (by decide +kernel) (by decide +kernel) (by decide +kernel) (by decide +kernel) (fun x hx => h x (m_oN4 x hx))
  have hlink1 := Option.some.inj (hs1.symm.trans hm2)
  have hfound : s.vm.findClass eNs = some P1.m.cls := findClass_of_methodNamed hP1m
  cases Option.some.inj (hfoundX.symm.trans hfound)
  obtain ⟨c1, kX', hc1, hk, hord, -, -, hn6⟩ := Cond.instantiable_spec (a' (.instantiable eNs 6) (by decide +kernel))
  cases Option.some.inj (hc1.symm.trans hfound)
  cases Option.some.inj (hkX.symm.trans hk)
  have hsel0 : selectMethod e.platform s.vm P1.m.cls T.fill0 = .method T.fill0 := by
    obtain ⟨c2, r2, m2, q1, q2, q3, q4, -⟩ := Cond.selects_spec (a' (.selects eNs Bundle.tFill0 Bundle.tFill0) (by decide +kernel))
    cases Option.some.inj (q1.symm.trans hfound)
    cases Option.some.inj (q2.symm.trans (State.methodFound?_of_named Y.fill0 (by decide)))
    cases Option.some.inj (q3.symm.trans Y.fill0)
    rw [Launch.admits_selectMethod X.admits]; exact q4
  have hselF : selectMethod e.platform s.vm P1.m.cls T.fill = .method T.fill := by
    obtain ⟨c2, r2, m2, q1, q2, q3, q4, -⟩ := Cond.selects_spec (a' (.selects eNs Bundle.tFill Bundle.tFill) (by decide +kernel))
    cases Option.some.inj (q1.symm.trans hfound)
    cases Option.some.inj (q2.symm.trans (State.methodFound?_of_named Y.fill (by decide)))
    cases Option.some.inj (q3.symm.trans Y.fill)
    rw [Launch.admits_selectMethod X.admits]; exact q4
  obtain ⟨cellS0, hcS0, hiss⟩ := Y.statics
  obtain ⟨u0, hu0⟩ := Cond.staticRefV Y.unassigned L.unassignedStatic L.statics hcS0 hiss (a' (.isRef (.static Bundle.tN "UNASSIGNED_STACK" Bundle.steD)) (by decide +kernel))
  obtain ⟨sen, hsen⟩ := Cond.staticRefV Y.sentinel L.sentinelStatic L.statics hcS0 hiss (a' (.isRef (.static Bundle.tN "SUPPRESSED_SENTINEL" Bundle.listD)) (by decide +kernel))
  obtain ⟨ci198, i198, fB, hk198, hg198, ha198, hsB, -, hnB, htB, hffB⟩ := Cond.ownField (t := .object "java/lang/Object") Y.found L.cls (by decide +kernel) (a' (.fieldLink Bundle.tN 198 Bundle.tN "backtrace" "Ljava/lang/Object;") (by decide +kernel)) (a' (.lays Bundle.tN Bundle.tN "backtrace" "Ljava/lang/Object;") (by decide +kernel)) e.platform hpl
  obtain ⟨cellS, hcS', heS, -, hkeep⟩ := X.same.2.2.2.2.2 T.aS cellS0 hcS0
  have hcellS : W.heap[T.aS]? = some cellS := hcS'
  have hout' : ∀ i, (⟨T.aS, i⟩ : Loc) ∉ locs := fun i hmem => by
    have := hlocs _ hmem cellS0 hcS0
    rw [hiss] at this; cases this
  have hknownS : cellS.vm ≠ .unknown := by
    rw [heS]; intro hu
    rw [show cellS0.vm = .unknown from hu] at hiss
    cases hiss
  have hneS : T.aS ≠ a := Nat.ne_of_lt (Nat.lt_of_lt_of_le (Array.getElem?_eq_some_iff.mp hcS0).1 hnew)
  obtain ⟨iM, hffM⟩ := Y.msg
  obtain ⟨tyC, dC, hdC, hdnC⟩ := Cond.laysAt hfound hk Y.cause (a' (.lays eNs Bundle.tN "cause" "Ljava/lang/Throwable;") (by decide +kernel))
  obtain ⟨tyS, dS, hdS, hdnS⟩ := Cond.laysAt hfound hk Y.stack (a' (.lays eNs Bundle.tN "stackTrace" Bundle.steD) (by decide +kernel))
  obtain ⟨tyP, dP, hdP, hdnP⟩ := Cond.laysAt hfound hk Y.supp (a' (.lays eNs Bundle.tN "suppressedExceptions" Bundle.listD) (by decide +kernel))
  obtain ⟨tyM, dM, hdM, hdnM⟩ := Cond.laysAt hfound hk hffM (a' (.lays eNs Bundle.tN "detailMessage" "Ljava/lang/String;") (by decide +kernel))
  obtain ⟨tyB, dB, hdB, hdnB⟩ := Cond.laysAt hfound hk hffB (a' (.lays eNs Bundle.tN "backtrace" "Ljava/lang/Object;") (by decide +kernel))
  have bC := Cond.laysApart hdB hdC hdnB hdnC (by rw [hnB, Y.causeName]; decide)
  have bS := Cond.laysApart hdB hdS hdnB hdnS (by rw [hnB, Y.stackName]; decide)
  have bP := Cond.laysApart hdB hdP hdnB hdnP (by rw [hnB, Y.suppName]; decide)
  have hskip : SkipFacts T e.platform s (fun u => u) u0 ((preparedCellV T.toThrowableT (freshCell P1.m.cls kX) a u0 sen).withEntry W.cur) :=
    ⟨{ ci198 := ci198, i198 := i198, fBack := fB }, ⟨hk198, hg198, ha198, hsB⟩, by
      have := fresh_default (c := P1.m.cls) tyB
      rw [htB] at this
      simpa [preparedCellV, Cell.setSlot, Cell.withEntry, Array.getElem?_setIfInBounds, bC, bS, bP, bC.symm, bS.symm, bP.symm, defaultValue] using this, fun _ _ => rfl⟩
  obtain ⟨tm, methC, cdC, kC, vm₁, hnC, -, -, -, -, -, -, -, hW₁, st1⟩ := Steps.initColdS (tb := p.tables) (e := e) (below := below) (s := s) (U := W) X.here hexec X.warmed hpl hown (t := Bundle.initS eNs) rfl rfl (Bundle.fit_spec (n := eNs) (by decide +kernel)).2
    (a' (.methodLink RX9 130 (Bundle.initS eNs)) (by decide +kernel)) (h (.instanceMethod (Bundle.initS eNs)) (by decide +kernel)) (bytes := m_six) (maxL := 2) (h (.code (Bundle.initS eNs) m_six 2 none) (by decide +kernel))
    (f := g) hg (a := a) (msg := msg) (rest := .ref a :: rest) hstack hd6
  cases Option.some.inj (hnC.symm.trans hP1m)
  have X₁ := X.noted hW₁
  obtain ⟨vm₂, X₂, st2⟩ := X₁.ctorMessageOffV hexec (g := { g with stack := .ref a :: rest }) hg hsize T L Z LZ M LM (P1 :: P2 :: Ps2)
    (fun P hP => by rcases List.mem_cons.mp hP with rfl | hP; exact L1; rcases List.mem_cons.mp hP with rfl | hP; exact L2; exact hL2 P hP) ⟨hlink1, hsup2, hpass2⟩ (u0 := u0) (sen := sen) (self := a) hmsg (cell := freshCell P1.m.cls kX) (cellS := cellS)
    hcell (fun _ => by simp) (by simp) rfl rfl hsel0 hselF hcellS hneS hknownS (by rw [hkeep _ (hout' _)]; exact hu0) (by rw [hkeep _ (hout' _)]; exact hsen)
    (Takes.of_laid hk hord tyC (by rw [Y.causeType]; rfl)) (Takes.of_laid hk hord tyS (by rw [Y.stackType]; exact fits_refV_array _ u0)) (Takes.of_laid hk hord tyP (by rw [Y.suppType]; exact fits_refV_object _ sen))
    (Takes.of_laid hk hord tyM (by rw [Y.msgType]; exact fits_refV_object _ ⟨msg, hmsg⟩)) Y.objLocals hskip htr [] hd6
    (by simp only [List.length_cons, hlen2]; exact hRframes) (by simp only [List.length_cons, hlen2]; exact hRlocals)
  have hlt : a < ((W.setVm vm₁).setVm vm₂).heap.size := (Array.getElem?_eq_some_iff.mp hcell).1
  refine ⟨(W.setVm vm₁).setVm vm₂, _, _, X₂, fun y hy => ?_, hlt, rfl, rfl, fun target hwalk => st1 _ (fun acts => ?_)⟩
  · simp only [List.mem_cons, List.not_mem_nil, or_false] at hy
    rcases hy with rfl | rfl | rfl | rfl | rfl <;> rfl
  · rw [doInvoke_state]
    exact st2 _ hwalk
end
/-- of the start: the words of a throw, and the messages -/
def m_TH (s0 : State) : Prop := (∀ q ∈ thrS, ∀ w ∈ (vx_atS RX9 q.1 q.2 thrN).filter (fun w => !goodWord w), va_Nw w s0) ∧ (∀ w ∈ m_atN.filter (fun w => !goodWord w), va_Nw w s0) ∧ ∀ q ∈ thrT, ∃ sa, vk_R RX9 q.1 q.2 sa s0
section
variable {D : va_G} {aC : Nat → ClassId} {s0 : State} {own : String} {cc : ByteArray} {nL : Nat} {p : Program} {l : Launch} {e : Env} {R : Room} {s : State} {m : MethodId} {args : Array Value} {below : List Frame} {meth : Method} {c : Code} {cells slots : Nat} {Q : State → Prop} {pc : Nat} {lv : List (Nat × Value)} {st : List Value} {M : m_M}
theorem m_thAt (C : m_C D aC s0 own cc nL l p s m args meth c) (hX : m_TH s0) {ic : Nat} {cls : String} (hq : (ic, cls) ∈ thrS) : ∀ w ∈ vx_atS RX9 ic cls thrN, w.before args s = true := by
  refine vx_hat (B := (vx_atS RX9 ic cls thrN).filter (fun w => !goodWord w)) (fun w hw => C.2.2.2.2.1 w (thr_good _ hq w hw)) (fun w hw => hw) (fun w hw => ?_)
  have h0 := hX.1 _ hq w hw
  have hW := C.2.2.2.2.2.2.1.1
  rcases isDC_e (thr_dc _ hq w hw) with ⟨x, rfl⟩ | ⟨a, b, rfl⟩
  · exact (va_Nw.warmD hW h0).use rfl
  · exact (va_Nw.warmC hW h0).use rfl
theorem m_thr (C : m_C D aC s0 RX9 cc nL l p s m args meth c) {post : Option Value → m_M → Prop} {px : String → m_M → Prop} {mc ms ik is ic : Nat} {cls text : String} (hX : m_TH s0) (hq : (ic, cls) ∈ thrS) (ht : (is, text) ∈ thrT) (hfit : Bundle.fit cls = true) (hk : Cond.classLink RX9 ik cls ∈ lwg) (hini : Cond.initialized cls ∈ lwg) (hg : vx_ot (Cond.classLink RX9 ik cls) = true ∧ vx_ot (Cond.initialized cls) = true) (d0 : decode cc pc = .ok (.new ik, 3)) (d3 : decode cc (pc + 3) = .ok (.dup, 1)) (d4 : decode cc (pc + 4) = .ok (.ldc is, 2)) (d6 : decode cc (pc + 6) = .ok (.invokespecial ic, 3)) (d9 : decode cc (pc + 9) = .ok (.athrow, 1))
    (hno : ∀ x ∈ c.exceptionTable.toList, False) (hRf : 5 < R.frames) (hRl : (st.map fun v => v.category).sum + 82 ≤ R.locals) (hRc : cells + 1 ≤ R.cells) (hRs : slots + 6 ≤ R.slots) (hc : cells + 1 ≤ mc) (hs : slots + 6 ≤ ms) (hpx : ∀ M' : m_M, M.1 ≤ M'.1 → M'.2 = M.2 → px cls M') : m_W D aC s0 nL p l e R s m args below meth c cells slots (m_Q D aC s0 below post px args s mc ms) pc lv st M := by
  intro H locs ls h1 h2 h3
  have hF := C.2.2.2.2.2.2.2.1
  have hZ := C.2.2.2.2.2.2.1
  obtain ⟨sa, hstr⟩ := hX.2.2 _ ht
  refine vx_throwS C.1 C.2.1 C.2.2.2.2.2.2.2.2 C.2.2.2.1 hfit (names := thrN) (by decide) (C.2.2.2.2.1 _ hk) (C.2.2.2.2.1 _ hini) (vk_R.warm hZ.1 hstr) (m_thAt C hX hq) ?_ ((vx_Zq.moved hZ.1.alike hF.2.1).kept (fun a ha _ => hZ.2.2 a ha)) ((vx_Zq.moved hZ.1.alike hF.2.2.1).kept (fun a ha _ => hZ.2.2 a ha)) h3 (h1.1.trans C.2.2.1.symm) d0 d3 d4 d6 d9 (fun x hx => (hno x hx).elim) hRf hRl hRc hRs C.2.2.2.2.2.1 ?_ (fun z hz => h3.2.2 z hz) hc hs
  · intro w hw
    rcases List.mem_cons.mp hw with rfl | hw
    · exact hg.1
    · rcases List.mem_cons.mp hw with rfl | hw
      · exact hg.2
      · exact thr_ot _ hq w hw
  · intro t ha hz he
    refine ⟨⟨(t.heap.size, M.2), hpx _ (by show M.1 ≤ t.heap.size; rw [← h2.1]; exact hz) rfl, rfl, fun a e hM => ?_⟩, Nat.le_trans h3.1 hz, fun q g1 g2 => ?_⟩
    · exact (h2.2 a e hM).kept (he a (h2.2 a e hM).lt)
    · rw [he q (Nat.lt_of_lt_of_le g1 h3.1)]
      exact h3.2.1 q g1 g2
theorem m_thrW (C : m_C D aC s0 RX9 cc nL l p s m args meth c) {post : Option Value → m_M → Prop} {px : String → m_M → Prop} {mc ms ik is ic : Nat} {cls text : String} (hX : m_TH s0) (hq : (ic, cls) ∈ thrS) (ht : (is, text) ∈ thrT) (hfit : Bundle.fit cls = true) (hk : Cond.classLink RX9 ik cls ∈ lwg) (hini : Cond.initialized cls ∈ lwg) (hg : vx_ot (Cond.classLink RX9 ik cls) = true ∧ vx_ot (Cond.initialized cls) = true) (d0 : decode cc pc = .ok (.new ik, 3)) (d3 : decode cc (pc + 3) = .ok (.dup, 1)) (d4 : decode cc (pc + 4) = .ok (.ldc_w is, 3)) (d6 : decode cc (pc + 7) = .ok (.invokespecial ic, 3)) (d9 : decode cc (pc + 10) = .ok (.athrow, 1))
    (hno : ∀ x ∈ c.exceptionTable.toList, False) (hRf : 5 < R.frames) (hRl : (st.map fun v => v.category).sum + 82 ≤ R.locals) (hRc : cells + 1 ≤ R.cells) (hRs : slots + 6 ≤ R.slots) (hc : cells + 1 ≤ mc) (hs : slots + 6 ≤ ms) (hpx : ∀ M' : m_M, M.1 ≤ M'.1 → M'.2 = M.2 → px cls M') : m_W D aC s0 nL p l e R s m args below meth c cells slots (m_Q D aC s0 below post px args s mc ms) pc lv st M := by
  intro H locs ls h1 h2 h3
  have hF := C.2.2.2.2.2.2.2.1
  have hZ := C.2.2.2.2.2.2.1
  obtain ⟨sa, hstr⟩ := hX.2.2 _ ht
  refine vx_throwSW C.1 C.2.1 C.2.2.2.2.2.2.2.2 C.2.2.2.1 hfit (names := thrN) (by decide) (C.2.2.2.2.1 _ hk) (C.2.2.2.2.1 _ hini) (vk_R.warm hZ.1 hstr) (m_thAt C hX hq) ?_ ((vx_Zq.moved hZ.1.alike hF.2.1).kept (fun a ha _ => hZ.2.2 a ha)) ((vx_Zq.moved hZ.1.alike hF.2.2.1).kept (fun a ha _ => hZ.2.2 a ha)) h3 (h1.1.trans C.2.2.1.symm) d0 d3 d4 d6 d9 (fun x hx => (hno x hx).elim) hRf hRl hRc hRs C.2.2.2.2.2.1 ?_ (fun z hz => h3.2.2 z hz) hc hs
  · intro w hw
    rcases List.mem_cons.mp hw with rfl | hw
    · exact hg.1
    · rcases List.mem_cons.mp hw with rfl | hw
      · exact hg.2
      · exact thr_ot _ hq w hw
  · intro t ha hz he
    refine ⟨⟨(t.heap.size, M.2), hpx _ (by show M.1 ≤ t.heap.size; rw [← h2.1]; exact hz) rfl, rfl, fun a e hM => ?_⟩, Nat.le_trans h3.1 hz, fun q g1 g2 => ?_⟩
    · exact (h2.2 a e hM).kept (he a (h2.2 a e hM).lt)
    · rw [he q (Nat.lt_of_lt_of_le g1 h3.1)]
      exact h3.2.1 q g1 g2
end
theorem kX_104 : Cond.classLink RX9 104 "java/lang/IndexOutOfBoundsException" ∈ lwg := (lwg_of (List.mem_append_right _ (List.mem_of_getElem? (i := 466) (by decide +kernel))) rfl)
theorem kXi_104 : Cond.initialized "java/lang/IndexOutOfBoundsException" ∈ lwg := (lwg_of (List.mem_append_right _ (List.mem_of_getElem? (i := 18) (by decide +kernel))) rfl)
theorem kX_111 : Cond.classLink RX9 111 "java/lang/IllegalArgumentException" ∈ lwg := (lwg_of (List.mem_append_right _ (List.mem_of_getElem? (i := 479) (by decide +kernel))) rfl)
theorem kXi_111 : Cond.initialized "java/lang/IllegalArgumentException" ∈ lwg := (lwg_of (List.mem_append_right _ (List.mem_of_getElem? (i := 20) (by decide +kernel))) rfl)
theorem kX_116 : Cond.classLink RX9 116 "java/lang/IllegalStateException" ∈ lwg := (lwg_of (List.mem_append_right _ (List.mem_of_getElem? (i := 495) (by decide +kernel))) rfl)
theorem kXi_116 : Cond.initialized "java/lang/IllegalStateException" ∈ lwg := (lwg_of (List.mem_append_right _ (List.mem_of_getElem? (i := 21) (by decide +kernel))) rfl)
theorem kX_121 : Cond.classLink RX9 121 "java/lang/UnsupportedOperationException" ∈ lwg := (lwg_of (List.mem_append_right _ (List.mem_of_getElem? (i := 511) (by decide +kernel))) rfl)
theorem kXi_121 : Cond.initialized "java/lang/UnsupportedOperationException" ∈ lwg := (lwg_of (List.mem_append_right _ (List.mem_of_getElem? (i := 22) (by decide +kernel))) rfl)
theorem kX_126 : Cond.classLink RX9 126 "java/util/NoSuchElementException" ∈ lwg := (lwg_of (List.mem_append_right _ (List.mem_of_getElem? (i := 527) (by decide +kernel))) rfl)
theorem kXi_126 : Cond.initialized "java/util/NoSuchElementException" ∈ lwg := (lwg_of (List.mem_append_right _ (List.mem_of_getElem? (i := 23) (by decide +kernel))) rfl)
theorem kX_285 : Cond.classLink RX9 285 "java/lang/ArithmeticException" ∈ lwg := (lwg_of (List.mem_append_right _ (List.mem_of_getElem? (i := 1309) (by decide +kernel))) rfl)
theorem kXi_285 : Cond.initialized "java/lang/ArithmeticException" ∈ lwg := (lwg_of (List.mem_append_right _ (List.mem_of_getElem? (i := 34) (by decide +kernel))) rfl)
section
variable {p : Program} {l : Launch} {e : Env} {R : Room} {s : State} {m : MethodId} {args : Array Value} {below : List Frame} {meth : Method} {c : Code} {H : Heap} {T : State} {locs : List Loc} {cells slots : Nat} {Q : State → Prop}
variable {ls : Array Slot} {rest : List Value}
/-- 'throw x' of an object that was made before -/
theorem vx_athrow {cc : ByteArray} {pc : Nat} (hexec : p.tables.exec = Jvm.exec) (hb : c.code = cc) {q : Addr} (hdg : decode cc pc = .ok (.athrow, 1)) (k : vx_W p l e R s m args below meth c H locs cells slots Q (F0 m pc ls rest) q) : W p l e R s m args below meth c H locs cells slots Q (F0 m pc ls (.ref q :: rest)) := by
  intro T hT X
  obtain ⟨t, st, hq⟩ := k T hT X
  refine ⟨t, ?_, hq⟩
  have hdg' : decode c.code pc = .ok (.athrow, 1) := by rw [hb]; exact hdg
  jvm_step X.here [X.here.top, hexec, hdg', athrow.wp_sem]
  exact st
theorem m_makeN {cc : ByteArray} {pc : Nat} (hexec : p.tables.exec = Jvm.exec) (hb : c.code = cc) (hl : l.stackTraces = false) {text : String} {is sa : Nat} {A : Nat → Prop}
    (hown : s.vm.findClass RX9 = some m.cls) (hk : (Cond.classLink RX9 126 eNs).before args s = true) (hini : (Cond.initialized eNs).before args s = true) (hstr : vk_R RX9 is text sa s) (hat : ∀ w ∈ m_atN, w.before args s = true)
    (hgood : ∀ w ∈ Cond.classLink RX9 126 eNs :: Cond.initialized eNs :: m_atN, vx_ot w = true)
    (hU : vx_Zq Bundle.tN "UNASSIGNED_STACK" Bundle.steD A s s.heap) (hN : vx_Zq Bundle.tN "SUPPRESSED_SENTINEL" Bundle.listD A s s.heap) (hS : va_S A s.heap H locs) (hsize : ls.size = c.maxLocals)
    (d0 : decode cc pc = .ok (.new 126, 3)) (d3 : decode cc (pc + 3) = .ok (.dup, 1)) (d4 : decode cc (pc + 4) = .ok (.ldc is, 2)) (d6 : decode cc (pc + 6) = .ok (.invokespecial 130, 3))
    (hRframes : 5 < R.frames) (hRlocals : (rest.map fun v => v.category).sum + 82 ≤ R.locals) (hRcells : cells + 1 ≤ R.cells) (hRslots : slots + 6 ≤ R.slots)
    (kk : ∀ (q : Nat) (ce : Cell) (H1 : Heap), H.size ≤ H1.size → (∀ q : Nat, q < H.size → H1[q]? = H[q]?) → va_S A s.heap H1 locs → H1[q]? = some ce → ce.vm = .none → s.vm.findClass eNs = some ce.cls → W p l e R s m args below meth c H1 locs (cells + 1) (slots + 6) Q (F0 m (pc + 9) ls (.ref q :: rest))) :
    W p l e R s m args below meth c H locs cells slots Q (F0 m pc ls rest) := by
  intro T hT X
  subst hT
  have htr : e.platform.stackTraces = false := (show e.platform.stackTraces = l.stackTraces by rw [X.admits.platform]).trans hl
  have Y := vx_rebase X (R' := { frames := R.frames, locals := R.locals, cells := 1, slots := 6 }) (Nat.le_refl _) (Nat.le_refl _) hRcells hRslots
  obtain ⟨s', hA'⟩ : ∃ z, z = (T.setVm s.vm).setFrames (.invoking m args :: below) := ⟨_, rfl⟩
  rw [← hA'] at Y
  have hvm : s'.vm = s.vm := by rw [hA']; rfl
  have hhp : s'.heap = T.heap := by rw [hA']; rfl
  have hW0 : s.WarmedH s'.vm := by rw [hvm]; exact State.WarmedH.refl s
  have hat' : ∀ w ∈ m_atN, w.before args s' = true := fun w hw => vx_ot_at hW0 hvm.symm (hgood w (List.mem_cons_of_mem _ (List.mem_cons_of_mem _ hw))) (hat w hw)
  have hk' : (Cond.classLink RX9 126 eNs).before args s' = true := vx_ot_at hW0 hvm.symm (hgood _ List.mem_cons_self) hk
  have hini' : (Cond.initialized eNs).before args s' = true := vx_ot_at hW0 hvm.symm (hgood _ (List.mem_cons_of_mem _ List.mem_cons_self)) hini
  have hU' : vx_Zq Bundle.tN "UNASSIGNED_STACK" Bundle.steD A s' s'.heap := by rw [hhp]; exact vx_Zq.moved hW0.alike (hU.kept hS.2.1)
  have hN' : vx_Zq Bundle.tN "SUPPRESSED_SENTINEL" Bundle.listD A s' s'.heap := by rw [hhp]; exact vx_Zq.moved hW0.alike (hN.kept hS.2.1)
  have h : ∀ w ∈ m_ownN, w.before args s' = true := vx_own hat' (vx_isRefq hU'.1) (vx_isRefq hN'.1) hU'.2.word hN'.2.word
  have hown' : s'.vm.findClass RX9 = some m.cls := by rw [hvm]; exact hown
  have hins : (Cond.instantiable eNs 6).before args s' = true := h _ (by decide +kernel)
  obtain ⟨vm₁, cX, kX, hfX, hkX, -, -, X₁, st1⟩ := Y.newCold hexec (own := RX9) (C := eNs) (index := 126) (n := 6) hown' hk' hins hini'
    (g := F0 m pc ls rest) rfl (by rw [hb]; exact d0) (Nat.le_refl _) (Nat.le_refl _)
  generalize hT1 : (T.setVm vm₁).pushCell { cls := cX, slots := kX.instanceTypes.map defaultValue, vm := .none } = T1 at X₁ st1
  have hcat : (Value.ref T.heap.size).category = 1 := rfl
  have hcellA : T1.heap[T.heap.size]? = some (freshCell cX kX) := by rw [← hT1]; exact State.heap_pushCell_size _ _
  have d3' : decode c.code (pc + 3) = .ok (.dup, 1) := by rw [hb]; exact d3
  have d4' : decode c.code (pc + 4) = .ok (.ldc is, 2) := by rw [hb]; exact d4
  have hstr' : vk_R RX9 is text sa s' := vk_R.warm hW0 hstr
  obtain ⟨V, ce, L, Z, hL, hlt, hcl9, hvm9, st⟩ := m_ctorN X₁ hexec htr hown' h (fun x hx => nomatch hx) hfX hkX hcellA (by rw [hhp]; exact Nat.le_refl _) (msg := .ref sa) rfl
    (g := { method := m, pc := pc + 6, locals := ls, stack := .ref sa :: .ref T.heap.size :: .ref T.heap.size :: rest, locked := none }) rfl hsize (rest := rest) rfl
    (by rw [hb]; exact d6) hRframes (by simp only [List.map_cons, List.sum_cons, hcat]; omega)
  have Z0 := Stand.forget (locs := []) Z (fun y hy => by rw [hL y hy, hhp]; exact Nat.le_refl _)
  obtain ⟨f1, f2⟩ := vx_frame Z0.same
  rw [hhp] at f1 f2
  have hcid : s.vm.findClass eNs = some ce.cls := by
    rw [hcl9]
    rw [hvm] at hfX
    exact hfX
  have hh : (V.setCell T.heap.size ce).heap[T.heap.size]? = some ce := heapAt_setCell_self (s := V) ce hlt
  subst hA'
  have X5 := vx_back9 X Y Z0
  have X6 : Stand p l e R s m args below meth c (V.setCell T.heap.size ce) locs (cells + 1) (slots + 6) := { X5 with same := X5.same.mono (by omega) (by omega) }
  obtain ⟨t, a1, b1⟩ := kk T.heap.size ce (V.setCell T.heap.size ce).heap f1 (fun q h1 => f2 q h1 (fun z hz => nomatch hz)) ⟨Nat.le_trans hS.1 f1, fun q h1 h2 => (f2 q (Nat.lt_of_lt_of_le h1 hS.1) (fun z hz => nomatch hz)).trans (hS.2.1 q h1 h2), hS.2.2⟩ hh hvm9 hcid _ rfl X6
  refine ⟨t, st1 _ ?_, b1⟩
  show Steps p.tables e below (T1.setTop { method := m, pc := pc + 3, locals := ls, stack := .ref T.heap.size :: rest, locked := none }) _
  jvm_step X₁.here [X₁.here.top, hexec, d3', Value.category]
  exact X₁.ldcString hexec (own := RX9) (text := text) (index := is) (a := sa) hown' hstr'.1 hstr'.2
    (g := { method := m, pc := pc + 4, locals := ls, stack := .ref T.heap.size :: .ref T.heap.size :: rest, locked := none }) rfl d4' _ (st _ a1)
theorem m_makeNW {cc : ByteArray} {pc : Nat} (hexec : p.tables.exec = Jvm.exec) (hb : c.code = cc) (hl : l.stackTraces = false) {text : String} {is sa : Nat} {A : Nat → Prop}
    (hown : s.vm.findClass RX9 = some m.cls) (hk : (Cond.classLink RX9 126 eNs).before args s = true) (hini : (Cond.initialized eNs).before args s = true) (hstr : vk_R RX9 is text sa s) (hat : ∀ w ∈ m_atN, w.before args s = true)
    (hgood : ∀ w ∈ Cond.classLink RX9 126 eNs :: Cond.initialized eNs :: m_atN, vx_ot w = true)
    (hU : vx_Zq Bundle.tN "UNASSIGNED_STACK" Bundle.steD A s s.heap) (hN : vx_Zq Bundle.tN "SUPPRESSED_SENTINEL" Bundle.listD A s s.heap) (hS : va_S A s.heap H locs) (hsize : ls.size = c.maxLocals)
    (d0 : decode cc pc = .ok (.new 126, 3)) (d3 : decode cc (pc + 3) = .ok (.dup, 1)) (d4 : decode cc (pc + 4) = .ok (.ldc_w is, 3)) (d6 : decode cc (pc + 7) = .ok (.invokespecial 130, 3))
    (hRframes : 5 < R.frames) (hRlocals : (rest.map fun v => v.category).sum + 82 ≤ R.locals) (hRcells : cells + 1 ≤ R.cells) (hRslots : slots + 6 ≤ R.slots)
    (kk : ∀ (q : Nat) (ce : Cell) (H1 : Heap), H.size ≤ H1.size → (∀ q : Nat, q < H.size → H1[q]? = H[q]?) → va_S A s.heap H1 locs → H1[q]? = some ce → ce.vm = .none → s.vm.findClass eNs = some ce.cls → W p l e R s m args below meth c H1 locs (cells + 1) (slots + 6) Q (F0 m (pc + 10) ls (.ref q :: rest))) :
    W p l e R s m args below meth c H locs cells slots Q (F0 m pc ls rest) := by
  intro T hT X
  subst hT
  have htr : e.platform.stackTraces = false := (show e.platform.stackTraces = l.stackTraces by rw [X.admits.platform]).trans hl
  have Y := vx_rebase X (R' := { frames := R.frames, locals := R.locals, cells := 1, slots := 6 }) (Nat.le_refl _) (Nat.le_refl _) hRcells hRslots
  obtain ⟨s', hA'⟩ : ∃ z, z = (T.setVm s.vm).setFrames (.invoking m args :: below) := ⟨_, rfl⟩
  rw [← hA'] at Y
  have hvm : s'.vm = s.vm := by rw [hA']; rfl
  have hhp : s'.heap = T.heap := by rw [hA']; rfl
  have hW0 : s.WarmedH s'.vm := by rw [hvm]; exact State.WarmedH.refl s
  have hat' : ∀ w ∈ m_atN, w.before args s' = true := fun w hw => vx_ot_at hW0 hvm.symm (hgood w (List.mem_cons_of_mem _ (List.mem_cons_of_mem _ hw))) (hat w hw)
  have hk' : (Cond.classLink RX9 126 eNs).before args s' = true := vx_ot_at hW0 hvm.symm (hgood _ List.mem_cons_self) hk
  have hini' : (Cond.initialized eNs).before args s' = true := vx_ot_at hW0 hvm.symm (hgood _ (List.mem_cons_of_mem _ List.mem_cons_self)) hini
  have hU' : vx_Zq Bundle.tN "UNASSIGNED_STACK" Bundle.steD A s' s'.heap := by rw [hhp]; exact vx_Zq.moved hW0.alike (hU.kept hS.2.1)
  have hN' : vx_Zq Bundle.tN "SUPPRESSED_SENTINEL" Bundle.listD A s' s'.heap := by rw [hhp]; exact vx_Zq.moved hW0.alike (hN.kept hS.2.1)
  have h : ∀ w ∈ m_ownN, w.before args s' = true := vx_own hat' (vx_isRefq hU'.1) (vx_isRefq hN'.1) hU'.2.word hN'.2.word
  have hown' : s'.vm.findClass RX9 = some m.cls := by rw [hvm]; exact hown
  have hins : (Cond.instantiable eNs 6).before args s' = true := h _ (by decide +kernel)
  obtain ⟨vm₁, cX, kX, hfX, hkX, -, -, X₁, st1⟩ := Y.newCold hexec (own := RX9) (C := eNs) (index := 126) (n := 6) hown' hk' hins hini'
    (g := F0 m pc ls rest) rfl (by rw [hb]; exact d0) (Nat.le_refl _) (Nat.le_refl _)
  generalize hT1 : (T.setVm vm₁).pushCell { cls := cX, slots := kX.instanceTypes.map defaultValue, vm := .none } = T1 at X₁ st1
  have hcat : (Value.ref T.heap.size).category = 1 := rfl
  have hcellA : T1.heap[T.heap.size]? = some (freshCell cX kX) := by rw [← hT1]; exact State.heap_pushCell_size _ _
  have d3' : decode c.code (pc + 3) = .ok (.dup, 1) := by rw [hb]; exact d3
  have d4' : decode c.code (pc + 4) = .ok (.ldc_w is, 3) := by rw [hb]; exact d4
  have hstr' : vk_R RX9 is text sa s' := vk_R.warm hW0 hstr
  obtain ⟨V, ce, L, Z, hL, hlt, hcl9, hvm9, st⟩ := m_ctorN X₁ hexec htr hown' h (fun x hx => nomatch hx) hfX hkX hcellA (by rw [hhp]; exact Nat.le_refl _) (msg := .ref sa) rfl
    (g := { method := m, pc := pc + 7, locals := ls, stack := .ref sa :: .ref T.heap.size :: .ref T.heap.size :: rest, locked := none }) rfl hsize (rest := rest) rfl
    (by rw [hb]; exact d6) hRframes (by simp only [List.map_cons, List.sum_cons, hcat]; omega)
  have Z0 := Stand.forget (locs := []) Z (fun y hy => by rw [hL y hy, hhp]; exact Nat.le_refl _)
  obtain ⟨f1, f2⟩ := vx_frame Z0.same
  rw [hhp] at f1 f2
  have hcid : s.vm.findClass eNs = some ce.cls := by
    rw [hcl9]
    rw [hvm] at hfX
    exact hfX
  have hh : (V.setCell T.heap.size ce).heap[T.heap.size]? = some ce := heapAt_setCell_self (s := V) ce hlt
  subst hA'
  have X5 := vx_back9 X Y Z0
  have X6 : Stand p l e R s m args below meth c (V.setCell T.heap.size ce) locs (cells + 1) (slots + 6) := { X5 with same := X5.same.mono (by omega) (by omega) }
  obtain ⟨t, a1, b1⟩ := kk T.heap.size ce (V.setCell T.heap.size ce).heap f1 (fun q h1 => f2 q h1 (fun z hz => nomatch hz)) ⟨Nat.le_trans hS.1 f1, fun q h1 h2 => (f2 q (Nat.lt_of_lt_of_le h1 hS.1) (fun z hz => nomatch hz)).trans (hS.2.1 q h1 h2), hS.2.2⟩ hh hvm9 hcid _ rfl X6
  refine ⟨t, st1 _ ?_, b1⟩
  show Steps p.tables e below (T1.setTop { method := m, pc := pc + 3, locals := ls, stack := .ref T.heap.size :: rest, locked := none }) _
  jvm_step X₁.here [X₁.here.top, hexec, d3', Value.category]
  exact X₁.ldcStringW hexec (own := RX9) (text := text) (index := is) (a := sa) hown' hstr'.1 hstr'.2
    (g := { method := m, pc := pc + 4, locals := ls, stack := .ref T.heap.size :: .ref T.heap.size :: rest, locked := none }) rfl d4' _ (st _ a1)
end
section
variable {D : va_G} {aC : Nat → ClassId} {s0 : State} {own : String} {cc : ByteArray} {nL : Nat} {p : Program} {l : Launch} {e : Env} {R : Room} {s : State} {m : MethodId} {args : Array Value} {below : List Frame} {meth : Method} {c : Code} {cells slots : Nat} {Q : State → Prop} {pc : Nat} {lv : List (Nat × Value)} {st : List Value} {M : m_M}
theorem m_thAtN (C : m_C D aC s0 own cc nL l p s m args meth c) (hX : m_TH s0) : ∀ w ∈ m_atN, w.before args s = true := by
  refine vx_hat (B := m_atN.filter (fun w => !goodWord w)) (fun w hw => C.2.2.2.2.1 w (thn_good w hw)) (fun w hw => hw) (fun w hw => ?_)
  have h0 := hX.2.1 w hw
  have hW := C.2.2.2.2.2.2.1.1
  rcases isDC_e (thn_dc w hw) with ⟨x, rfl⟩ | ⟨a, b, rfl⟩
  · exact (va_Nw.warmD hW h0).use rfl
  · exact (va_Nw.warmC hW h0).use rfl
theorem m_thn (C : m_C D aC s0 RX9 cc nL l p s m args meth c) {post : Option Value → m_M → Prop} {px : String → m_M → Prop} {mc ms is : Nat} {text : String} (hX : m_TH s0) (ht : (is, text) ∈ thrT) (hk : Cond.classLink RX9 126 eNs ∈ lwg) (hini : Cond.initialized eNs ∈ lwg) (hg : vx_ot (Cond.classLink RX9 126 eNs) = true ∧ vx_ot (Cond.initialized eNs) = true) (d0 : decode cc pc = .ok (.new 126, 3)) (d3 : decode cc (pc + 3) = .ok (.dup, 1)) (d4 : decode cc (pc + 4) = .ok (.ldc is, 2)) (d6 : decode cc (pc + 6) = .ok (.invokespecial 130, 3)) (d9 : decode cc (pc + 9) = .ok (.athrow, 1))
    (hno : ∀ x ∈ c.exceptionTable.toList, False) (hRf : 5 < R.frames) (hRl : (st.map fun v => v.category).sum + 82 ≤ R.locals) (hRc : cells + 1 ≤ R.cells) (hRs : slots + 6 ≤ R.slots) (hc : cells + 1 ≤ mc) (hs : slots + 6 ≤ ms) (hpx : ∀ M' : m_M, M.1 ≤ M'.1 → M'.2 = M.2 → px eNs M') : m_W D aC s0 nL p l e R s m args below meth c cells slots (m_Q D aC s0 below post px args s mc ms) pc lv st M := by
  intro H locs ls h1 h2 h3
  have hF := C.2.2.2.2.2.2.2.1
  have hZ := C.2.2.2.2.2.2.1
  obtain ⟨sa, hstr⟩ := hX.2.2 _ ht
  refine m_makeN C.1 C.2.1 C.2.2.2.2.2.2.2.2 C.2.2.2.1 (C.2.2.2.2.1 _ hk) (C.2.2.2.2.1 _ hini) (vk_R.warm hZ.1 hstr) (m_thAtN C hX) ?_ ((vx_Zq.moved hZ.1.alike hF.2.1).kept (fun a ha _ => hZ.2.2 a ha)) ((vx_Zq.moved hZ.1.alike hF.2.2.1).kept (fun a ha _ => hZ.2.2 a ha)) h3 (h1.1.trans C.2.2.1.symm) d0 d3 d4 d6 hRf hRl hRc hRs (fun q9 ce H1 z1 z2 z3 hce hcv hcl => ?_)
  · intro w hw
    rcases List.mem_cons.mp hw with rfl | hw
    · exact hg.1
    · rcases List.mem_cons.mp hw with rfl | hw
      · exact hg.2
      · exact thn_ot _ hw
  · refine vx_athrow C.1 C.2.1 d9 (vx_out (fun x hx => (hno x hx).elim) C.2.2.2.2.2.1 hce hcv hcl (fun t ht hal => ⟨⟨(t.heap.size, M.2), hpx _ (by show M.1 ≤ t.heap.size; rw [ht, ← h2.1]; exact z1) rfl, rfl, fun a e hM => ?_⟩, ?_⟩) z3.2.2 hc hs)
    · exact (h2.2 a e hM).kept (by rw [ht]; exact z2 a (h2.2 a e hM).lt)
    · exact z3.F ht
theorem m_thnW (C : m_C D aC s0 RX9 cc nL l p s m args meth c) {post : Option Value → m_M → Prop} {px : String → m_M → Prop} {mc ms is : Nat} {text : String} (hX : m_TH s0) (ht : (is, text) ∈ thrT) (hk : Cond.classLink RX9 126 eNs ∈ lwg) (hini : Cond.initialized eNs ∈ lwg) (hg : vx_ot (Cond.classLink RX9 126 eNs) = true ∧ vx_ot (Cond.initialized eNs) = true) (d0 : decode cc pc = .ok (.new 126, 3)) (d3 : decode cc (pc + 3) = .ok (.dup, 1)) (d4 : decode cc (pc + 4) = .ok (.ldc_w is, 3)) (d6 : decode cc (pc + 7) = .ok (.invokespecial 130, 3)) (d9 : decode cc (pc + 10) = .ok (.athrow, 1))
    (hno : ∀ x ∈ c.exceptionTable.toList, False) (hRf : 5 < R.frames) (hRl : (st.map fun v => v.category).sum + 82 ≤ R.locals) (hRc : cells + 1 ≤ R.cells) (hRs : slots + 6 ≤ R.slots) (hc : cells + 1 ≤ mc) (hs : slots + 6 ≤ ms) (hpx : ∀ M' : m_M, M.1 ≤ M'.1 → M'.2 = M.2 → px eNs M') : m_W D aC s0 nL p l e R s m args below meth c cells slots (m_Q D aC s0 below post px args s mc ms) pc lv st M := by
  intro H locs ls h1 h2 h3
  have hF := C.2.2.2.2.2.2.2.1
  have hZ := C.2.2.2.2.2.2.1
  obtain ⟨sa, hstr⟩ := hX.2.2 _ ht
  refine m_makeNW C.1 C.2.1 C.2.2.2.2.2.2.2.2 C.2.2.2.1 (C.2.2.2.2.1 _ hk) (C.2.2.2.2.1 _ hini) (vk_R.warm hZ.1 hstr) (m_thAtN C hX) ?_ ((vx_Zq.moved hZ.1.alike hF.2.1).kept (fun a ha _ => hZ.2.2 a ha)) ((vx_Zq.moved hZ.1.alike hF.2.2.1).kept (fun a ha _ => hZ.2.2 a ha)) h3 (h1.1.trans C.2.2.1.symm) d0 d3 d4 d6 hRf hRl hRc hRs (fun q9 ce H1 z1 z2 z3 hce hcv hcl => ?_)
  · intro w hw
    rcases List.mem_cons.mp hw with rfl | hw
    · exact hg.1
    · rcases List.mem_cons.mp hw with rfl | hw
      · exact hg.2
      · exact thn_ot _ hw
  · refine vx_athrow C.1 C.2.1 d9 (vx_out (fun x hx => (hno x hx).elim) C.2.2.2.2.2.1 hce hcv hcl (fun t ht hal => ⟨⟨(t.heap.size, M.2), hpx _ (by show M.1 ≤ t.heap.size; rw [ht, ← h2.1]; exact z1) rfl, rfl, fun a e hM => ?_⟩, ?_⟩) z3.2.2 hc hs)
    · exact (h2.2 a e hM).kept (by rw [ht]; exact z2 a (h2.2 a e hM).lt)
    · exact z3.F ht
end
