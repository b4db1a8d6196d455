/-! methods of the law with handlers: they always return -/
def m_wsW (y : MethodName) (cc : ByteArray) (nL : Nat) (ret : Option FieldType) (hh : List (Nat × Nat × Nat × Nat)) : List Cond := .codeWith y cc nL ret hh :: lwg
def m_cdW (y : MethodName) (cc : ByteArray) (nL : Nat) (ret : Option FieldType) (hh : List (Nat × Nat × Nat × Nat)) (n : Nat) : Prop := Cond.codeWith y cc nL ret hh ∈ lwg ∧ Cond.initialized y.cls ∈ lwg ∧ m_np y n
def m_MetW (D : va_G) (aC : Nat → ClassId) (s0 : State) (l : Launch) (y : MethodName) (cc : ByteArray) (nL : Nat) (ret : Option FieldType) (hh : List (Nat × Nat × Nat × Nat)) (d mc ms : Nat) (As : List Value) (M : m_M) (post : Option Value → m_M → Prop) : Prop :=
  Met l y (m_wsW y cc nL ret hh) (m_R d mc ms) (m_Pc D aC s0 As M) (m_Qc D aC s0 post) mc ms (m_A s0)
def xN : List String := [eI, eA, eS, eU, eN]
def m_NC (s0 : State) : Prop := (∀ E ∈ xN, va_Nw (.castable E E) s0) ∧ ∀ E ∈ xN, ∀ nm ∈ xN, nm ≠ E → va_Nc E nm s0
def ctW (ct : Nat) (E : String) : Prop := ct ≠ 0 ∧ Cond.classLink RL ct E ∈ lwg ∧ E ∈ xN
theorem ct_I : ctW 64 eI := ⟨by decide, kk_L_64, by decide⟩
theorem ct_A : ctW 66 eA := ⟨by decide, kk_L_66, by decide⟩
theorem ct_S : ctW 68 eS := ⟨by decide, kk_L_68, by decide⟩
theorem ct_U : ctW 70 eU := ⟨by decide, kk_L_70, by decide⟩
theorem ct_N : ctW 72 eN := ⟨by decide, kk_L_72, by decide⟩
section m_WRAP
variable {D : va_G} {aC : Nat → ClassId} {s0 : State} {own : String} {cc : ByteArray} {nL : Nat} {p : Program} {l : Launch} {e : Env} {R : Room} {s : State} {m : MethodId} {args : Array Value} {below : List Frame} {meth : Method} {c : Code} {cells slots : Nat} {Q : State → Prop} {pc : Nat} {lv : List (Nat × Value)} {st : List Value} {M : m_M}
theorem m_entryW {y : MethodName} {ret : Option FieldType} {hh : List (Nat × Nat × Nat × Nat)} {d mc ms : Nat} {As : List Value} {post : Option Value → m_M → Prop} (hy : plainName y.cls = true) (hlen : (lg_sl As).length ≤ nL) (hlv : lv_args 0 As = lv) (hF : m_F D aC s0) (hl : l.stackTraces = false)
    (body : ∀ (p : Program) (e : Env) (s : State) (m : MethodId) (args : Array Value) (below : List Frame) (meth : Method) (c : Code), m_C D aC s0 y.cls cc nL l p s m args meth c → meth.sig.returnType = ret → c.exceptionTable.toList = tableOf hh →
      m_W D aC s0 nL p l e (m_R d mc ms) s m args below meth c 0 0 (m_Q D aC s0 below post m_nx args s mc ms) 0 lv [] M) : m_MetW D aC s0 l y cc nL ret hh d mc ms As M post := by
  refine va_MetW (cc := cc) (maxL := nL) (ret := ret) (hh := hh) hy rfl ?_
  intro p e s m args below meth c s₁ B hml hv
  obtain ⟨rfl, hZ, hH⟩ := hv
  have hts0 := atoms_spec (ws := m_wsW y cc nL ret hh) B.pre
  have hts : ∀ w ∈ lwg, w.before As.toArray s = true := fun w hw => hts0 w (List.mem_cons_of_mem _ hw)
  have htab := vx_table (x := y) B (hts0 _ List.mem_cons_self)
  have hown : s.vm.findClass y.cls = some m.cls := findClass_of_methodNamed B.named
  have hlo := lv_entry As (n := nL) hlen
  rw [hlv] at hlo
  rw [lg_entry_eq]
  have k := body p e s m As.toArray below meth c ⟨B.exec, B.bytes, hml, hown, hts, B.notSynchronized, hZ, hF, hl⟩ B.returns htab s.heap [] _ hlo hH va_S.rf
  intro T hT X
  obtain ⟨t, a1, o, b1, b2, b3⟩ := k T hT X
  refine ⟨t, a1, o, b1, b2, ?_⟩
  rcases b3 with b3 | ⟨q, -, E, ce, L, hx, -⟩
  · exact b3
  · obtain ⟨⟨M', hM', -⟩, -⟩ := hx
    exact hM'.elim
theorem m_afterV {post : Option Value → m_M → Prop} {mc ms : Nat} {a : Array Value} {H : Heap} {locs : List Loc} {ls : Array Slot} {rest st0 : List Value} (hr : va_Run p l e R s m args below meth c H locs cells slots mc ms (F0 m pc ls st0) rest (m_Qc D aC s0 post a) (m_A s0)) (h1 : lv_has ls nL lv) (hS : va_S (m_A s0) s.heap H locs)
    (kk : ∀ (v : Option Value) (M' : m_M), post v M' → m_W D aC s0 nL p l e R s m args below meth c (cells + mc) (slots + ms) Q (pc + 3) lv (v.toList ++ rest) M') : W p l e R s m args below meth c H locs cells slots Q (F0 m pc ls st0) := by
  intro T hT X
  obtain ⟨v, st₀, t, T', L, h0, X', hL, e1, e2, ⟨⟨v', M', hv, hp, hb⟩, hF⟩, st⟩ := hr T hT X
  cases hv
  obtain ⟨k1, k2, k3⟩ := vx_keep h0 e1 hS (fun _ _ h => h) (fun _ h => h) hL hF
  obtain ⟨t2, a1, b1⟩ := kk _ _ hp T'.heap (locs ++ L) ls h1 (by rw [e1]; exact hb) k3 T' rfl X'
  exact ⟨t2, st t2 a1, b1⟩
theorem m_goodW (y : MethodName) {bytes : ByteArray} {nLc : Nat} {ret : Option FieldType} {hh : List (Nat × Nat × Nat × Nat)} (h : Cond.codeWith y bytes nLc ret hh ∈ lwg) : GoodIn lwg (m_wsW y bytes nLc ret hh) := fun w hw => by
  rcases List.mem_cons.mp hw with rfl | hw
  · exact ⟨h, lwg_good h⟩
  · exact ⟨hw, lwg_good hw⟩
theorem m_callSW (C : m_C D aC s0 own cc nL l p s m args meth c) {idx : Nat} {y : MethodName} {bytes : ByteArray} {nLc n d mc ms : Nat} {ret : Option FieldType} {hh : List (Nat × Nat × Nat × Nat)} {As rest st0 : List Value} {post : Option Value → m_M → Prop} (hM : m_MetW D aC s0 l y bytes nLc ret hh d mc ms As M post) (hd : decode cc pc = .ok (.invokestatic idx, 3)) (hcd : m_cdW y bytes nLc ret hh n) (hlk : m_lkS own idx y) (hn : As.length = n) (hst : st0 = As.reverse ++ rest) (hW : (rest.map fun v => v.category).sum ≤ 8)
    (hfr : d + 1 ≤ R.frames ∧ 8 + (nLc + 11) + 100 * (d + 1) ≤ R.locals) (hf : cells + mc ≤ R.cells ∧ slots + ms ≤ R.slots)
    (kk : ∀ (v : Option Value) (M' : m_M), post v M' → m_W D aC s0 nL p l e R s m args below meth c (cells + mc) (slots + ms) Q (pc + 3) lv (v.toList ++ rest) M') : m_W D aC s0 nL p l e R s m args below meth c cells slots Q pc lv st0 M := by
  intro H locs ls h1 h2 h3
  have ht := C.2.2.2.2.1
  have cw : vx_CSW R s args own idx y bytes nLc ret hh (m_wsW y bytes nLc ret hh) (m_R d mc ms) mc ms n := ⟨⟨rfl, rfl, hfr.1, hfr.2, pay_in ht (m_goodW y hcd.1), List.mem_cons_self⟩, ht _ hcd.1, ht _ hcd.2.1, ⟨hcd.2.2.1, hcd.2.2.2.1⟩, fun sig h => by
    have h2 := hcd.2.2.2.2
    rw [h] at h2
    exact (Option.some.inj h2).symm, ht _ hlk.1, ht _ hlk.2⟩
  exact m_afterV (vx_runSW (As := As) (rest := rest) (m_fix C) hM cw (m_preS C h2 h3) rfl hn h1.1 hst (by show 2 * 0 + _ ≤ 8; omega) hd hf) h1 h3 kk
/-- what a call throws goes to the row that takes it -/
theorem m_catch (C : m_C D aC s0 RL cc nL l p s m args meth c) (hN : m_NC s0) {hh pre suf : List (Nat × Nat × Nat × Nat)} {z : Nat × Nat × Nat × Nat} {E : String} (ht : c.exceptionTable.toList = tableOf hh) (hs : hh = pre ++ z :: suf) (hz : ctW z.2.2.2 E) (hp : ∀ y ∈ pre, ∃ nm, ctW y.2.2.2 nm ∧ nm ≠ E) (hpc : z.1 ≤ pc ∧ pc < z.2.1) {M' : m_M} {ce : Cell} {q9 : Addr} {H1 : Heap} {locs1 : List Loc} {ls : Array Slot} {rest : List Value} (h1 : lv_has ls nL lv) (hH : m_H D aC M' H1) (hS : va_S (m_A s0) s.heap H1 locs1) (hce : H1[q9]? = some ce) (hcv : ce.vm = .none) (hcl : s.vm.findClass E = some ce.cls)
    (kk : m_W D aC s0 nL p l e R s m args below meth c cells slots Q z.2.2.1 lv [.ref q9] M') : vx_W p l e R s m args below meth c H1 locs1 cells slots Q (F0 m pc ls rest) q9 := by
  obtain ⟨hx0, hx1, hx3⟩ := hz
  have hx2 : (Cond.castable E E).before args s = true := va_Nw.use rfl (va_Nw.warmC C.2.2.2.2.2.2.1.1 (hN.1 E hx3))
  have hts := C.2.2.2.2.1
  refine vx_catch (name := E) C.2.2.2.1 (tableOf pre) ⟨z.1, z.2.1, z.2.2.1, z.2.2.2⟩ (tableOf suf) (by rw [ht, hs]; simp [tableOf]) (fun y hy => ?_) (by simp [covers]; exact hpc) hx0 (hts _ hx1) hx2 hce hcv hcl (kk H1 locs1 ls h1 hH hS)
  obtain ⟨y0, hy0, rfl⟩ := List.mem_map.mp hy
  obtain ⟨nm, ⟨n0, n1, n3⟩, hne⟩ := hp y0 hy0
  exact Or.inr ⟨n0, nm, hts _ n1, (hN.2 E hx3 nm n3 hne).moved C.2.2.2.2.2.2.1.1.alike⟩
end m_WRAP
