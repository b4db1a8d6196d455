theorem m_selp {y : MethodName} {cn : String} {s : State} {args : Array Value} {n : Nat} (hy : y.cls ≠ "java/lang/invoke/MethodHandle" ∧ y.cls ≠ "java/lang/invoke/VarHandle")
    (hins : (Cond.instantiable cn n).before args s = true) (hpriv : (Cond.privateMethod y).before args s = true) (hinst : (Cond.instanceMethod y).before args s = true) {z : MethodName} (hz : z.cls = y.cls) (hsz : (Cond.selects cn z z).before args s = true) (hiz : (Cond.instanceMethod z).before args s = true) :
    (Cond.selects cn y y).before args s = true := by
  obtain ⟨c, k, hc, hk, -, hniab, -, -⟩ := Cond.instantiable_spec hins
  have hni : k.isInterface = false := (Bool.or_eq_false_iff.mp hniab).1
  obtain ⟨mk, methM, hnamed, hmethM, -, -⟩ := Cond.instanceMethod_spec hinst
  have hfound : s.methodFound? y.cls y.name y.desc = some mk := State.methodFound?_of_named hnamed hy
  have hsel : selectMethod {} s.vm c mk = .method mk := selectMethod_private hmethM (Cond.privateMethod_at hpriv mk methM hnamed hmethM)
  simp only [Cond.before, Cond.holds, Cond.value, hc, hfound, hnamed, hsel, hk]
  simp
  obtain ⟨mk2, methM2, hnamed2, hmethM2, -, -⟩ := Cond.instanceMethod_spec hiz
  have hfound2 : s.methodFound? z.cls z.name z.desc = some mk2 := State.methodFound?_of_named hnamed2 (by rw [hz]; exact hy)
  have e1 := findClass_of_methodNamed hnamed
  have e2 := findClass_of_methodNamed hnamed2
  rw [hz] at e2
  have e3 : mk.cls = mk2.cls := Option.some.inj (e1.symm.trans e2)
  rw [e3]
  simp only [Cond.before, Cond.holds, Cond.value, hc, hfound2, hnamed2, hk] at hsz
  simp at hsz
  split at hsz
  · exact (Bool.and_eq_true_iff.mp hsz).2
  · cases hsz

section
variable {D : va_G} {aC : Nat → ClassId} {s0 : State} {own : String} {cc : ByteArray} {nL : Nat} {p : Program} {l : Launch} {e : Env} {R : Room} {s : State} {m : MethodId} {args : Array Value} {below : List Frame} {meth : Method} {c : Code} {cells slots : Nat} {Q : State → Prop} {pc : Nat} {lv : List (Nat × Value)} {st : List Value} {M : m_M}
def m_lkU (s0 : State) (own : String) (idx : Nat) (cn : String) (x y : MethodName) : Prop := Cond.methodLink own idx x ∈ lwg ∧ Cond.sameMethod x.cls y.cls x.name x.desc ∈ lwg ∧ Cond.instanceMethod y ∈ lwg ∧ y = ⟨y.cls, x.name, x.desc⟩ ∧ ∀ (args : Array Value) (s : State), (∀ w ∈ lwg, w.before args s = true) → s0.WarmedH s.vm → (Cond.selects cn x y).before args s = true
def m_lkP (own : String) (idx : Nat) (y : MethodName) : Prop := Cond.methodLink own idx y ∈ lwg ∧ Cond.sameMethod y.cls y.cls y.name y.desc ∈ lwg ∧ Cond.superclass own y.cls ∈ lwg ∧ Cond.instanceMethod y ∈ lwg ∧ y.name ≠ "<init>"
theorem m_old (C : m_C D aC s0 own cc nL l p s m args meth c) {b : Nat} {cn : String} (h : va_O cn b (m_A s0) s0 s0.heap) : ∀ (H : Heap) (locs : List Loc), m_H D aC M H → va_S (m_A s0) s.heap H locs → ∃ cellB : Cell, H[b]? = some cellB ∧ cellB.vm.isStatics = false ∧ s.vm.findClass cn = some cellB.cls := by
  intro H locs _ h3
  obtain ⟨cell, g1, g2, g3, g4⟩ := ((va_O.moved C.2.2.2.2.2.2.1.1.alike h).kept (fun a ha _ => C.2.2.2.2.2.2.1.2.2 a ha))
  exact ⟨cell, by rw [h3.2.1 b (Array.getElem?_eq_some_iff.mp g1).1 g4]; exact g1, g2, g3⟩
theorem m_obr (C : m_C D aC s0 own cc nL l p s m args meth c) {b ci : Nat} {fs : List Value} {q : vw_C} (hb : M.2 b = some (m_ob ci fs)) (hc : vwCl[ci]? = some q) : ∀ (H : Heap) (locs : List Loc), m_H D aC M H → va_S (m_A s0) s.heap H locs → ∃ cellB : Cell, H[b]? = some cellB ∧ cellB.vm.isStatics = false ∧ s.vm.findClass q.1 = some cellB.cls := fun _ _ h2 h3 => m_recv C h2 h3 hb hc
theorem m_callVr (C : m_C D aC s0 own cc nL l p s m args meth c) {idx : Nat} {y : MethodName} {bytes : ByteArray} {nLc n d mc ms b : Nat} {ret : Option FieldType} {As rest st0 : List Value} {cn : String} {post : Option Value → m_M → Prop} {px : String → m_M → Prop} (hM : m_Met D aC s0 l y bytes nLc ret d mc ms (.ref b :: As) M post px) (hd : decode cc pc = .ok (.invokevirtual idx, 3)) (hcd : m_cd y bytes nLc ret n) (hlk : m_lkV own idx y) (hq : cn = y.cls) (hrv : ∀ (H : Heap) (locs : List Loc), m_H D aC M H → va_S (m_A s0) s.heap H locs → ∃ cellB : Cell, H[b]? = some cellB ∧ cellB.vm.isStatics = false ∧ s.vm.findClass cn = some cellB.cls) (hn : As.length = n) (hst : st0 = As.reverse ++ .ref b :: rest) (hW : (rest.map fun v => v.category).sum ≤ 8)
    (hfr : d + 1 ≤ R.frames ∧ 8 + (nLc + 11) + 100 * (d + 1) ≤ R.locals) (hf : cells + mc ≤ R.cells ∧ slots + ms ≤ R.slots)
    (kx : ∀ (E : String) (M' : m_M) (ce : Cell) (q9 : Addr) (H1 : Heap) (locs1 : List Loc) (ls : Array Slot), lv_has ls nL lv → px E M' → m_H D aC M' H1 → va_S (m_A s0) s.heap H1 locs1 → H1[q9]? = some ce → ce.vm = .none → s.vm.findClass E = some ce.cls → vx_W p l e R s m args below meth c H1 locs1 (cells + mc) (slots + ms) Q (F0 m pc ls rest) q9)
    (kk : ∀ (v : Option Value) (M' : m_M), post v M' → m_W D aC s0 nL p l e R s m args below meth c (cells + mc) (slots + ms) Q (pc + 3) lv (v.toList ++ rest) M') : m_W D aC s0 nL p l e R s m args below meth c cells slots Q pc lv st0 M := by
  intro H locs ls h1 h2 h3
  have hpS := m_preS C (As := .ref b :: As) h2 h3
  subst hq
  exact m_after (vx_runV (C := y.cls) (As := As) (b := b) (rest := rest) (m_fix C) hM ⟨m_callB C hcd hlk.1 hfr, C.2.2.2.2.1 _ hlk.2.1, C.2.2.2.2.1 _ hlk.2.2⟩ ⟨hpS.1, hrv H locs h2 h3, hpS.2⟩ rfl hn h1.1 hst (by show 2 * 0 + _ ≤ 8; omega) hd hf) h1 h3 (fun E M' ce q9 H1 locs1 a1 a2 a3 a4 a5 a6 => kx E M' ce q9 H1 locs1 ls h1 a1 a2 a3 a4 a5 a6) kk
theorem m_callU (C : m_C D aC s0 own cc nL l p s m args meth c) {idx : Nat} {y : MethodName} {bytes : ByteArray} {nLc n d mc ms b : Nat} {ret : Option FieldType} {As rest st0 : List Value} {cn : String} {post : Option Value → m_M → Prop} {px : String → m_M → Prop} (hM : m_Met D aC s0 l y bytes nLc ret d mc ms (.ref b :: As) M post px) {x : MethodName} (hd : decode cc pc = .ok (.invokevirtual idx, 3)) (hcd : m_cd y bytes nLc ret n) (hlk : m_lkU s0 own idx cn x y) (hrv : ∀ (H : Heap) (locs : List Loc), m_H D aC M H → va_S (m_A s0) s.heap H locs → ∃ cellB : Cell, H[b]? = some cellB ∧ cellB.vm.isStatics = false ∧ s.vm.findClass cn = some cellB.cls) (hn : As.length = n) (hst : st0 = As.reverse ++ .ref b :: rest) (hW : (rest.map fun v => v.category).sum ≤ 8)
    (hfr : d + 1 ≤ R.frames ∧ 8 + (nLc + 11) + 100 * (d + 1) ≤ R.locals) (hf : cells + mc ≤ R.cells ∧ slots + ms ≤ R.slots)
    (kx : ∀ (E : String) (M' : m_M) (ce : Cell) (q9 : Addr) (H1 : Heap) (locs1 : List Loc) (ls : Array Slot), lv_has ls nL lv → px E M' → m_H D aC M' H1 → va_S (m_A s0) s.heap H1 locs1 → H1[q9]? = some ce → ce.vm = .none → s.vm.findClass E = some ce.cls → vx_W p l e R s m args below meth c H1 locs1 (cells + mc) (slots + ms) Q (F0 m pc ls rest) q9)
    (kk : ∀ (v : Option Value) (M' : m_M), post v M' → m_W D aC s0 nL p l e R s m args below meth c (cells + mc) (slots + ms) Q (pc + 3) lv (v.toList ++ rest) M') : m_W D aC s0 nL p l e R s m args below meth c cells slots Q pc lv st0 M := by
  intro H locs ls h1 h2 h3
  have hpS := m_preS C (As := .ref b :: As) h2 h3
  have hts := C.2.2.2.2.1
  have hcw : va_CU R s args own cn y.cls idx x y bytes nLc ret (m_ws y bytes nLc ret) (m_R d mc ms) mc ms n := by
    refine ⟨⟨rfl, rfl, hfr.1, hfr.2, pay_in hts (m_good y hcd.1), List.mem_cons_self⟩, hts _ hcd.1, hts _ hcd.2.1, ⟨hcd.2.2.1, hcd.2.2.2.1⟩, fun sig h => ?_, hts _ hlk.1, hts _ hlk.2.1, by rw [← hlk.2.2.2.1]; exact va_Decl.of (hts _ hlk.2.2.1) (hts _ hcd.1), hlk.2.2.2.2 args s hts C.2.2.2.2.2.2.1.1, hts _ hlk.2.2.1⟩
    have h2 := hcd.2.2.2.2
    rw [hlk.2.2.2.1] at h2
    rw [h] at h2
    exact (Option.some.inj h2).symm
  exact m_after (vx_runU (C := cn) (As := As) (b := b) (rest := rest) (m_fix C) hM hcw ⟨hpS.1, hrv H locs h2 h3, hpS.2⟩ rfl hn h1.1 hst (by show 2 * 0 + _ ≤ 8; omega) hd hf) h1 h3 (fun E M' ce q9 H1 locs1 a1 a2 a3 a4 a5 a6 => kx E M' ce q9 H1 locs1 ls h1 a1 a2 a3 a4 a5 a6) kk
theorem m_callP (C : m_C D aC s0 own cc nL l p s m args meth c) {idx : Nat} {y : MethodName} {bytes : ByteArray} {nLc n d mc ms b ci : Nat} {ret : Option FieldType} {As rest st0 fs : List Value} {q : vw_C} {post : Option Value → m_M → Prop} {px : String → m_M → Prop} (hM : m_Met D aC s0 l y bytes nLc ret d mc ms (.ref b :: As) M post px) (hd : decode cc pc = .ok (.invokespecial idx, 3)) (hcd : m_cd y bytes nLc ret n) (hlk : m_lkP own idx y) (hb : M.2 b = some (m_ob ci fs)) (hc : vwCl[ci]? = some q) (hn : As.length = n) (hst : st0 = As.reverse ++ .ref b :: rest) (hW : (rest.map fun v => v.category).sum ≤ 8)
    (hfr : d + 1 ≤ R.frames ∧ 8 + (nLc + 11) + 100 * (d + 1) ≤ R.locals) (hf : cells + mc ≤ R.cells ∧ slots + ms ≤ R.slots)
    (kx : ∀ (E : String) (M' : m_M) (ce : Cell) (q9 : Addr) (H1 : Heap) (locs1 : List Loc) (ls : Array Slot), lv_has ls nL lv → px E M' → m_H D aC M' H1 → va_S (m_A s0) s.heap H1 locs1 → H1[q9]? = some ce → ce.vm = .none → s.vm.findClass E = some ce.cls → vx_W p l e R s m args below meth c H1 locs1 (cells + mc) (slots + ms) Q (F0 m pc ls rest) q9)
    (kk : ∀ (v : Option Value) (M' : m_M), post v M' → m_W D aC s0 nL p l e R s m args below meth c (cells + mc) (slots + ms) Q (pc + 3) lv (v.toList ++ rest) M') : m_W D aC s0 nL p l e R s m args below meth c cells slots Q pc lv st0 M := by
  intro H locs ls h1 h2 h3
  have hpS := m_preS C (As := .ref b :: As) h2 h3
  have hts := C.2.2.2.2.1
  have hK := m_Ks C.2.2.2.2.2.2.2.1 C.2.2.2.2.2.2.1
  have hcw : va_CS R s args own idx y bytes nLc ret (m_ws y bytes nLc ret) (m_R d mc ms) mc ms n := by
    refine ⟨⟨rfl, rfl, hfr.1, hfr.2, pay_in hts (m_good y hcd.1), List.mem_cons_self⟩, hts _ hlk.1, hts _ hlk.2.1, hts _ hlk.2.2.1, hts _ hlk.2.2.2.1, hts _ hcd.2.1, hts _ hcd.1, hlk.2.2.2.2, fun sig h => ?_⟩
    have h2 := hcd.2.2.2.2
    rw [h] at h2
    exact (Option.some.inj h2).symm
  exact m_after (vx_runSU (C := q.1) (As := As) (b := b) (rest := rest) (hK.1 ci q hc).2 (m_fix C) hM hcw ⟨hpS.1, m_recv C h2 h3 hb hc, hpS.2⟩ rfl hn h1.1 hst (by show 2 * 0 + _ ≤ 8; omega) hd hf) h1 h3 (fun E M' ce q9 H1 locs1 a1 a2 a3 a4 a5 a6 => kx E M' ce q9 H1 locs1 ls h1 a1 a2 a3 a4 a5 a6) kk
end
theorem kU_J5_83 {s0 : State} : m_lkU s0 RJ5 83 RJ4 yJ5_isLatin1_aae02 yJ5_isLatin1_aae02 := ⟨(lwg_of (List.mem_append_right _ (List.mem_of_getElem? (i := 864) (by decide +kernel))) rfl), (lwg_of (List.mem_append_right _ (List.mem_of_getElem? (i := 866) (by decide +kernel))) rfl), (lwg_of (List.mem_append_right _ (List.mem_of_getElem? (i := 865) (by decide +kernel))) rfl), rfl, fun _ _ h _ => h _ (lwg_of (List.mem_append_right _ (List.mem_of_getElem? (i := 867) (by decide +kernel))) rfl)⟩
theorem kU_J5_100 {s0 : State} {fo ks vs : Nat → Nat} {fA sA dO dT : Nat} (h : m_J s0 fo ks vs fA sA dO dT) : m_lkU s0 RJ5 100 RJ4 yJ5_ensureCapacityInternal_d00df yJ5_ensureCapacityInternal_d00df := ⟨(lwg_of (List.mem_append_right _ (List.mem_of_getElem? (i := 833) (by decide +kernel))) rfl), (lwg_of (List.mem_append_right _ (List.mem_of_getElem? (i := 1410) (by decide +kernel))) rfl), (lwg_of (List.mem_append_right _ (List.mem_of_getElem? (i := 835) (by decide +kernel))) rfl), rfl, fun _ _ _ hW => word_at hW (Or.inl rfl) h.s1⟩
theorem kU_J5_104 {s0 : State} {fo ks vs : Nat → Nat} {fA sA dO dT : Nat} (h : m_J s0 fo ks vs fA sA dO dT) : m_lkU s0 RJ5 104 RJ4 yJ5_newCapacity_0f7a4 yJ5_newCapacity_0f7a4 := ⟨(lwg_of (List.mem_append_right _ (List.mem_of_getElem? (i := 837) (by decide +kernel))) rfl), (lwg_of (List.mem_append_right _ (List.mem_of_getElem? (i := 1411) (by decide +kernel))) rfl), (lwg_of (List.mem_append_right _ (List.mem_of_getElem? (i := 839) (by decide +kernel))) rfl), rfl, fun _ _ _ hW => word_at hW (Or.inl rfl) h.s2⟩
theorem kP_J4_333 : m_lkP RJ4 333 yJ5_setLength_d00df := ⟨(lwg_of (List.mem_append_right _ (List.mem_of_getElem? (i := 811) (by decide +kernel))) rfl), (lwg_of (List.mem_append_right _ (List.mem_of_getElem? (i := 1407) (by decide +kernel))) rfl), (lwg_of (List.mem_append_right _ (List.mem_of_getElem? (i := 254) (by decide +kernel))) rfl), (lwg_of (List.mem_append_right _ (List.mem_of_getElem? (i := 812) (by decide +kernel))) rfl), by decide⟩
theorem kP_J4_53 : m_lkP RJ4 53 yJ5_append_c97b9 := ⟨(lwg_of (List.mem_append_right _ (List.mem_of_getElem? (i := 923) (by decide +kernel))) rfl), (lwg_of (List.mem_append_right _ (List.mem_of_getElem? (i := 1415) (by decide +kernel))) rfl), (lwg_of (List.mem_append_right _ (List.mem_of_getElem? (i := 254) (by decide +kernel))) rfl), (lwg_of (List.mem_append_right _ (List.mem_of_getElem? (i := 924) (by decide +kernel))) rfl), by decide⟩
theorem kP_J4_343 : m_lkP RJ4 343 yJ5_length_8abf5 := ⟨(lwg_of (List.mem_append_right _ (List.mem_of_getElem? (i := 781) (by decide +kernel))) rfl), (lwg_of (List.mem_append_right _ (List.mem_of_getElem? (i := 1405) (by decide +kernel))) rfl), (lwg_of (List.mem_append_right _ (List.mem_of_getElem? (i := 254) (by decide +kernel))) rfl), (lwg_of (List.mem_append_right _ (List.mem_of_getElem? (i := 782) (by decide +kernel))) rfl), by decide⟩
theorem kP_J4_50 : m_lkP RJ4 50 yJ5_append_3fe6f := ⟨(lwg_of (List.mem_append_right _ (List.mem_of_getElem? (i := 1276) (by decide +kernel))) rfl), (lwg_of (List.mem_append_right _ (List.mem_of_getElem? (i := 1417) (by decide +kernel))) rfl), (lwg_of (List.mem_append_right _ (List.mem_of_getElem? (i := 254) (by decide +kernel))) rfl), (lwg_of (List.mem_append_right _ (List.mem_of_getElem? (i := 1277) (by decide +kernel))) rfl), by decide⟩
theorem kP_J4_329 : m_lkP RJ4 329 yJ5_charAt_5068e := ⟨(lwg_of (List.mem_append_right _ (List.mem_of_getElem? (i := 788) (by decide +kernel))) rfl), (lwg_of (List.mem_append_right _ (List.mem_of_getElem? (i := 1406) (by decide +kernel))) rfl), (lwg_of (List.mem_append_right _ (List.mem_of_getElem? (i := 254) (by decide +kernel))) rfl), (lwg_of (List.mem_append_right _ (List.mem_of_getElem? (i := 789) (by decide +kernel))) rfl), by decide⟩
theorem kU_X7_85 {s0 : State} : m_lkU s0 RX7 85 "GoblinHousehold$Form" ⟨"GoblinHousehold$Form", "ordinal", "()I"⟩ yJx29ce0_ordinal_8abf5 := ⟨(lwg_of (List.mem_append_right _ (List.mem_of_getElem? (i := 1038) (by decide +kernel))) rfl), (lwg_of (List.mem_append_right _ (List.mem_of_getElem? (i := 1039) (by decide +kernel))) rfl), (lwg_of (List.mem_append_right _ (List.mem_of_getElem? (i := 1042) (by decide +kernel))) rfl), rfl, fun _ _ h _ => h _ (lwg_of (List.mem_append_right _ (List.mem_of_getElem? (i := 1041) (by decide +kernel))) rfl)⟩
