/-! calls that leave the heap's size as it was cost nothing of the room -/
def t_keep (st t : State) : Prop := ∀ (a : Nat) (c : Cell), st.heap[a]? = some c → ∃ c', t.heap[a]? = some c' ∧ c'.slots.size = c.slots.size
theorem m_Met.mono {D : va_G} {aC : Nat → ClassId} {s0 : State} {l : Launch} {y : MethodName} {cc : ByteArray} {nL : Nat} {ret : Option FieldType} {d mc ms : Nat} {As : List Value} {M : m_M} {post post2 : Option Value → m_M → Prop} {px px2 : String → m_M → Prop} (h : m_Met D aC s0 l y cc nL ret d mc ms As M post px) (h1 : ∀ v M', post v M' → post2 v M') (h2 : ∀ E M', px E M' → px2 E M') : m_Met D aC s0 l y cc nL ret d mc ms As M post2 px2 := by
  refine MetFree.mono h (fun _ _ z => z) (fun _ _ _ _ _ z => z) (fun a s o s' _ hq => ?_)
  rcases hq with ⟨⟨⟨v, M', ho, hp, hH⟩, hF⟩, hL⟩ | ⟨q, ho, E, ce, L, ⟨⟨M', hp, hH⟩, hF⟩, hr⟩
  · exact Or.inl ⟨⟨⟨v, M', ho, h1 _ _ hp, hH⟩, hF⟩, hL⟩
  · exact Or.inr ⟨q, ho, E, ce, L, ⟨⟨M', h2 _ _ hp, hH⟩, hF⟩, hr⟩
theorem t_kept {D : va_G} {aC : Nat → ClassId} {s0 : State} {l : Launch} {y : MethodName} {cc : ByteArray} {nL : Nat} {ret : Option FieldType} {d mc ms : Nat} {As : List Value} {M : m_M} {post : Option Value → m_M → Prop} {px : String → m_M → Prop} (h : m_Met D aC s0 l y cc nL ret d mc ms As M post px) : vx_Met l y (m_ws y cc nL ret) (m_R d mc ms) (m_Pc D aC s0 As M) (fun a st o t => m_Qc D aC s0 post a st o t ∧ t_keep st t) (m_XC D aC s0 px) mc ms (m_A s0) := by
  refine MetFree.mono h (fun _ _ z => z) (fun _ _ _ _ _ z => z) (fun a s o s' _ hq => ?_)
  rcases hq with ⟨hq, L, hF, hL⟩ | hx
  · refine Or.inl ⟨⟨hq, fun a c ha => ?_⟩, L, hF, hL⟩
    obtain ⟨c', q1, -, q3, -⟩ := hF.2.2.2.2.2.2.2 a c ha
    exact ⟨c', q1, q3⟩
  · exact Or.inr hx
theorem t_shrink {p : Program} {l : Launch} {e : Env} {R : Room} {s : State} {m : MethodId} {args : Array Value} {below : List Frame} {meth : Method} {c : Code} {T T' : State} {locs locs2 : List Loc} {cells slots c2 n2 : Nat} (X : Stand p l e R s m args below meth c T locs cells slots) (X' : Stand p l e R s m args below meth c T' locs2 c2 n2) (hz : T'.heap.size = T.heap.size) (hk : ∀ (a : Nat) (k : Cell), T.heap[a]? = some k → ∃ k', T'.heap[a]? = some k' ∧ k'.slots.size = k.slots.size) : Stand p l e R s m args below meth c T' locs2 cells slots := by
  have e9 : ((T'.heap.toList.drop s.heap.size).map (fun k : Cell => k.slots.size)) = ((T.heap.toList.drop s.heap.size).map (fun k : Cell => k.slots.size)) := by
    apply List.ext_getElem?
    intro i
    rw [List.getElem?_map, List.getElem?_map, List.getElem?_drop, List.getElem?_drop, Array.getElem?_toList, Array.getElem?_toList]
    by_cases hi : s.heap.size + i < T.heap.size
    · obtain ⟨k', q1, q2⟩ := hk (s.heap.size + i) (T.heap[s.heap.size + i]) (Array.getElem?_eq_getElem hi)
      rw [q1, Array.getElem?_eq_getElem hi]
      exact congrArg some q2
    · rw [Array.getElem?_eq_none (by omega), Array.getElem?_eq_none (by omega)]
  obtain ⟨a1, a2, a3, a4, a5, a6, a7, a8, a9, b1, b2, b3, b4, same⟩ := X'
  refine ⟨a1, a2, a3, a4, a5, a6, a7, a8, a9, b1, b2, b3, b4, same.1, same.2.1, ?_, same.2.2.2.1, ?_, same.2.2.2.2.2⟩
  · show T'.heap.size ≤ s.heap.size + cells
    rw [hz]
    exact X.heapSize
  · show ((T'.heap.toList.drop s.heap.size).map (fun k : Cell => k.slots.size)).sum ≤ slots
    rw [e9]
    exact X.same.2.2.2.2.1
section m_TIGHT
variable {D : va_G} {aC : Nat → ClassId} {s0 : State} {own : String} {cc : ByteArray} {nL : Nat} {p : Program} {l : Launch} {e : Env} {R : Room} {s : State} {m : MethodId} {args : Array Value} {below : List Frame} {meth : Method} {c : Code} {cells slots : Nat} {Q : State → Prop} {pc : Nat} {lv : List (Nat × Value)} {st : List Value} {M : m_M}
theorem m_afterT {post : Option Value → m_M → Prop} {px : String → m_M → Prop} {mc ms : Nat} {a : Array Value} {H : Heap} {locs : List Loc} {ls : Array Slot} {rest st0 : List Value} (hr : vx_Run p l e R s m args below meth c H locs cells slots mc ms (F0 m pc ls st0) rest (fun st o t => m_Qc D aC s0 post a st o t ∧ t_keep st t) (m_XC D aC s0 px) (m_A s0)) (h1 : lv_has ls nL lv) (h2 : m_H D aC M H) (hS : va_S (m_A s0) s.heap H locs) (hz : ∀ v M', post v M' → M'.1 = M.1) (hx : ∀ E M', ¬ px E M')
    (kk : ∀ (v : Option Value) (M' : m_M), post v M' → m_W D aC s0 nL p l e R s m args below meth c cells slots Q (pc + 3) lv (v.toList ++ rest) M') : W p l e R s m args below meth c H locs cells slots Q (F0 m pc ls st0) := by
  intro T hT X
  rcases hr T hT X with ⟨v, st₀, t, T', L, h0, X', hL, e1, e2, ⟨⟨⟨v', M', hv, hp, hb⟩, hF⟩, hk⟩, st⟩ | ⟨q, st₀, t, T', L, E, ce, h0, X', hL, e1, e2, ⟨⟨M', hp, hb⟩, hF⟩, hce, hcv, hcl, st⟩
  · cases hv
    obtain ⟨k1, k2, k3⟩ := vx_keep h0 e1 hS (fun _ _ h => h) (fun _ h => h) hL hF
    have hsz : T'.heap.size = T.heap.size := by rw [e1, hb.1, hz _ _ hp, hT, h2.1]
    have hkk : ∀ (a : Nat) (k : Cell), T.heap[a]? = some k → ∃ k', T'.heap[a]? = some k' ∧ k'.slots.size = k.slots.size := fun a k ha => by
      rw [e1]
      exact hk a k (by rw [h0, ← hT]; exact ha)
    obtain ⟨t2, a1, b1⟩ := kk _ _ hp T'.heap (locs ++ L) ls h1 (by rw [e1]; exact hb) k3 T' rfl (t_shrink X X' hsz hkk)
    exact ⟨t2, st t2 a1, b1⟩
  · exact absurd hp (hx _ _)
theorem m_callVt (C : m_C D aC s0 own cc nL l p s m args meth c) {idx : Nat} {y : MethodName} {bytes : ByteArray} {nLc n d mc ms b ci : Nat} {ret : Option FieldType} {As rest st0 fs : List Value} {q : vw_C} {post : Option Value → m_M → Prop} {px : String → m_M → Prop} (hM : m_Met D aC s0 l y bytes nLc ret d mc ms (.ref b :: As) M post px) (hd : decode cc pc = .ok (.invokevirtual idx, 3)) (hcd : m_cd y bytes nLc ret n) (hlk : m_lkV own idx y) (hb : M.2 b = some (m_ob ci fs)) (hc : vwCl[ci]? = some q) (hq : q.1 = y.cls) (hn : As.length = n) (hst : st0 = As.reverse ++ .ref b :: rest) (hW : (rest.map fun v => v.category).sum ≤ 8)
    (hfr : d + 1 ≤ R.frames ∧ 8 + (nLc + 11) + 100 * (d + 1) ≤ R.locals) (hf : cells + mc ≤ R.cells ∧ slots + ms ≤ R.slots) (hz : ∀ v M', post v M' → M'.1 = M.1) (hx : ∀ E M', ¬ px E M')
    (kk : ∀ (v : Option Value) (M' : m_M), post v M' → m_W D aC s0 nL p l e R s m args below meth c cells slots Q (pc + 3) lv (v.toList ++ rest) M') : m_W D aC s0 nL p l e R s m args below meth c cells slots Q pc lv st0 M := by
  intro H locs ls h1 h2 h3
  have hrv := m_recv C h2 h3 hb hc
  rw [hq] at hrv
  have hpS := m_preS C (As := .ref b :: As) h2 h3
  exact m_afterT (vx_runV (C := y.cls) (As := As) (b := b) (rest := rest) (m_fix C) (t_kept hM) ⟨m_callB C hcd hlk.1 hfr, C.2.2.2.2.1 _ hlk.2.1, C.2.2.2.2.1 _ hlk.2.2⟩ ⟨hpS.1, hrv, hpS.2⟩ rfl hn h1.1 hst (by show 2 * 0 + _ ≤ 8; omega) hd hf) h1 h2 h3 hz hx kk
theorem m_callSt (C : m_C D aC s0 own cc nL l p s m args meth c) {idx : Nat} {y : MethodName} {bytes : ByteArray} {nLc n d mc ms : Nat} {ret : Option FieldType} {As rest st0 : List Value} {post : Option Value → m_M → Prop} {px : String → m_M → Prop} (hM : m_Met D aC s0 l y bytes nLc ret d mc ms As M post px) (hd : decode cc pc = .ok (.invokestatic idx, 3)) (hcd : m_cd y bytes nLc ret n) (hlk : m_lkS own idx y) (hn : As.length = n) (hst : st0 = As.reverse ++ rest) (hW : (rest.map fun v => v.category).sum ≤ 8)
    (hfr : d + 1 ≤ R.frames ∧ 8 + (nLc + 11) + 100 * (d + 1) ≤ R.locals) (hf : cells + mc ≤ R.cells ∧ slots + ms ≤ R.slots) (hz : ∀ v M', post v M' → M'.1 = M.1) (hx : ∀ E M', ¬ px E M')
    (kk : ∀ (v : Option Value) (M' : m_M), post v M' → m_W D aC s0 nL p l e R s m args below meth c cells slots Q (pc + 3) lv (v.toList ++ rest) M') : m_W D aC s0 nL p l e R s m args below meth c cells slots Q pc lv st0 M := by
  intro H locs ls h1 h2 h3
  exact m_afterT (vx_runS (As := As) (rest := rest) (m_fix C) (t_kept hM) ⟨m_callB C hcd hlk.1 hfr, C.2.2.2.2.1 _ hlk.2⟩ (m_preS C h2 h3) rfl hn h1.1 hst (by show 2 * 0 + _ ≤ 8; omega) hd hf) h1 h2 h3 hz hx kk
/-- a question: a value, the memory as it was -/
def qM (vv : Value) (M : m_M) : Option Value → m_M → Prop := fun v M' => v = some vv ∧ M' = M
theorem m_qV (C : m_C D aC s0 own cc nL l p s m args meth c) {idx : Nat} {y : MethodName} {bytes : ByteArray} {nLc n d mc ms b ci : Nat} {ret : Option FieldType} {As rest st0 fs : List Value} {q : vw_C} {vv : Value} (hM : m_Met D aC s0 l y bytes nLc ret d mc ms (.ref b :: As) M (qM vv M) m_nx) (hd : decode cc pc = .ok (.invokevirtual idx, 3)) (hcd : m_cd y bytes nLc ret n) (hlk : m_lkV own idx y) (hb : M.2 b = some (m_ob ci fs)) (hc : vwCl[ci]? = some q) (hq : q.1 = y.cls) (hn : As.length = n) (hst : st0 = As.reverse ++ .ref b :: rest) (hW : (rest.map fun v => v.category).sum ≤ 8)
    (hfr : d + 1 ≤ R.frames ∧ 8 + (nLc + 11) + 100 * (d + 1) ≤ R.locals) (hf : cells + mc ≤ R.cells ∧ slots + ms ≤ R.slots)
    (kk : m_W D aC s0 nL p l e R s m args below meth c cells slots Q (pc + 3) lv (vv :: rest) M) : m_W D aC s0 nL p l e R s m args below meth c cells slots Q pc lv st0 M :=
  m_callVt C hM hd hcd hlk hb hc hq hn hst hW hfr hf (fun v M' h => by rw [h.2]) (fun _ _ h => h) (fun v M' h => by rw [h.1, h.2]; exact kk)
theorem m_qS (C : m_C D aC s0 own cc nL l p s m args meth c) {idx : Nat} {y : MethodName} {bytes : ByteArray} {nLc n d mc ms : Nat} {ret : Option FieldType} {As rest st0 : List Value} {vv : Value} (hM : m_Met D aC s0 l y bytes nLc ret d mc ms As M (qM vv M) m_nx) (hd : decode cc pc = .ok (.invokestatic idx, 3)) (hcd : m_cd y bytes nLc ret n) (hlk : m_lkS own idx y) (hn : As.length = n) (hst : st0 = As.reverse ++ rest) (hW : (rest.map fun v => v.category).sum ≤ 8)
    (hfr : d + 1 ≤ R.frames ∧ 8 + (nLc + 11) + 100 * (d + 1) ≤ R.locals) (hf : cells + mc ≤ R.cells ∧ slots + ms ≤ R.slots)
    (kk : m_W D aC s0 nL p l e R s m args below meth c cells slots Q (pc + 3) lv (vv :: rest) M) : m_W D aC s0 nL p l e R s m args below meth c cells slots Q pc lv st0 M :=
  m_callSt C hM hd hcd hlk hn hst hW hfr hf (fun v M' h => by rw [h.2]) (fun _ _ h => h) (fun v M' h => by rw [h.1, h.2]; exact kk)
end m_TIGHT
theorem qQ {D : va_G} {aC : Nat → ClassId} {s0 : State} {l : Launch} {y : MethodName} {cc : ByteArray} {nL : Nat} {ret : Option FieldType} {d mc ms : Nat} {As : List Value} {M : m_M} {Es : List String} {r : Int × Int} {z : Int} (h : m_Met D aC s0 l y cc nL ret d mc ms As M (g_po r M) (g_px Es r M)) (e : r = (0, z)) : m_Met D aC s0 l y cc nL ret d mc ms As M (qM (VI z) M) m_nx := by
  subst e
  exact m_Met.mono h (fun v M' h => ⟨h.2.1, h.2.2⟩) (fun E M' h => absurd (show (1 : Int) ≤ 0 from h.1.1) (by decide))
