/-! strings: those that the law names, and new ones -/
theorem kc_310 : Cond.methodLink RJ7 310 ⟨"[B", "clone", "()Ljava/lang/Object;"⟩ ∈ lwg := (lwg_of (List.mem_append_right _ (List.mem_of_getElem? (i := 853) (by decide +kernel))) rfl)
theorem kc_cls : Cond.sameMethod "[B" "java/lang/Object" "clone" "()Ljava/lang/Object;" ∈ lwg := (lwg_of (List.mem_append_right _ (List.mem_of_getElem? (i := 854) (by decide +kernel))) rfl)
theorem kc_cln : Cond.native ⟨"java/lang/Object", "clone", "()Ljava/lang/Object;"⟩ ∈ lwg := (lwg_of (List.mem_append_right _ (List.mem_of_getElem? (i := 855) (by decide +kernel))) rfl)
theorem kc_cli : Cond.instanceMethod ⟨"java/lang/Object", "clone", "()Ljava/lang/Object;"⟩ ∈ lwg := (lwg_of (List.mem_append_right _ (List.mem_of_getElem? (i := 856) (by decide +kernel))) rfl)
theorem kc_clv : Cond.selects "[B" ⟨"[B", "clone", "()Ljava/lang/Object;"⟩ ⟨"java/lang/Object", "clone", "()Ljava/lang/Object;"⟩ ∈ lwg := (lwg_of (List.mem_append_right _ (List.mem_of_getElem? (i := 857) (by decide +kernel))) rfl)
theorem kc_311 : Cond.classLink RJ7 311 "[B" ∈ lwg := (lwg_of (List.mem_append_right _ (List.mem_of_getElem? (i := 859) (by decide +kernel))) rfl)
theorem kM_acopy0 : Cond.methodLink RJ0 212 arraycopyName ∈ lwg := (lwg_of (List.mem_append_right _ (List.mem_of_getElem? (i := 917) (by decide +kernel))) rfl)
/-- what the start gives beside: two private methods of the builder's, an array's copy -/
def m_JS (s0 : State) : Prop := (Cond.selects RJ4 yJ5_putStringAt_47b60 yJ5_putStringAt_47b60).before #[] s0 = true ∧ (Cond.selects RJ4 yJ5_inflateIfNeededFor_a7421 yJ5_inflateIfNeededFor_a7421).before #[] s0 = true ∧ va_Nw (.castable "[B" "java/lang/Cloneable") s0
theorem kU_J5_208 {s0 : State} (h : m_JS s0) : m_lkU s0 RJ5 208 RJ4 yJ5_putStringAt_47b60 yJ5_putStringAt_47b60 := ⟨(lwg_of (List.mem_append_right _ (List.mem_of_getElem? (i := 885) (by decide +kernel))) rfl), (lwg_of (List.mem_append_right _ (List.mem_of_getElem? (i := 1412) (by decide +kernel))) rfl), (lwg_of (List.mem_append_right _ (List.mem_of_getElem? (i := 887) (by decide +kernel))) rfl), rfl, fun _ _ _ hW => word_at hW (Or.inl rfl) h.1⟩
theorem kU_J5_397 {s0 : State} (h : m_JS s0) : m_lkU s0 RJ5 397 RJ4 yJ5_inflateIfNeededFor_a7421 yJ5_inflateIfNeededFor_a7421 := ⟨(lwg_of (List.mem_append_right _ (List.mem_of_getElem? (i := 889) (by decide +kernel))) rfl), (lwg_of (List.mem_append_right _ (List.mem_of_getElem? (i := 1413) (by decide +kernel))) rfl), (lwg_of (List.mem_append_right _ (List.mem_of_getElem? (i := 891) (by decide +kernel))) rfl), rfl, fun _ _ _ hW => word_at hW (Or.inl rfl) h.2.1⟩
theorem kU_J0_552 {s0 : State} : m_lkU s0 RJ0 552 RJ4 yJ5_getValue_6d5f1 yJ5_getValue_6d5f1 := ⟨(lwg_of (List.mem_append_right _ (List.mem_of_getElem? (i := 956) (by decide +kernel))) rfl), (lwg_of (List.mem_append_right _ (List.mem_of_getElem? (i := 958) (by decide +kernel))) rfl), (lwg_of (List.mem_append_right _ (List.mem_of_getElem? (i := 957) (by decide +kernel))) rfl), rfl, fun _ _ h _ => h _ (lwg_of (List.mem_append_right _ (List.mem_of_getElem? (i := 959) (by decide +kernel))) rfl)⟩
theorem kU_J0_1047 {s0 : State} : m_lkU s0 RJ0 1047 RJ4 yJ5_isLatin1_aae02 yJ5_isLatin1_aae02 := ⟨(lwg_of (List.mem_append_right _ (List.mem_of_getElem? (i := 962) (by decide +kernel))) rfl), (lwg_of (List.mem_append_right _ (List.mem_of_getElem? (i := 866) (by decide +kernel))) rfl), (lwg_of (List.mem_append_right _ (List.mem_of_getElem? (i := 865) (by decide +kernel))) rfl), rfl, fun _ _ h _ => h _ (lwg_of (List.mem_append_right _ (List.mem_of_getElem? (i := 867) (by decide +kernel))) rfl)⟩
theorem kO_549 : Cond.methodLink RJ0 549 yJ5_length_8abf5 ∈ lwg := (lwg_of (List.mem_append_right _ (List.mem_of_getElem? (i := 961) (by decide +kernel))) rfl)
theorem kO_same : Cond.sameMethod RJ5 RJ5 "length" "()I" ∈ lwg := (lwg_of (List.mem_append_right _ (List.mem_of_getElem? (i := 1405) (by decide +kernel))) rfl)
theorem kO_in0 : Cond.instanceMethod yJ5_length_8abf5 ∈ lwg := (lwg_of (List.mem_append_right _ (List.mem_of_getElem? (i := 782) (by decide +kernel))) rfl)
theorem kO_in1 : Cond.instanceMethod yJ4_length_8abf5 ∈ lwg := (lwg_of (List.mem_append_right _ (List.mem_of_getElem? (i := 778) (by decide +kernel))) rfl)
theorem kO_sel : Cond.selects RJ4 yJ5_length_8abf5 yJ4_length_8abf5 ∈ lwg := (lwg_of (List.mem_append_right _ (List.mem_of_getElem? (i := 1416) (by decide +kernel))) rfl)
theorem kP_J4_29 : m_lkP RJ4 29 yJ5_append_cf1ce := ⟨(lwg_of (List.mem_append_right _ (List.mem_of_getElem? (i := 826) (by decide +kernel))) rfl), (lwg_of (List.mem_append_right _ (List.mem_of_getElem? (i := 1408) (by decide +kernel))) rfl), (lwg_of (List.mem_append_right _ (List.mem_of_getElem? (i := 254) (by decide +kernel))) rfl), (lwg_of (List.mem_append_right _ (List.mem_of_getElem? (i := 827) (by decide +kernel))) rfl), by decide⟩
/-- a new string at q, its bytes at v -/
def sN (q v : Nat) (z : List Int) (M : m_M) : Prop := ∃ f : Int → Int, M.2 q = some (m_ob 0 [.ref v, VI 0, VI 0, VI 0]) ∧ M.2 v = some (m_ia 2 z.length f) ∧ (∀ i : Nat, i < z.length → f (i : Int) = z.getD i 0) ∧ (∀ j : Nat, 0 ≤ z.getD j 0 ∧ z.getD j 0 < 128) ∧ z.length ≤ 1000 ∧ q < M.1 ∧ v < M.1
def sQ (s0 : State) (q v : Nat) (z : List Int) (M : m_M) : Prop := m_str s0 q v z ∨ sN q v z M
theorem sQ.rg {s0 : State} {q v : Nat} {z : List Int} {M : m_M} (h : sQ s0 q v z M) : (∀ j : Nat, 0 ≤ z.getD j 0 ∧ z.getD j 0 < 128) ∧ z.length ≤ 1000 := by
  rcases h with h | ⟨f, h1, h2, h3, h4, h5, h6, h7⟩
  · exact ⟨h.2.2.2.2.1, h.2.2.2.2.2⟩
  · exact ⟨h4, h5⟩
theorem sN.keep {q v : Nat} {z : List Int} {M M2 : m_M} (h : sN q v z M) (h1 : M2.2 q = M.2 q) (h2 : M2.2 v = M.2 v) (h3 : M.1 ≤ M2.1) : sN q v z M2 := by
  obtain ⟨f, a1, a2, a3, a4, a5, a6, a7⟩ := h
  exact ⟨f, h1.trans a1, h2.trans a2, a3, a4, a5, by omega, by omega⟩
theorem sQ.keep {s0 : State} {q v : Nat} {z : List Int} {M M2 : m_M} (h : sQ s0 q v z M) (h1 : M2.2 q = M.2 q) (h2 : M2.2 v = M.2 v) (h3 : M.1 ≤ M2.1) : sQ s0 q v z M2 := by
  rcases h with h | h
  · exact Or.inl h
  · exact Or.inr (h.keep h1 h2 h3)
theorem m_str.lt {s0 : State} {q v : Nat} {z : List Int} (h : m_str s0 q v z) : q < s0.heap.size ∧ v < s0.heap.size := by
  obtain ⟨⟨c1, a1, -⟩, -, -, ⟨c2, a2, -⟩, -⟩ := h
  exact ⟨(Array.getElem?_eq_some_iff.mp a1).1, (Array.getElem?_eq_some_iff.mp a2).1⟩
theorem sQ.lt {s0 : State} {q v : Nat} {z : List Int} {M : m_M} (h : sQ s0 q v z M) (h0 : s0.heap.size ≤ M.1) : q < M.1 ∧ v < M.1 := by
  rcases h with h | ⟨f, a1, a2, a3, a4, a5, a6, a7⟩
  · have := h.lt; omega
  · exact ⟨a6, a7⟩
/-- what lies at the builder, at its array, is no string -/
theorem sQ.ne {s0 : State} {q v a : Nat} {z : List Int} {M : m_M} {fs : List Value} (h : sQ s0 q v z M) (ha : s0.heap.size ≤ a) (hM : M.2 a = some (m_ob 1 fs)) : q ≠ a ∧ v ≠ a := by
  rcases h with h | ⟨f, a1, a2, a3, a4, a5, a6, a7⟩
  · have := h.lt; omega
  · refine ⟨fun e => ?_, fun e => ?_⟩
    · rw [e, hM] at a1; cases a1
    · rw [e, hM] at a2; cases a2
theorem sQ.ne2 {s0 : State} {q v a n : Nat} {f : Int → Int} {z : List Int} {M : m_M} (h : sQ s0 q v z M) (ha : s0.heap.size ≤ a) (hM : M.2 a = some (m_ia 2 n f)) : q ≠ a := by
  rcases h with h | ⟨f, a1, a2, a3, a4, a5, a6, a7⟩
  · have := h.lt; omega
  · intro e
    rw [e, hM] at a1; cases a1
section m_STR
variable {D : va_G} {aC : Nat → ClassId} {s0 : State} {own : String} {cc : ByteArray} {nL : Nat} {p : Program} {l : Launch} {e : Env} {R : Room} {s : State} {m : MethodId} {args : Array Value} {below : List Frame} {meth : Method} {c : Code} {cells slots : Nat} {Q : State → Prop} {pc : Nat} {lv : List (Nat × Value)} {st : List Value} {M : m_M}
theorem m_sgv (C : m_C D aC s0 own cc nL l p s m args meth c) {idx q v : Nat} {z : List Int} (hq : sQ s0 q v z M) (hd : decode cc pc = .ok (.getfield idx, 3)) (hw : Cond.fieldLink own idx "java/lang/String" "value" "[B" ∈ lwg) (hf : m_fl own idx 0 0) (kk : m_W D aC s0 nL p l e R s m args below meth c cells slots Q (pc + 3) lv (.ref v :: st) M) : m_W D aC s0 nL p l e R s m args below meth c cells slots Q pc lv (.ref q :: st) M := by
  rcases hq with h | ⟨f, a1, a2, a3, a4, a5, a6, a7⟩
  · exact m_cgetf C h.2.2.1 hw hd kk
  · exact m_getf C hd hf a1 rfl kk
theorem m_sgc (C : m_C D aC s0 own cc nL l p s m args meth c) {idx q v : Nat} {z : List Int} (hq : sQ s0 q v z M) (hd : decode cc pc = .ok (.getfield idx, 3)) (hw : Cond.fieldLink own idx "java/lang/String" "coder" "B" ∈ lwg) (hf : m_fl own idx 0 1) (kk : m_W D aC s0 nL p l e R s m args below meth c cells slots Q (pc + 3) lv (VI 0 :: st) M) : m_W D aC s0 nL p l e R s m args below meth c cells slots Q pc lv (.ref q :: st) M := by
  rcases hq with h | ⟨f, a1, a2, a3, a4, a5, a6, a7⟩
  · exact m_cgetf C h.2.1 hw hd kk
  · exact m_getf C hd hf a1 rfl kk
theorem m_sln (C : m_C D aC s0 own cc nL l p s m args meth c) {q v : Nat} {z : List Int} (hq : sQ s0 q v z M) (hd : decode cc pc = .ok (.arraylength, 1)) (kk : m_W D aC s0 nL p l e R s m args below meth c cells slots Q (pc + 1) lv (VI (z.length : Int) :: st) M) : m_W D aC s0 nL p l e R s m args below meth c cells slots Q pc lv (.ref v :: st) M := by
  rcases hq with h | ⟨f, a1, a2, a3, a4, a5, a6, a7⟩
  · exact m_ctl C h.2.2.2.1 hd kk
  · exact m_alen C hd a2 (by decide) kk
theorem m_sbl (C : m_C D aC s0 own cc nL l p s m args meth c) {q v : Nat} {z : List Int} {i : Int} (hq : sQ s0 q v z M) (hd : decode cc pc = .ok (.baload, 1)) (hi : 0 ≤ i ∧ i < (z.length : Int)) (kk : m_W D aC s0 nL p l e R s m args below meth c cells slots Q (pc + 1) lv (VI (z.getD i.toNat 0) :: st) M) : m_W D aC s0 nL p l e R s m args below meth c cells slots Q pc lv (VI i :: .ref v :: st) M := by
  have hlen := hq.rg.2
  rcases hq with h | ⟨f, a1, a2, a3, a4, a5, a6, a7⟩
  · exact m_ctb C h.2.2.2.1 hd (by omega) hi rfl kk
  · refine m_bald C hd a2 (by omega) hi ?_
    have := a3 i.toNat (by omega)
    rw [m_cast hi.1] at this
    rw [this]
    exact kk
theorem m_srv (C : m_C D aC s0 own cc nL l p s m args meth c) {q v : Nat} {z : List Int} (hq : sQ s0 q v z M) : ∀ (H : Heap) (locs : List Loc), m_H D aC M H → va_S (m_A s0) s.heap H locs → ∃ cellB : Cell, H[q]? = some cellB ∧ cellB.vm.isStatics = false ∧ s.vm.findClass "java/lang/String" = some cellB.cls := by
  rcases hq with h | ⟨f, a1, a2, a3, a4, a5, a6, a7⟩
  · exact m_old C h.1
  · exact m_obr (q := (RJ0, TJ0, 4)) C a1 rfl
/-- where bytes may be copied from -/
theorem m_src (C : m_C D aC s0 own cc nL l p s m args meth c) {q v : Nat} {z : List Int} (hq : sQ s0 q v z M) : ∀ (H : Heap) (locs : List Loc), m_H D aC M H → va_S (m_A s0) s.heap H locs → ∃ cs : Cell, H[v]? = some cs ∧ s.isArrayOf cs .byte ∧ cs.vm ≠ .unknown ∧ z.length ≤ cs.slots.size ∧ ∀ j : Nat, j < z.length → cs.slots[j]? = some (VI (z.getD j 0)) := by
  intro H locs hH hS
  have hK := m_Ks C.2.2.2.2.2.2.2.1 C.2.2.2.2.2.2.1
  rcases hq with h | ⟨f, a1, a2, a3, a4, a5, a6, a7⟩
  · obtain ⟨cell, g1, g2, g3, g4, g5, g6, g7⟩ := (va_T.moved C.2.2.2.2.2.2.1.1.alike h.2.2.2.1).kept (fun a ha _ => C.2.2.2.2.2.2.1.2.2 a ha)
    exact ⟨cell, by rw [hS.2.1 v (Array.getElem?_eq_some_iff.mp g1).1 g7]; exact g1, g2, g3, g4, g6⟩
  · refine ⟨_, hH.2 v _ a2, (hK.2 2 (by decide)).1 z.length (fun j => VI (f (j : Int))), (fun w => by cases w), by rw [arrV_size]; exact Nat.le_refl _, fun j hj => ?_⟩
    rw [arrV_read _ _ hj, a3 j hj]
theorem m_acopyg (C : m_C D aC s0 own cc nL l p s m args meth c) {idx a0 a n0 n1 : Nat} {fz : Nat → Int} {g : Int → Int} {n dp : Int} (hd : decode cc pc = .ok (.invokestatic idx, 3)) (hlk : Cond.methodLink own idx arraycopyName ∈ lwg) (hsrc : ∀ (H : Heap) (locs : List Loc), m_H D aC M H → va_S (m_A s0) s.heap H locs → ∃ cs : Cell, H[a0]? = some cs ∧ s.isArrayOf cs .byte ∧ cs.vm ≠ .unknown ∧ n0 ≤ cs.slots.size ∧ ∀ j : Nat, j < n0 → cs.slots[j]? = some (VI (fz j))) (hM1 : M.2 a = some (m_ia 2 n1 g)) (ha : s0.heap.size ≤ a) (hn : 0 ≤ n ∧ n ≤ (n0 : Int) ∧ 0 ≤ dp ∧ dp + n ≤ (n1 : Int) ∧ (n1 : Int) < 2147483648) (hfit : ∀ i : Nat, i < n0 → fits .byte (VI (fz i)) = true)
    (hframes : 1 ≤ R.frames) (hlocals : (st.map fun v => v.category).sum + (nativeFrameWords "java/lang/System" "arraycopy" 5 + 11) ≤ R.locals)
    (kk : m_W D aC s0 nL p l e R s m args below meth c cells slots Q (pc + 3) lv st (m_up M a (m_ia 2 n1 (fun i => if dp ≤ i ∧ i < dp + n then fz (i - dp).toNat else g i)))) : m_W D aC s0 nL p l e R s m args below meth c cells slots Q pc lv (VI n :: VI dp :: .ref a :: VI 0 :: .ref a0 :: st) M := by
  intro H locs ls h1 h2 h3 T hT X
  have hK := m_Ks C.2.2.2.2.2.2.2.1 C.2.2.2.2.2.2.1
  obtain ⟨cs, hc0, ⟨hst0, k0, hk0, cm0, hkk0⟩, hun, hsz, hsl⟩ := hsrc H locs h2 h3
  have hc1 : H[a]? = some (arrV (aC 2) n1 (fun j => VI (g (j : Int)))) := h2.2 a _ hM1
  obtain ⟨-, k1, hk1, cm1, hkk1⟩ := (hK.2 2 (by decide)).1 n1 (fun j => VI (g (j : Int)))
  have z0 : (Int32.ofInt 0).toNatClampNeg = 0 := by decide
  have zn : (Int32.ofInt n).toNatClampNeg = n.toNat := by
    show (Int32.ofInt n).toInt.toNat = n.toNat
    rw [m_ti (by omega)]
  have zd : (Int32.ofInt dp).toNatClampNeg = dp.toNat := by
    show (Int32.ofInt dp).toInt.toNat = dp.toNat
    rw [m_ti (by omega)]
  obtain ⟨vm', X', step⟩ := X.arraycopy C.1 C.2.2.2.1 (C.2.2.2.2.1 _ hlk) (C.2.2.2.2.1 _ kM_acopyN) (C.2.2.2.2.1 _ kM_acopyS) (C.2.2.2.2.1 _ kM_acopyI) (src := a0) (dst := a) (cs := cs) (cd := arrV (aC 2) n1 (fun j => VI (g (j : Int)))) (srcPos := Int32.ofInt 0) (destPos := Int32.ofInt dp) (n := Int32.ofInt n) (by rw [hT]; exact hc0) (by rw [hT]; exact hc1)
    hst0 (fun _ h => by cases h) hun (fun h => by cases h) hk0 hk1 hkk0 hkk1 (by simp [refKind, m_ty]) (by decide) (by rw [Int32.not_lt, Int32.le_iff_toInt_le, m_ti (by omega)]; exact hn.2.2.1) (by rw [Int32.not_lt, Int32.le_iff_toInt_le, m_ti (by omega)]; exact hn.1)
    (by rw [m_ti (by omega), m_ti (by omega)]; omega)
    (by rw [m_ti (by omega), m_ti (by omega), arrV_size]; omega)
    (fun vm₁ _ i hi => by
      rw [zn] at hi
      have e : cs.slots.getD ((Int32.ofInt 0).toNatClampNeg + i) .null = VI (fz i) := by
        rw [z0, Nat.zero_add, Array.getD_eq_getD_getElem?, hsl i (by omega)]
        rfl
      refine ⟨?_, ?_⟩
      · rw [e]
        exact hfit i (by omega)
      · rw [e]
        exact trivial)
    (g := F0 m pc ls (VI n :: VI dp :: .ref a :: VI 0 :: .ref a0 :: st)) rfl (by show ls.size = _; rw [h1.1]; exact C.2.2.1.symm) (rest := st) rfl (by rw [C.2.1]; exact hd) hframes (by show 2 * 0 + _ + _ ≤ _; omega)
  have es : cs.stretch (Int32.ofInt 0).toNatClampNeg (Int32.ofInt n).toNatClampNeg = (arrV (aC 2) n0 (fun j => VI (fz j))).stretch (Int32.ofInt 0).toNatClampNeg (Int32.ofInt n).toNatClampNeg := by
    unfold Cell.stretch
    apply List.map_congr_left
    intro i hi
    have hi2 := List.mem_range.mp hi
    rw [zn] at hi2
    rw [z0, Nat.zero_add, Array.getD_eq_getD_getElem?, hsl i (by omega), Array.getD_eq_getD_getElem?, arrV_read _ _ (by omega)]
  have e1 : copied cs (arrV (aC 2) n1 (fun j => VI (g (j : Int)))) (Int32.ofInt 0) (Int32.ofInt dp) (Int32.ofInt n) = arrV (aC 2) n1 (fun j : Nat => VI ((fun i : Int => if dp ≤ i ∧ i < dp + n then fz (i - dp).toNat else g i) (j : Int))) := by
    show (arrV (aC 2) n1 (fun j => VI (g (j : Int)))).storeRun (Int32.ofInt dp).toNatClampNeg (cs.stretch (Int32.ofInt 0).toNatClampNeg (Int32.ofInt n).toNatClampNeg) = _
    rw [es]
    have := va_copied VI (aC 2) (aC 2) (n0 := n0) (n1 := n1) (sp := (Int32.ofInt 0).toNatClampNeg) (dp := (Int32.ofInt dp).toNatClampNeg) (n := (Int32.ofInt n).toNatClampNeg) fz (fun j : Nat => g (j : Int)) (by rw [z0, zn]; omega)
    refine this.trans ?_
    congr 1
    funext j
    congr 1
    rw [z0, zn, zd]
    unfold va_cpy
    by_cases hj : dp.toNat ≤ j ∧ j < dp.toNat + n.toNat
    · rw [if_pos hj]
      show fz (0 + (j - dp.toNat)) = if dp ≤ (j : Int) ∧ (j : Int) < dp + n then fz ((j : Int) - dp).toNat else g (j : Int)
      rw [if_pos (by omega), Nat.zero_add, show ((j : Int) - dp).toNat = j - dp.toNat by omega]
    · rw [if_neg hj]
      show g (j : Int) = if dp ≤ (j : Int) ∧ (j : Int) < dp + n then fz ((j : Int) - dp).toNat else g (j : Int)
      rw [if_neg (by omega)]
  rw [e1] at X' step
  have hl9 : a < H.size := (Array.getElem?_eq_some_iff.mp hc1).1
  generalize hcell : arrV (aC 2) n1 (fun j : Nat => VI ((fun i : Int => if dp ≤ i ∧ i < dp + n then fz (i - dp).toNat else g i) (j : Int))) = cell at *
  have hheap : ((T.setVm vm').setCell a cell).heap = H.setIfInBounds a cell := by rw [← hT]; rfl
  have oq : ∀ q : Nat, q ≠ a → (H.setIfInBounds a cell)[q]? = H[q]? := fun q hq => by simp [Array.getElem?_setIfInBounds, Ne.symm hq]
  obtain ⟨t, a1, b1⟩ := kk _ _ ls h1 (h2.up (show (H.setIfInBounds a cell)[a]? = some (arrV (aC 2) n1 _) by rw [hcell]; simp [Array.getElem?_setIfInBounds, hl9]) (by simp) oq) ⟨by simp; exact h3.1, fun q g1 g2 => by
      rw [oq q (fun e => g2 (by rw [e]; exact ha))]
      exact h3.2.1 q g1 g2, fun q hq => by
      rcases List.mem_append.mp hq with h | h
      · exact h3.2.2 q h
      · obtain ⟨z, -, hz⟩ := List.mem_map.mp h
        rw [← hz]
        exact ha⟩ _ hheap X'
  exact ⟨t, step t a1, b1⟩
theorem m_clone (C : m_C D aC s0 RJ7 cc nL l p s m args meth c) (hJS : m_JS s0) {a n : Nat} {f : Int → Int} (hd : decode cc pc = .ok (.invokevirtual 310, 3)) (hM : M.2 a = some (m_ia 2 n f)) (hf : hby f)
    (hframes : 1 ≤ R.frames) (hlocals : (st.map fun v => v.category).sum + 14 ≤ R.locals) (hcells : cells + 1 ≤ R.cells) (hslots : slots + n ≤ R.slots)
    (kk : m_W D aC s0 nL p l e R s m args below meth c (cells + 1) (slots + n) Q (pc + 3) lv (.ref M.1 :: st) (m_push M (m_ia 2 n f))) : m_W D aC s0 nL p l e R s m args below meth c cells slots Q pc lv (.ref a :: st) M := by
  intro H locs ls h1 h2 h3
  have hK := m_Ks C.2.2.2.2.2.2.2.1 C.2.2.2.2.2.2.1
  obtain ⟨hx, hb, hml, hown, hts, hlk, hZ, hF, hst9⟩ := C
  have hc0 : H[a]? = some (arrV (aC 2) n (fun j => VI (f (j : Int)))) := h2.2 a _ hM
  have hnm : s.vm.findClass "[B" = some (aC 2) := va_nm_byte (hK.2 2 (by decide)).2
  obtain ⟨c0, t0', f1, f2, f3⟩ := Cond.castable_spec (va_Nw.use (A := args) rfl (va_Nw.warmC hZ.1 hJS.2.2))
  cases hnm.symm.trans f1
  intro T hT X
  obtain ⟨-, kA, hkA, comp, hkind⟩ := State.isArrayOf_alike X.warmed.alike ((hK.2 2 (by decide)).1 0 (fun _ => .null))
  obtain ⟨-, kS, hkS, compS, hkindS⟩ := (hK.2 2 (by decide)).1 0 (fun _ => .null)
  have hsz : (arrV (aC 2) n (fun j => VI (f (j : Int)))).slots.size = n := arrV_size _ _ _
  obtain ⟨vm', X', st9⟩ := X.cloneArray hx hown (hts _ kc_310) (hts _ kc_cls) (hts _ kc_cln) (hts _ kc_cli) (hts _ kc_clv) (a := a) (cell := arrV (aC 2) n (fun j => VI (f (j : Int)))) (by rw [hT]; exact hc0) (fun k h => by cases h) (fun h => by cases h) hnm f2 f3
    (fun i v hv => by
      have hk' : T.vm.classes[aC 2]? = some kA := hkA
      have hfit : fits .byte v = true := va_fit (fun i hi => (k_byte (hf (i : Int))).2) i v hv
      have hfit2 : fits (m_ty 2) v = true := hfit
      simpa [State.fitsSlot, State.slotType?, hk', hkind, arrV] using hfit2)
    (g := F0 m pc ls (.ref a :: st)) rfl (by show ls.size = _; rw [h1.1]; exact hml.symm) (rest := st) rfl (by rw [hb]; exact hd) hframes (by show 2 * 0 + _ + 14 ≤ _; omega) hcells (by rw [hsz]; exact hslots) (hloader := Vm.clonesLoader_of_array hkS hkindS)
  have hcellE : ({ cls := (arrV (aC 2) n (fun j => VI (f (j : Int)))).cls, slots := (arrV (aC 2) n (fun j => VI (f (j : Int)))).slots } : Cell) = arrV (aC 2) n (fun j => VI (f (j : Int))) := rfl
  rw [hcellE, hsz] at X'
  rw [hcellE] at st9
  generalize hH1 : H.push (arrV (aC 2) n (fun j => VI (f (j : Int)))) = H1
  have z1 : H1.size = H.size + 1 := by rw [← hH1, Array.size_push]
  have e1 : H1[M.1]? = some (arrV (aC 2) n (fun j => VI (f (j : Int)))) := by rw [← hH1, ← h2.1, Array.getElem?_push_size]
  have o1 : ∀ q : Nat, q < H.size → H1[q]? = H[q]? := fun q hq => by rw [← hH1, Array.getElem?_push, if_neg (Nat.ne_of_lt hq)]
  obtain ⟨t, b1, b2⟩ := kk H1 locs ls h1 (h2.push e1 z1 o1) (m_S.push h3 z1 o1) ((T.setVm vm').pushCell (arrV (aC 2) n (fun j => VI (f (j : Int))))) (by rw [← hH1, ← hT]; rfl) X'
  refine ⟨t, st9 t ?_, b2⟩
  rw [hT, h2.1]
  exact b1
theorem m_callO (C : m_C D aC s0 own cc nL l p s m args meth c) {idx : Nat} {y : MethodName} {bytes : ByteArray} {nLc n d mc ms b : Nat} {ret : Option FieldType} {As rest st0 : List Value} {cn : String} {post : Option Value → m_M → Prop} {px : String → m_M → Prop} (hM : m_Met D aC s0 l y bytes nLc ret d mc ms (.ref b :: As) M post px) {x : MethodName} {owner : String} {b0 : ByteArray} {m0 : Nat} {r0 : Option FieldType} (hd : decode cc pc = .ok (.invokevirtual idx, 3)) (hcd : m_cd y bytes nLc ret n) (h_link : Cond.methodLink own idx x ∈ lwg) (h_same : Cond.sameMethod x.cls owner x.name x.desc ∈ lwg) (h_in0 : Cond.instanceMethod ⟨owner, x.name, x.desc⟩ ∈ lwg) (h_sel : Cond.selects cn x y ∈ lwg) (h_in1 : Cond.instanceMethod y ∈ lwg) (h_cd0 : Cond.code ⟨owner, x.name, x.desc⟩ b0 m0 r0 ∈ lwg) (hxd : x.desc = y.desc) (how : owner ≠ "java/lang/invoke/MethodHandle" ∧ owner ≠ "java/lang/invoke/VarHandle") (hrv : ∀ (H : Heap) (locs : List Loc), m_H D aC M H → va_S (m_A s0) s.heap H locs → ∃ cellB : Cell, H[b]? = some cellB ∧ cellB.vm.isStatics = false ∧ s.vm.findClass cn = some cellB.cls) (hn : As.length = n) (hst : st0 = As.reverse ++ .ref b :: rest) (hW : (rest.map fun v => v.category).sum ≤ 8)
    (hfr : d + 1 ≤ R.frames ∧ 8 + (nLc + 11) + 100 * (d + 1) ≤ R.locals) (hf : cells + mc ≤ R.cells ∧ slots + ms ≤ R.slots)
    (kx : ∀ (E : String) (M' : m_M) (ce : Cell) (q9 : Addr) (H1 : Heap) (locs1 : List Loc) (ls : Array Slot), lv_has ls nL lv → px E M' → m_H D aC M' H1 → va_S (m_A s0) s.heap H1 locs1 → H1[q9]? = some ce → ce.vm = .none → s.vm.findClass E = some ce.cls → vx_W p l e R s m args below meth c H1 locs1 (cells + mc) (slots + ms) Q (F0 m pc ls rest) q9)
    (kk : ∀ (v : Option Value) (M' : m_M), post v M' → m_W D aC s0 nL p l e R s m args below meth c (cells + mc) (slots + ms) Q (pc + 3) lv (v.toList ++ rest) M') : m_W D aC s0 nL p l e R s m args below meth c cells slots Q pc lv st0 M := by
  intro H locs ls h1 h2 h3
  have hpS := m_preS C (As := .ref b :: As) h2 h3
  have hts := C.2.2.2.2.1
  have hcw : va_CU R s args own cn owner idx x y bytes nLc ret (m_ws y bytes nLc ret) (m_R d mc ms) mc ms n := by
    refine ⟨⟨rfl, rfl, hfr.1, hfr.2, pay_in hts (m_good y hcd.1), List.mem_cons_self⟩, hts _ hcd.1, hts _ hcd.2.1, how, fun sig h => ?_, hts _ h_link, hts _ h_same, va_Decl.of (hts _ h_in0) (hts _ h_cd0), hts _ h_sel, hts _ h_in1⟩
    have h2 := hcd.2.2.2.2
    rw [← hxd] at h2
    rw [h] at h2
    exact (Option.some.inj h2).symm
  exact m_after (vx_runU (C := cn) (As := As) (b := b) (rest := rest) (m_fix C) hM hcw ⟨hpS.1, hrv H locs h2 h3, hpS.2⟩ rfl hn h1.1 hst (by show 2 * 0 + _ ≤ 8; omega) hd hf) h1 h3 (fun E M' ce q9 H1 locs1 a1 a2 a3 a4 a5 a6 => kx E M' ce q9 H1 locs1 ls h1 a1 a2 a3 a4 a5 a6) kk
theorem m_castB (C : m_C D aC s0 RJ7 cc nL l p s m args meth c) {a n : Nat} {f : Int → Int} (hd : decode cc pc = .ok (.checkcast 311, 3)) (hM : M.2 a = some (m_ia 2 n f)) (kk : m_W D aC s0 nL p l e R s m args below meth c cells slots Q (pc + 3) lv (.ref a :: st) M) : m_W D aC s0 nL p l e R s m args below meth c cells slots Q pc lv (.ref a :: st) M := by
  intro H locs ls h1 h2 h3
  have hK := m_Ks C.2.2.2.2.2.2.2.1 C.2.2.2.2.2.2.1
  have hnm : s.vm.findClass "[B" = some (aC 2) := va_nm_byte (hK.2 2 (by decide)).2
  intro T hT X
  obtain ⟨vm', X', st9⟩ := X.checkcastYes C.1 C.2.2.2.1 (C.2.2.2.2.1 _ kc_311) (by rw [hT]; exact h2.2 a _ hM) rfl hnm (va_asg _ _) (g := F0 m pc ls (.ref a :: st)) rfl rfl (by rw [C.2.1]; exact hd)
  obtain ⟨t, a1, b1⟩ := kk H locs ls h1 h2 h3 (T.setVm vm') hT X'
  exact ⟨t, st9 t a1, b1⟩
end m_STR
