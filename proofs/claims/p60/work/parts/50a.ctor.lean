section
variable {D : va_G} {aC : Nat → ClassId} {s0 : State} {own : String} {cc : ByteArray} {nL : Nat} {p : Program} {l : Launch} {e : Env} {R : Room} {s : State} {m : MethodId} {args : Array Value} {below : List Frame} {meth : Method} {c : Code} {cells slots : Nat} {Q : State → Prop} {pc : Nat} {lv : List (Nat × Value)} {st : List Value} {M : m_M}
theorem n_newa (C : m_C D aC s0 own cc nL l p s m args meth c) {atype : ArrayType} {k n a : Nat} {z : Int} (hd : decode cc pc = .ok (.newarray atype, 2)) (hk : k < 8) (hty : newarray.typeOf atype = m_ty k) (hdf : defaultValue (m_ty k) = VI 0) (hw : Cond.arrayClass (m_ty k) ∈ lwg) (hra : ∀ cA, va_RA s cA (m_ty k) ↔ s.vm.findClass ("[" ++ (m_ty k).toString) = some cA) (hz : z = (n : Int)) (hn : n < 65536) (hby : componentBytes (m_ty k) ≤ 8) (hcells : cells + 1 ≤ R.cells) (hslots : slots + n ≤ R.slots) (hsz : M.1 = a) (kk : ∀ M1 : m_M, M1.1 = a + 1 → M1.2 a = some (m_ia k n (fun _ => 0)) → (∀ q : Nat, q ≠ a → M1.2 q = M.2 q) → m_W D aC s0 nL p l e R s m args below meth c (cells + 1) (slots + n) Q (pc + 2) lv (.ref a :: st) M1) : m_W D aC s0 nL p l e R s m args below meth c cells slots Q pc lv (VI z :: st) M := by
  subst hsz
  exact m_newa C hd hk hty hdf hw hra hz hn hby hcells hslots (kk _ rfl m_push_eq (fun q hq => m_push_ne hq))
theorem n_new (C : m_C D aC s0 own cc nL l p s m args meth c) {idx ci N a : Nat} {CC : String} {T : u_T} {ty : Nat → FieldType} {fs : List Value} (hd : decode cc pc = .ok (.new idx, 3)) (hc : vwCl[ci]? = some (CC, T, N)) (hty : ∀ k, k < N → parseFieldDescriptor (T k).2.2.1 = some (ty k)) (hin : ∀ w ∈ u_ws CC T N, w ∈ lwg) (hcl : Cond.classLink own idx CC ∈ lwg) (hinst : Cond.instantiable CC N ∈ lwg) (hini : Cond.initialized CC ∈ lwg) (hfs : ∀ j, j < N → defaultValue (ty j) = vp_V fs j) (hcells : cells + 1 ≤ R.cells) (hslots : slots + N ≤ R.slots) (hsz : M.1 = a) (kk : ∀ M1 : m_M, M1.1 = a + 1 → M1.2 a = some (m_ob ci fs) → (∀ q : Nat, q ≠ a → M1.2 q = M.2 q) → m_W D aC s0 nL p l e R s m args below meth c (cells + 1) (slots + N) Q (pc + 3) lv (.ref a :: st) M1) : m_W D aC s0 nL p l e R s m args below meth c cells slots Q pc lv st M := by
  subst hsz
  exact m_new C hd hc hty hin hcl hinst hini hfs hcells hslots (kk _ rfl m_push_eq (fun q hq => m_push_ne hq))
theorem n_putF (C : m_C D aC s0 own cc nL l p s m args meth c) {idx ci k a : Nat} {fs : List Value} {v : Value} {ty : FieldType} (hd : decode cc pc = .ok (.putfield idx, 3)) (hf : m_fl own idx ci k) (hw : m_fw ci k ty true own) (hin2 : meth.name = "<init>") (hM : M.2 a = some (m_ob ci fs)) (ha : s0.heap.size ≤ a) (hl : k < fs.length) (hn : narrow ty v = v) (hfit : fits ty v = true) (kk : ∀ M1 : m_M, M1.1 = M.1 → M1.2 a = some (m_ob ci (fs.set k v)) → (∀ q : Nat, q ≠ a → M1.2 q = M.2 q) → m_W D aC s0 nL p l e R s m args below meth c cells slots Q (pc + 3) lv st M1) : m_W D aC s0 nL p l e R s m args below meth c cells slots Q pc lv (v :: .ref a :: st) M := m_putF C hd hf hw hin2 hM ha hl hn hfit (kk _ rfl m_up_eq (fun q hq => m_up_ne hq))
theorem n_putf (C : m_C D aC s0 own cc nL l p s m args meth c) {idx ci k a : Nat} {fs : List Value} {v : Value} {ty : FieldType} {decl : String} (hd : decode cc pc = .ok (.putfield idx, 3)) (hf : m_fl own idx ci k) (hw : m_fw ci k ty false decl) (hM : M.2 a = some (m_ob ci fs)) (ha : s0.heap.size ≤ a) (hl : k < fs.length) (hn : narrow ty v = v) (hfit : fits ty v = true) (kk : ∀ M1 : m_M, M1.1 = M.1 → M1.2 a = some (m_ob ci (fs.set k v)) → (∀ q : Nat, q ≠ a → M1.2 q = M.2 q) → m_W D aC s0 nL p l e R s m args below meth c cells slots Q (pc + 3) lv st M1) : m_W D aC s0 nL p l e R s m args below meth c cells slots Q pc lv (v :: .ref a :: st) M := m_putf C hd hf hw hM ha hl hn hfit (kk _ rfl m_up_eq (fun q hq => m_up_ne hq))
theorem n_iast (C : m_C D aC s0 own cc nL l p s m args meth c) {a n : Nat} {g : Int → Int} {i z : Int} (hd : decode cc pc = .ok (.iastore, 1)) (hM : M.2 a = some (m_ia 0 n g)) (ha : s0.heap.size ≤ a) (hn : n < 2147483648) (h : 0 ≤ i ∧ i < (n : Int)) (kk : ∀ M1 : m_M, M1.1 = M.1 → M1.2 a = some (m_ia 0 n (m_ug g i z)) → (∀ q : Nat, q ≠ a → M1.2 q = M.2 q) → m_W D aC s0 nL p l e R s m args below meth c cells slots Q (pc + 1) lv st M1) : m_W D aC s0 nL p l e R s m args below meth c cells slots Q pc lv (VI z :: VI i :: .ref a :: st) M := m_iast C hd hM ha hn h (kk _ rfl m_up_eq (fun q hq => m_up_ne hq))
theorem n_aast (C : m_C D aC s0 own cc nL l p s m args meth c) {a n k b ci : Nat} {CC : String} {T : u_T} {N : Nat} {f : Nat → Value} {fs : List Value} {i : Int} (hd : decode cc pc = .ok (.aastore, 1)) (hM : M.2 a = some (m_va k n f)) (hk : k < 8) (hr : m_ty k = .object CC) (hb : M.2 b = some (m_ob ci fs)) (hc : vwCl[ci]? = some (CC, T, N)) (ha : s0.heap.size ≤ a) (hn : n < 2147483648) (h : 0 ≤ i ∧ i < (n : Int)) (kk : ∀ M1 : m_M, M1.1 = M.1 → M1.2 a = some (m_va k n (updV f i.toNat (.ref b))) → (∀ q : Nat, q ≠ a → M1.2 q = M.2 q) → m_W D aC s0 nL p l e R s m args below meth c cells slots Q (pc + 1) lv st M1) : m_W D aC s0 nL p l e R s m args below meth c cells slots Q pc lv (.ref b :: VI i :: .ref a :: st) M := m_aast C hd hM hk hr hb hc ha hn h (kk _ rfl m_up_eq (fun q hq => m_up_ne hq))
theorem n_anew (C : m_C D aC s0 own cc nL l p s m args meth c) {idx k n a : Nat} {CC : String} {z : Int} (hAO : va_AO CC s0) (hd : decode cc pc = .ok (.anewarray idx, 3)) (hcl : Cond.classLink own idx CC ∈ lwg) (hk : k < 8) (hty : m_ty k = .object CC) (hz : z = (n : Int)) (hn : n < 65536) (hcells : cells + 1 ≤ R.cells) (hslots : slots + n ≤ R.slots) (hsz : M.1 = a) (kk : ∀ M1 : m_M, M1.1 = a + 1 → M1.2 a = some (m_va k n (fun _ => .null)) → (∀ q : Nat, q ≠ a → M1.2 q = M.2 q) → m_W D aC s0 nL p l e R s m args below meth c (cells + 1) (slots + n) Q (pc + 3) lv (.ref a :: st) M1) : m_W D aC s0 nL p l e R s m args below meth c cells slots Q pc lv (VI z :: st) M := by
  intro H locs ls h1 h2 h3
  subst hz
  subst hsz
  have hK := m_Ks C.2.2.2.2.2.2.2.1 C.2.2.2.2.2.2.1
  have hAO1 : va_AO CC s := va_AO.moved C.2.2.2.2.2.2.1.1.alike hAO
  have hN : (nI n).toNatClampNeg = n := nI_clamp (by omega)
  rw [show VI (n : Int) = .int (nI n) from congrArg Value.int (m_nn n)]
  refine W.anew (own := own) (C := CC) (index := idx) C.1 C.2.1 C.2.2.2.1 (C.2.2.2.2.1 _ hcl) (va_AO.use hAO1) (g := F0 m pc ls _) rfl hd rfl (nI_pos (by omega)) (by rw [hN]; omega) hcells (by rw [hN]; exact hslots) fun cA kA comp f1 f2 f3 f4 => ?_
  rw [hN]
  have hRA := (hK.2 k hk).2
  rw [hty] at hRA
  obtain ⟨kA9, comp9, -, -, -, k4⟩ := hRA
  have hcA : cA = aC k := Option.some.inj (f1.symm.trans k4)
  subst hcA
  generalize hH1 : H.push ({ cls := aC k, slots := Array.replicate n .null, vm := .none } : Cell) = H1
  have z1 : H1.size = H.size + 1 := by rw [← hH1, Array.size_push]
  have e1 : H1[H.size]? = some (arrV (aC k) n (fun _ => .null)) := by rw [← hH1, Array.getElem?_push_size, ← arrV_new]
  have o1 : ∀ q : Nat, q < H.size → H1[q]? = H[q]? := fun q hq => by rw [← hH1, Array.getElem?_push, if_neg (Nat.ne_of_lt hq)]
  have hk9 := kk (m_push M (m_va k n (fun _ => .null))) rfl m_push_eq (fun q hq => m_push_ne hq)
  rw [← h2.1] at hk9
  exact hk9 H1 locs ls h1 (h2.push (by rw [← h2.1]; exact e1) z1 o1) (m_S.push h3 z1 o1)
/-- the same array, said by another function -/
theorem n_norm {a : Nat} {e0 e1 : m_E} (hM : M.2 a = some e0) (he : ∀ H : Heap, m_at D aC a e0 H → m_at D aC a e1 H) (kk : ∀ M1 : m_M, M1.1 = M.1 → M1.2 a = some (e1) → (∀ q : Nat, q ≠ a → M1.2 q = M.2 q) → m_W D aC s0 nL p l e R s m args below meth c cells slots Q pc lv st M1) : m_W D aC s0 nL p l e R s m args below meth c cells slots Q pc lv st M := fun H locs ls h1 h2 h3 => kk (m_up M a e1) rfl m_up_eq (fun q hq => m_up_ne hq) H locs ls h1 ⟨h2.1, fun q e9 hq => by
    by_cases z : q = a
    · subst z
      rw [m_up_eq] at hq
      cases hq
      exact he H (h2.2 _ _ hM)
    · rw [m_up_ne z] at hq
      exact h2.2 q e9 hq⟩ h3
end
theorem arrV_cg {cA : ClassId} {n : Nat} {f f2 : Nat → Value} (h : ∀ j, j < n → f j = f2 j) : arrV cA n f = arrV cA n f2 := by
  unfold arrV
  congr 2
  funext j
  exact h j.val j.isLt
theorem n_ia {D : va_G} {aC : Nat → ClassId} {a k n : Nat} {g g2 : Int → Int} (h : ∀ j : Nat, j < n → g (j : Int) = g2 (j : Int)) : ∀ H : Heap, m_at D aC a (m_ia k n g) H → m_at D aC a (m_ia k n g2) H := fun H q => Eq.trans q (congrArg some (arrV_cg (fun j hj => by rw [h j hj])))
theorem n_va {D : va_G} {aC : Nat → ClassId} {a k n : Nat} {f f2 : Nat → Value} (h : ∀ j : Nat, j < n → f j = f2 j) : ∀ H : Heap, m_at D aC a (m_va k n f) H → m_at D aC a (m_va k n f2) H := fun H q => Eq.trans q (congrArg some (arrV_cg h))
/-- rows filled so far -/
def c_fi (s t b k : Nat) : Nat → Value := fun j => if j < k then .ref (b + s + t * j) else .null
theorem c_fi_0 {s t b : Nat} : (fun _ : Nat => Value.null) = c_fi s t b 0 := by
  funext j
  unfold c_fi
  rw [if_neg (Nat.not_lt_zero j)]
theorem c_fi_s {s t b k a : Nat} (h : a = b + s + t * k) : updV (c_fi s t b k) ((k : Nat) : Int).toNat (.ref a) = c_fi s t b (k + 1) := by
  subst h
  funext j
  have e : ((k : Nat) : Int).toNat = k := rfl
  rw [e]
  unfold updV c_fi
  by_cases hq : j = k
  · rw [if_pos hq, if_pos (by omega), hq]
  · rw [if_neg hq]
    by_cases hz : j < k
    · rw [if_pos hz, if_pos (by omega)]
    · rw [if_neg hz, if_neg (by omega)]
/-- a new household -/
def h_0 : h_T := fun c i => if c = 0 ∧ i = 1 then 100 else if c = 1 then 20 else 0
def m_AO (s0 : State) : Prop := va_AO RX7 s0 ∧ va_AO RX2 s0

set_option maxHeartbeats 4000000 in
set_option maxRecDepth 100000 in
theorem t_X1_init {D : va_G} {aC : Nat → ClassId} {s0 : State} {l : Launch} (hF : m_F D aC s0) (hl : l.stackTraces = false) {b : Nat} {M : m_M} (hsz : M.1 = b + 1) (hb : s0.heap.size ≤ b) (hM : M.2 b = some (m_ob 4 [.null, .null, VI 0])) : m_Met D aC s0 l yX1_init cX1_init 1 none 1 (2) (8) [.ref b] M (fun v M' => v = none ∧ M'.1 = b + 3 ∧ brP b h_0 M' ∧ (∀ q : Nat, q < b → M'.2 q = M.2 q)) m_nx := by
  refine m_entry (lv := [(0, .ref b)]) (by decide +kernel) (Nat.le_of_ble_eq_true rfl) rfl hF hl ?_
  intro p e s m args below meth c hC hr hno hnm
  change m_C D aC s0 RX1 _ _ _ _ _ _ _ _ _ at hC
  refine m_aload_n hC 0 dX1_init_0 rfl rfl ?_
  refine m_obji hC dX1_init_1 ko_X1_3 ko_inst ko_code (by decide) (by decide) ?_
  refine m_aload_n hC 0 dX1_init_4 rfl rfl ?_
  refine m_iconst hC dX1_init_5 ?_
  refine n_newa (a := b + 1) (k := 0) (n := 4) hC dX1_init_6 (by decide) rfl rfl ka_int (fun _ => Iff.rfl) rfl (by decide) (by decide) (Nat.le_of_ble_eq_true rfl) (Nat.le_of_ble_eq_true rfl) (by omega) (fun M1 zM1 hM1 fM1 => ?_)
  have hM1_0 := (fM1 _ (by omega)).trans hM
  clear hsz
  refine n_putF hC dX1_init_8 kf_X1_9 kw_4_0 (hnm.trans rfl) hM1_0 (by omega) (Nat.le_of_ble_eq_true rfl) rfl rfl (fun M2 zM2 hM2 fM2 => ?_)
  change M2.2 _ = some (m_ob 4 [.ref (b + 1), .null, VI 0]) at hM2
  replace zM2 := zM2.trans zM1
  clear zM1
  have hM2_1 := (fM2 _ (by omega)).trans hM1
  refine m_aload_n hC 0 dX1_init_11 rfl rfl ?_
  refine m_iconst hC dX1_init_12 ?_
  refine n_newa (a := b + 2) (k := 1) (n := 4) hC dX1_init_13 (by decide) rfl rfl ka_boolean (fun _ => Iff.rfl) rfl (by decide) (by decide) (Nat.le_of_ble_eq_true rfl) (Nat.le_of_ble_eq_true rfl) (by omega) (fun M3 zM3 hM3 fM3 => ?_)
  have hM3_0 := (fM3 _ (by omega)).trans hM2
  have hM3_1 := (fM3 _ (by omega)).trans hM2_1
  clear zM2
  refine n_putF hC dX1_init_15 kf_X1_15 kw_4_1 (hnm.trans rfl) hM3_0 (by omega) (Nat.le_of_ble_eq_true rfl) rfl rfl (fun M4 zM4 hM4 fM4 => ?_)
  change M4.2 _ = some (m_ob 4 [.ref (b + 1), .ref (b + 2), VI 0]) at hM4
  replace zM4 := zM4.trans zM3
  clear zM3
  have hM4_1 := (fM4 _ (by omega)).trans hM3_1
  have hM4_2 := (fM4 _ (by omega)).trans hM3
  refine m_aload_n hC 0 dX1_init_18 rfl rfl ?_
  refine m_iconst hC dX1_init_19 ?_
  refine n_putf hC dX1_init_20 kf_X1_19 kw_4_2 hM4 (by omega) (Nat.le_of_ble_eq_true rfl) rfl rfl (fun M5 zM5 hM5 fM5 => ?_)
  change M5.2 _ = some (m_ob 4 [.ref (b + 1), .ref (b + 2), VI 0]) at hM5
  replace zM5 := zM5.trans zM4
  clear zM4
  have hM5_1 := (fM5 _ (by omega)).trans hM4_1
  have hM5_2 := (fM5 _ (by omega)).trans hM4_2
  exact m_vret hC dX1_init_23 hr (Nat.le_of_ble_eq_true rfl) (Nat.le_of_ble_eq_true rfl) ⟨rfl, by omega, ⟨hM5, hM5_1, hM5_2⟩, (fun q hq => by rw [fM5 q (by omega)]; rw [fM4 q (by omega)]; rw [fM3 q (by omega)]; rw [fM2 q (by omega)]; rw [fM1 q (by omega)])⟩

set_option maxHeartbeats 4000000 in
set_option maxRecDepth 100000 in
theorem t_X5_init {D : va_G} {aC : Nat → ClassId} {s0 : State} {l : Launch} (hF : m_F D aC s0) (hl : l.stackTraces = false) {b : Nat} {M : m_M} (hsz : M.1 = b + 1) (hb : s0.heap.size ≤ b) (hM : M.2 b = some (m_ob 7 [.null, .null, .null, .null, .null, VI 0])) : m_Met D aC s0 l yX5_init cX5_init 1 none 1 (5) (25) [.ref b] M (fun v M' => v = none ∧ M'.1 = b + 6 ∧ goP b h_0 M' ∧ (∀ q : Nat, q < b → M'.2 q = M.2 q)) m_nx := by
  refine m_entry (lv := [(0, .ref b)]) (by decide +kernel) (Nat.le_of_ble_eq_true rfl) rfl hF hl ?_
  intro p e s m args below meth c hC hr hno hnm
  change m_C D aC s0 RX5 _ _ _ _ _ _ _ _ _ at hC
  refine m_aload_n hC 0 dX5_init_0 rfl rfl ?_
  refine m_obji hC dX5_init_1 ko_X5_3 ko_inst ko_code (by decide) (by decide) ?_
  refine m_aload_n hC 0 dX5_init_4 rfl rfl ?_
  refine m_iconst hC dX5_init_5 ?_
  refine n_newa (a := b + 1) (k := 0) (n := 5) hC dX5_init_6 (by decide) rfl rfl ka_int (fun _ => Iff.rfl) rfl (by decide) (by decide) (Nat.le_of_ble_eq_true rfl) (Nat.le_of_ble_eq_true rfl) (by omega) (fun M1 zM1 hM1 fM1 => ?_)
  have hM1_0 := (fM1 _ (by omega)).trans hM
  clear hsz
  refine n_putF hC dX5_init_8 kf_X5_9 kw_7_0 (hnm.trans rfl) hM1_0 (by omega) (Nat.le_of_ble_eq_true rfl) rfl rfl (fun M2 zM2 hM2 fM2 => ?_)
  change M2.2 _ = some (m_ob 7 [.ref (b + 1), .null, .null, .null, .null, VI 0]) at hM2
  replace zM2 := zM2.trans zM1
  clear zM1
  have hM2_1 := (fM2 _ (by omega)).trans hM1
  refine m_aload_n hC 0 dX5_init_11 rfl rfl ?_
  refine m_iconst hC dX5_init_12 ?_
  refine n_newa (a := b + 2) (k := 0) (n := 5) hC dX5_init_13 (by decide) rfl rfl ka_int (fun _ => Iff.rfl) rfl (by decide) (by decide) (Nat.le_of_ble_eq_true rfl) (Nat.le_of_ble_eq_true rfl) (by omega) (fun M3 zM3 hM3 fM3 => ?_)
  have hM3_0 := (fM3 _ (by omega)).trans hM2
  have hM3_1 := (fM3 _ (by omega)).trans hM2_1
  clear zM2
  refine n_putF hC dX5_init_15 kf_X5_15 kw_7_1 (hnm.trans rfl) hM3_0 (by omega) (Nat.le_of_ble_eq_true rfl) rfl rfl (fun M4 zM4 hM4 fM4 => ?_)
  change M4.2 _ = some (m_ob 7 [.ref (b + 1), .ref (b + 2), .null, .null, .null, VI 0]) at hM4
  replace zM4 := zM4.trans zM3
  clear zM3
  have hM4_1 := (fM4 _ (by omega)).trans hM3_1
  have hM4_2 := (fM4 _ (by omega)).trans hM3
  refine m_aload_n hC 0 dX5_init_18 rfl rfl ?_
  refine m_iconst hC dX5_init_19 ?_
  refine n_newa (a := b + 3) (k := 0) (n := 5) hC dX5_init_20 (by decide) rfl rfl ka_int (fun _ => Iff.rfl) rfl (by decide) (by decide) (Nat.le_of_ble_eq_true rfl) (Nat.le_of_ble_eq_true rfl) (by omega) (fun M5 zM5 hM5 fM5 => ?_)
  have hM5_0 := (fM5 _ (by omega)).trans hM4
  have hM5_1 := (fM5 _ (by omega)).trans hM4_1
  have hM5_2 := (fM5 _ (by omega)).trans hM4_2
  clear zM4
  refine n_putF hC dX5_init_22 kf_X5_18 kw_7_2 (hnm.trans rfl) hM5_0 (by omega) (Nat.le_of_ble_eq_true rfl) rfl rfl (fun M6 zM6 hM6 fM6 => ?_)
  change M6.2 _ = some (m_ob 7 [.ref (b + 1), .ref (b + 2), .ref (b + 3), .null, .null, VI 0]) at hM6
  replace zM6 := zM6.trans zM5
  clear zM5
  have hM6_1 := (fM6 _ (by omega)).trans hM5_1
  have hM6_2 := (fM6 _ (by omega)).trans hM5_2
  have hM6_3 := (fM6 _ (by omega)).trans hM5
  refine m_aload_n hC 0 dX5_init_25 rfl rfl ?_
  refine m_iconst hC dX5_init_26 ?_
  refine n_newa (a := b + 4) (k := 0) (n := 5) hC dX5_init_27 (by decide) rfl rfl ka_int (fun _ => Iff.rfl) rfl (by decide) (by decide) (Nat.le_of_ble_eq_true rfl) (Nat.le_of_ble_eq_true rfl) (by omega) (fun M7 zM7 hM7 fM7 => ?_)
  have hM7_0 := (fM7 _ (by omega)).trans hM6
  have hM7_1 := (fM7 _ (by omega)).trans hM6_1
  have hM7_2 := (fM7 _ (by omega)).trans hM6_2
  have hM7_3 := (fM7 _ (by omega)).trans hM6_3
  clear zM6
  refine n_putF hC dX5_init_29 kf_X5_21 kw_7_3 (hnm.trans rfl) hM7_0 (by omega) (Nat.le_of_ble_eq_true rfl) rfl rfl (fun M8 zM8 hM8 fM8 => ?_)
  change M8.2 _ = some (m_ob 7 [.ref (b + 1), .ref (b + 2), .ref (b + 3), .ref (b + 4), .null, VI 0]) at hM8
  replace zM8 := zM8.trans zM7
  clear zM7
  have hM8_1 := (fM8 _ (by omega)).trans hM7_1
  have hM8_2 := (fM8 _ (by omega)).trans hM7_2
  have hM8_3 := (fM8 _ (by omega)).trans hM7_3
  have hM8_4 := (fM8 _ (by omega)).trans hM7
  refine m_aload_n hC 0 dX5_init_32 rfl rfl ?_
  refine m_iconst hC dX5_init_33 ?_
  refine n_newa (a := b + 5) (k := 1) (n := 5) hC dX5_init_34 (by decide) rfl rfl ka_boolean (fun _ => Iff.rfl) rfl (by decide) (by decide) (Nat.le_of_ble_eq_true rfl) (Nat.le_of_ble_eq_true rfl) (by omega) (fun M9 zM9 hM9 fM9 => ?_)
  have hM9_0 := (fM9 _ (by omega)).trans hM8
  have hM9_1 := (fM9 _ (by omega)).trans hM8_1
  have hM9_2 := (fM9 _ (by omega)).trans hM8_2
  have hM9_3 := (fM9 _ (by omega)).trans hM8_3
  have hM9_4 := (fM9 _ (by omega)).trans hM8_4
  clear zM8
  refine n_putF hC dX5_init_36 kf_X5_24 kw_7_4 (hnm.trans rfl) hM9_0 (by omega) (Nat.le_of_ble_eq_true rfl) rfl rfl (fun M10 zM10 hM10 fM10 => ?_)
  change M10.2 _ = some (m_ob 7 [.ref (b + 1), .ref (b + 2), .ref (b + 3), .ref (b + 4), .ref (b + 5), VI 0]) at hM10
  replace zM10 := zM10.trans zM9
  clear zM9
  have hM10_1 := (fM10 _ (by omega)).trans hM9_1
  have hM10_2 := (fM10 _ (by omega)).trans hM9_2
  have hM10_3 := (fM10 _ (by omega)).trans hM9_3
  have hM10_4 := (fM10 _ (by omega)).trans hM9_4
  have hM10_5 := (fM10 _ (by omega)).trans hM9
  refine m_aload_n hC 0 dX5_init_39 rfl rfl ?_
  refine m_iconst hC dX5_init_40 ?_
  refine n_putf hC dX5_init_41 kf_X5_28 kw_7_5 hM10 (by omega) (Nat.le_of_ble_eq_true rfl) rfl rfl (fun M11 zM11 hM11 fM11 => ?_)
  change M11.2 _ = some (m_ob 7 [.ref (b + 1), .ref (b + 2), .ref (b + 3), .ref (b + 4), .ref (b + 5), VI 0]) at hM11
  replace zM11 := zM11.trans zM10
  clear zM10
  have hM11_1 := (fM11 _ (by omega)).trans hM10_1
  have hM11_2 := (fM11 _ (by omega)).trans hM10_2
  have hM11_3 := (fM11 _ (by omega)).trans hM10_3
  have hM11_4 := (fM11 _ (by omega)).trans hM10_4
  have hM11_5 := (fM11 _ (by omega)).trans hM10_5
  exact m_vret hC dX5_init_44 hr (Nat.le_of_ble_eq_true rfl) (Nat.le_of_ble_eq_true rfl) ⟨rfl, by omega, ⟨hM11, hM11_1, hM11_2, hM11_3, hM11_4, hM11_5⟩, (fun q hq => by rw [fM11 q (by omega)]; rw [fM10 q (by omega)]; rw [fM9 q (by omega)]; rw [fM8 q (by omega)]; rw [fM7 q (by omega)]; rw [fM6 q (by omega)]; rw [fM5 q (by omega)]; rw [fM4 q (by omega)]; rw [fM3 q (by omega)]; rw [fM2 q (by omega)]; rw [fM1 q (by omega)])⟩

set_option maxHeartbeats 4000000 in
set_option maxRecDepth 100000 in
theorem t_X3_init {D : va_G} {aC : Nat → ClassId} {s0 : State} {l : Launch} (hF : m_F D aC s0) (hl : l.stackTraces = false) {b : Nat} {M : m_M} (hsz : M.1 = b + 1) (hb : s0.heap.size ≤ b) (hM : M.2 b = some (m_ob 6 [.null, .null, .null, .null, .null, VI 0, VI 0])) : m_Met D aC s0 l yX3_init cX3_init 1 none 1 (5) (40) [.ref b] M (fun v M' => v = none ∧ M'.1 = b + 6 ∧ coP b h_0 M' ∧ (∀ q : Nat, q < b → M'.2 q = M.2 q)) m_nx := by
  refine m_entry (lv := [(0, .ref b)]) (by decide +kernel) (Nat.le_of_ble_eq_true rfl) rfl hF hl ?_
  intro p e s m args below meth c hC hr hno hnm
  change m_C D aC s0 RX3 _ _ _ _ _ _ _ _ _ at hC
  refine m_aload_n hC 0 dX3_init_0 rfl rfl ?_
  refine m_obji hC dX3_init_1 ko_X3_3 ko_inst ko_code (by decide) (by decide) ?_
  refine m_aload_n hC 0 dX3_init_4 rfl rfl ?_
  refine m_bipush hC dX3_init_5 (by decide) ?_
  refine n_newa (a := b + 1) (k := 0) (n := 8) hC dX3_init_7 (by decide) rfl rfl ka_int (fun _ => Iff.rfl) rfl (by decide) (by decide) (Nat.le_of_ble_eq_true rfl) (Nat.le_of_ble_eq_true rfl) (by omega) (fun M1 zM1 hM1 fM1 => ?_)
  have hM1_0 := (fM1 _ (by omega)).trans hM
  clear hsz
  refine n_putF hC dX3_init_9 kf_X3_9 kw_6_0 (hnm.trans rfl) hM1_0 (by omega) (Nat.le_of_ble_eq_true rfl) rfl rfl (fun M2 zM2 hM2 fM2 => ?_)
  change M2.2 _ = some (m_ob 6 [.ref (b + 1), .null, .null, .null, .null, VI 0, VI 0]) at hM2
  replace zM2 := zM2.trans zM1
  clear zM1
  have hM2_1 := (fM2 _ (by omega)).trans hM1
  refine m_aload_n hC 0 dX3_init_12 rfl rfl ?_
  refine m_bipush hC dX3_init_13 (by decide) ?_
  refine n_newa (a := b + 2) (k := 0) (n := 8) hC dX3_init_15 (by decide) rfl rfl ka_int (fun _ => Iff.rfl) rfl (by decide) (by decide) (Nat.le_of_ble_eq_true rfl) (Nat.le_of_ble_eq_true rfl) (by omega) (fun M3 zM3 hM3 fM3 => ?_)
  have hM3_0 := (fM3 _ (by omega)).trans hM2
  have hM3_1 := (fM3 _ (by omega)).trans hM2_1
  clear zM2
  refine n_putF hC dX3_init_17 kf_X3_15 kw_6_1 (hnm.trans rfl) hM3_0 (by omega) (Nat.le_of_ble_eq_true rfl) rfl rfl (fun M4 zM4 hM4 fM4 => ?_)
  change M4.2 _ = some (m_ob 6 [.ref (b + 1), .ref (b + 2), .null, .null, .null, VI 0, VI 0]) at hM4
  replace zM4 := zM4.trans zM3
  clear zM3
  have hM4_1 := (fM4 _ (by omega)).trans hM3_1
  have hM4_2 := (fM4 _ (by omega)).trans hM3
  refine m_aload_n hC 0 dX3_init_20 rfl rfl ?_
  refine m_bipush hC dX3_init_21 (by decide) ?_
  refine n_newa (a := b + 3) (k := 0) (n := 8) hC dX3_init_23 (by decide) rfl rfl ka_int (fun _ => Iff.rfl) rfl (by decide) (by decide) (Nat.le_of_ble_eq_true rfl) (Nat.le_of_ble_eq_true rfl) (by omega) (fun M5 zM5 hM5 fM5 => ?_)
  have hM5_0 := (fM5 _ (by omega)).trans hM4
  have hM5_1 := (fM5 _ (by omega)).trans hM4_1
  have hM5_2 := (fM5 _ (by omega)).trans hM4_2
  clear zM4
  refine n_putF hC dX3_init_25 kf_X3_18 kw_6_2 (hnm.trans rfl) hM5_0 (by omega) (Nat.le_of_ble_eq_true rfl) rfl rfl (fun M6 zM6 hM6 fM6 => ?_)
  change M6.2 _ = some (m_ob 6 [.ref (b + 1), .ref (b + 2), .ref (b + 3), .null, .null, VI 0, VI 0]) at hM6
  replace zM6 := zM6.trans zM5
  clear zM5
  have hM6_1 := (fM6 _ (by omega)).trans hM5_1
  have hM6_2 := (fM6 _ (by omega)).trans hM5_2
  have hM6_3 := (fM6 _ (by omega)).trans hM5
  refine m_aload_n hC 0 dX3_init_28 rfl rfl ?_
  refine m_bipush hC dX3_init_29 (by decide) ?_
  refine n_newa (a := b + 4) (k := 0) (n := 8) hC dX3_init_31 (by decide) rfl rfl ka_int (fun _ => Iff.rfl) rfl (by decide) (by decide) (Nat.le_of_ble_eq_true rfl) (Nat.le_of_ble_eq_true rfl) (by omega) (fun M7 zM7 hM7 fM7 => ?_)
  have hM7_0 := (fM7 _ (by omega)).trans hM6
  have hM7_1 := (fM7 _ (by omega)).trans hM6_1
  have hM7_2 := (fM7 _ (by omega)).trans hM6_2
  have hM7_3 := (fM7 _ (by omega)).trans hM6_3
  clear zM6
  refine n_putF hC dX3_init_33 kf_X3_21 kw_6_3 (hnm.trans rfl) hM7_0 (by omega) (Nat.le_of_ble_eq_true rfl) rfl rfl (fun M8 zM8 hM8 fM8 => ?_)
  change M8.2 _ = some (m_ob 6 [.ref (b + 1), .ref (b + 2), .ref (b + 3), .ref (b + 4), .null, VI 0, VI 0]) at hM8
  replace zM8 := zM8.trans zM7
  clear zM7
  have hM8_1 := (fM8 _ (by omega)).trans hM7_1
  have hM8_2 := (fM8 _ (by omega)).trans hM7_2
  have hM8_3 := (fM8 _ (by omega)).trans hM7_3
  have hM8_4 := (fM8 _ (by omega)).trans hM7
  refine m_aload_n hC 0 dX3_init_36 rfl rfl ?_
  refine m_bipush hC dX3_init_37 (by decide) ?_
  refine n_newa (a := b + 5) (k := 0) (n := 8) hC dX3_init_39 (by decide) rfl rfl ka_int (fun _ => Iff.rfl) rfl (by decide) (by decide) (Nat.le_of_ble_eq_true rfl) (Nat.le_of_ble_eq_true rfl) (by omega) (fun M9 zM9 hM9 fM9 => ?_)
  have hM9_0 := (fM9 _ (by omega)).trans hM8
  have hM9_1 := (fM9 _ (by omega)).trans hM8_1
  have hM9_2 := (fM9 _ (by omega)).trans hM8_2
  have hM9_3 := (fM9 _ (by omega)).trans hM8_3
  have hM9_4 := (fM9 _ (by omega)).trans hM8_4
  clear zM8
  refine n_putF hC dX3_init_41 kf_X3_24 kw_6_4 (hnm.trans rfl) hM9_0 (by omega) (Nat.le_of_ble_eq_true rfl) rfl rfl (fun M10 zM10 hM10 fM10 => ?_)
  change M10.2 _ = some (m_ob 6 [.ref (b + 1), .ref (b + 2), .ref (b + 3), .ref (b + 4), .ref (b + 5), VI 0, VI 0]) at hM10
  replace zM10 := zM10.trans zM9
  clear zM9
  have hM10_1 := (fM10 _ (by omega)).trans hM9_1
  have hM10_2 := (fM10 _ (by omega)).trans hM9_2
  have hM10_3 := (fM10 _ (by omega)).trans hM9_3
  have hM10_4 := (fM10 _ (by omega)).trans hM9_4
  have hM10_5 := (fM10 _ (by omega)).trans hM9
  refine m_aload_n hC 0 dX3_init_44 rfl rfl ?_
  refine m_iconst hC dX3_init_45 ?_
  refine n_putf hC dX3_init_46 kf_X3_27 kw_6_5 hM10 (by omega) (Nat.le_of_ble_eq_true rfl) rfl rfl (fun M11 zM11 hM11 fM11 => ?_)
  change M11.2 _ = some (m_ob 6 [.ref (b + 1), .ref (b + 2), .ref (b + 3), .ref (b + 4), .ref (b + 5), VI 0, VI 0]) at hM11
  replace zM11 := zM11.trans zM10
  clear zM10
  have hM11_1 := (fM11 _ (by omega)).trans hM10_1
  have hM11_2 := (fM11 _ (by omega)).trans hM10_2
  have hM11_3 := (fM11 _ (by omega)).trans hM10_3
  have hM11_4 := (fM11 _ (by omega)).trans hM10_4
  have hM11_5 := (fM11 _ (by omega)).trans hM10_5
  refine m_aload_n hC 0 dX3_init_49 rfl rfl ?_
  refine m_iconst hC dX3_init_50 ?_
  refine n_putf hC dX3_init_51 kf_X3_31 kw_6_6 hM11 (by omega) (Nat.le_of_ble_eq_true rfl) rfl rfl (fun M12 zM12 hM12 fM12 => ?_)
  change M12.2 _ = some (m_ob 6 [.ref (b + 1), .ref (b + 2), .ref (b + 3), .ref (b + 4), .ref (b + 5), VI 0, VI 0]) at hM12
  replace zM12 := zM12.trans zM11
  clear zM11
  have hM12_1 := (fM12 _ (by omega)).trans hM11_1
  have hM12_2 := (fM12 _ (by omega)).trans hM11_2
  have hM12_3 := (fM12 _ (by omega)).trans hM11_3
  have hM12_4 := (fM12 _ (by omega)).trans hM11_4
  have hM12_5 := (fM12 _ (by omega)).trans hM11_5
  exact m_vret hC dX3_init_54 hr (Nat.le_of_ble_eq_true rfl) (Nat.le_of_ble_eq_true rfl) ⟨rfl, by omega, ⟨hM12, hM12_1, hM12_2, hM12_3, hM12_4, hM12_5⟩, (fun q hq => by rw [fM12 q (by omega)]; rw [fM11 q (by omega)]; rw [fM10 q (by omega)]; rw [fM9 q (by omega)]; rw [fM8 q (by omega)]; rw [fM7 q (by omega)]; rw [fM6 q (by omega)]; rw [fM5 q (by omega)]; rw [fM4 q (by omega)]; rw [fM3 q (by omega)]; rw [fM2 q (by omega)]; rw [fM1 q (by omega)])⟩

