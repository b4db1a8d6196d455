/-! the law's own rows: longs, doubles, floats, its script, and handlers -/
def VL (z : Int) : Value := .long (Int32.ofInt z).toInt64
theorem l_cmp0 (x : Int64) : lg_cmp x x = Int32.ofInt 0 := by
  unfold lg_cmp
  rw [if_neg (show ¬ x > x from Int64.lt_irrefl), if_pos rfl]
  rfl
def i_ch (z : Int) : Int := (((Int32.ofInt z).toUInt32 % 65536).toNat : Int)
theorem i_ch_rg (z : Int) : 0 ≤ i_ch z ∧ i_ch z < 65536 := by
  unfold i_ch
  have : ((Int32.ofInt z).toUInt32 % 65536).toNat < 65536 := by
    rw [UInt32.toNat_mod]
    exact Nat.mod_lt _ (by decide)
  omega
theorem i_ch_eq (z : Int) : ((Int32.ofInt z).toUInt32 % 65536).toInt32 = Int32.ofInt (i_ch z) := by
  unfold i_ch
  generalize (Int32.ofInt z).toUInt32 % 65536 = u
  rw [Int32.ofInt_eq_ofNat, ← UInt32.toInt32_ofNat', UInt32.ofNat_toNat]
theorem arrV_congr1 {cI : ClassId} {f g : Nat → Value} (h : f 0 = g 0) : arrV cI 1 f = arrV cI 1 g := by
  have e : (fun j : Fin 1 => f j.val) = fun j : Fin 1 => g j.val := funext fun j => by
    have hj : j.val = 0 := by omega
    rw [hj]
    exact h
  unfold arrV
  rw [e]
section m_LAWR
variable {D : va_G} {aC : Nat → ClassId} {s0 : State} {own : String} {cc : ByteArray} {nL : Nat} {p : Program} {l : Launch} {e : Env} {R : Room} {s : State} {m : MethodId} {args : Array Value} {below : List Frame} {meth : Method} {c : Code} {cells slots : Nat} {Q : State → Prop} {pc : Nat} {lv : List (Nat × Value)} {st : List Value} {M : m_M}
theorem m_lconst (C : m_C D aC s0 own cc nL l p s m args meth c) {n : Fin 2} {z : Int} (hd : decode cc pc = .ok (.lconst n, 1)) (hv : Int64.ofNat (n : Nat) = (Int32.ofInt z).toInt64) (k : m_W D aC s0 nL p l e R s m args below meth c cells slots Q (pc + 1) lv (VL z :: st) M) : m_W D aC s0 nL p l e R s m args below meth c cells slots Q pc lv st M := fun H locs ls h1 h2 h3 => lv_lconst C.1 C.2.1 hd hv (k H locs ls h1 h2 h3)
theorem m_i2l (C : m_C D aC s0 own cc nL l p s m args meth c) {z : Int} (hd : decode cc pc = .ok (.i2l, 1)) (k : m_W D aC s0 nL p l e R s m args below meth c cells slots Q (pc + 1) lv (VL z :: st) M) : m_W D aC s0 nL p l e R s m args below meth c cells slots Q pc lv (VI z :: st) M := fun H locs ls h1 h2 h3 => lv_i2l C.1 C.2.1 hd rfl (k H locs ls h1 h2 h3)
theorem m_lcmp0 (C : m_C D aC s0 own cc nL l p s m args meth c) {z : Int} (hd : decode cc pc = .ok (.lcmp, 1)) (k : m_W D aC s0 nL p l e R s m args below meth c cells slots Q (pc + 1) lv (VI 0 :: st) M) : m_W D aC s0 nL p l e R s m args below meth c cells slots Q pc lv (VL z :: VL z :: st) M := fun H locs ls h1 h2 h3 => W.lcmp C.1 C.2.1 hd (by rw [l_cmp0]; exact k H locs ls h1 h2 h3)
theorem m_i2cx (C : m_C D aC s0 own cc nL l p s m args meth c) {z : Int} (hd : decode cc pc = .ok (.i2c, 1)) (k : m_W D aC s0 nL p l e R s m args below meth c cells slots Q (pc + 1) lv (VI (i_ch z) :: st) M) : m_W D aC s0 nL p l e R s m args below meth c cells slots Q pc lv (VI z :: st) M := fun H locs ls h1 h2 h3 => lv_i2c C.1 C.2.1 hd (i_ch_eq z) (k H locs ls h1 h2 h3)
theorem m_i2d (C : m_C D aC s0 own cc nL l p s m args meth c) {z : Int} (hd : decode cc pc = .ok (.i2d, 1)) (k : m_W D aC s0 nL p l e R s m args below meth c cells slots Q (pc + 1) lv (.double (FP.i2d (Int32.ofInt z)) :: st) M) : m_W D aC s0 nL p l e R s m args below meth c cells slots Q pc lv (VI z :: st) M := fun H locs ls h1 h2 h3 => lv_i2d C.1 C.2.1 hd (k H locs ls h1 h2 h3)
theorem m_i2f (C : m_C D aC s0 own cc nL l p s m args meth c) {z : Int} (hd : decode cc pc = .ok (.i2f, 1)) (k : m_W D aC s0 nL p l e R s m args below meth c cells slots Q (pc + 1) lv (.float (FP.i2f (Int32.ofInt z)) :: st) M) : m_W D aC s0 nL p l e R s m args below meth c cells slots Q pc lv (VI z :: st) M := fun H locs ls h1 h2 h3 => lv_i2f C.1 C.2.1 hd (k H locs ls h1 h2 h3)
theorem m_ldcd (C : m_C D aC s0 own cc nL l p s m args meth c) {idx : Nat} {v : UInt64} (hd : decode cc pc = .ok (.ldc2_w idx, 3)) (hw : Cond.constantDouble own idx v ∈ lwg) (k : m_W D aC s0 nL p l e R s m args below meth c cells slots Q (pc + 3) lv (.double v :: st) M) : m_W D aC s0 nL p l e R s m args below meth c cells slots Q pc lv st M := fun H locs ls h1 h2 h3 => lv_ldc2d C.1 C.2.1 C.2.2.2.1 (C.2.2.2.2.1 _ hw) hd (k H locs ls h1 h2 h3)
theorem m_ddiv (C : m_C D aC s0 own cc nL l p s m args meth c) {x y : UInt64} (hd : decode cc pc = .ok (.ddiv, 1)) (hn : vf_n64 (FP.ddiv x y)) (k : m_W D aC s0 nL p l e R s m args below meth c cells slots Q (pc + 1) lv (.double (FP.ddiv x y) :: st) M) : m_W D aC s0 nL p l e R s m args below meth c cells slots Q pc lv (.double y :: .double x :: st) M := fun H locs ls h1 h2 h3 => lv_ddiv C.1 C.2.1 hd hn (k H locs ls h1 h2 h3)
theorem m_fdiv (C : m_C D aC s0 own cc nL l p s m args meth c) {x y : UInt32} (hd : decode cc pc = .ok (.fdiv, 1)) (hn : vf_n32 (FP.fdiv x y)) (k : m_W D aC s0 nL p l e R s m args below meth c cells slots Q (pc + 1) lv (.float (FP.fdiv x y) :: st) M) : m_W D aC s0 nL p l e R s m args below meth c cells slots Q pc lv (.float y :: .float x :: st) M := fun H locs ls h1 h2 h3 => lv_fdiv C.1 C.2.1 hd hn (k H locs ls h1 h2 h3)
theorem m_fc0 (C : m_C D aC s0 own cc nL l p s m args meth c) (hd : decode cc pc = .ok (.fconst 0, 1)) (k : m_W D aC s0 nL p l e R s m args below meth c cells slots Q (pc + 1) lv (.float FP.fconst0 :: st) M) : m_W D aC s0 nL p l e R s m args below meth c cells slots Q pc lv st M := fun H locs ls h1 h2 h3 => lv_fconst0 C.1 C.2.1 hd (k H locs ls h1 h2 h3)
theorem m_f2d (C : m_C D aC s0 own cc nL l p s m args meth c) {x : UInt32} (hd : decode cc pc = .ok (.f2d, 1)) (hn : vf_n64 (FP.f2d x)) (k : m_W D aC s0 nL p l e R s m args below meth c cells slots Q (pc + 1) lv (.double (FP.f2d x) :: st) M) : m_W D aC s0 nL p l e R s m args below meth c cells slots Q pc lv (.float x :: st) M := fun H locs ls h1 h2 h3 => lv_f2d C.1 C.2.1 hd hn (k H locs ls h1 h2 h3)
theorem m_dcmp0 (C : m_C D aC s0 own cc nL l p s m args meth c) {x : UInt64} {op : CmpOp} (hd : decode cc pc = .ok (.dcmp op, 1)) (hn : vf_n64 x) (k : m_W D aC s0 nL p l e R s m args below meth c cells slots Q (pc + 1) lv (VI 0 :: st) M) : m_W D aC s0 nL p l e R s m args below meth c cells slots Q pc lv (.double x :: .double x :: st) M := fun H locs ls h1 h2 h3 => lv_dcmp C.1 C.2.1 hd (by rw [cmp0 hn]; exact k H locs ls h1 h2 h3)
theorem m_dload (C : m_C D aC s0 own cc nL l p s m args meth c) {i : Nat} {x : UInt64} (q : Nat) (hd : decode cc pc = .ok (.dload i, 2)) (hl : lv[q]? = some (i, .double x)) (k : m_W D aC s0 nL p l e R s m args below meth c cells slots Q (pc + 2) lv (.double x :: st) M) : m_W D aC s0 nL p l e R s m args below meth c cells slots Q pc lv st M := fun H locs ls h1 h2 h3 => lv_dload C.1 C.2.1 hd (lv_at h1 q hl) (k H locs ls h1 h2 h3)
theorem m_fload (C : m_C D aC s0 own cc nL l p s m args meth c) {i : Nat} {x : UInt32} (q : Nat) (hd : decode cc pc = .ok (.fload i, 2)) (hl : lv[q]? = some (i, .float x)) (k : m_W D aC s0 nL p l e R s m args below meth c cells slots Q (pc + 2) lv (.float x :: st) M) : m_W D aC s0 nL p l e R s m args below meth c cells slots Q pc lv st M := fun H locs ls h1 h2 h3 => lv_fload C.1 C.2.1 hd (lv_at h1 q hl) (k H locs ls h1 h2 h3)
theorem m_dstore (C : m_C D aC s0 own cc nL l p s m args meth c) {i : Nat} {x : UInt64} {lv2 : List (Nat × Value)} (hd : decode cc pc = .ok (.dstore i, 2)) (hn : i + 1 < nL) (hl : (i, Value.double x) :: lv.filter (fun q => !(q.1 == i) && (!(q.1 == i + 1) && !(q.1 + 1 == i && q.2.category == 2))) = lv2) (k : m_W D aC s0 nL p l e R s m args below meth c cells slots Q (pc + 2) lv2 st M) : m_W D aC s0 nL p l e R s m args below meth c cells slots Q pc lv (.double x :: st) M := fun H locs ls h1 h2 h3 => lv_dstore C.1 C.2.1 hd h1 hn hl (fun ls2 h => k H locs ls2 h h2 h3)
theorem m_fstore (C : m_C D aC s0 own cc nL l p s m args meth c) {i : Nat} {x : UInt32} {lv2 : List (Nat × Value)} (hd : decode cc pc = .ok (.fstore i, 2)) (hn : i < nL) (hl : (i, Value.float x) :: lv.filter (fun q => !(q.1 == i) && !(q.1 + 1 == i && q.2.category == 2)) = lv2) (k : m_W D aC s0 nL p l e R s m args below meth c cells slots Q (pc + 2) lv2 st M) : m_W D aC s0 nL p l e R s m args below meth c cells slots Q pc lv (.float x :: st) M := fun H locs ls h1 h2 h3 => lv_fstore C.1 C.2.1 hd h1 hn hl (fun ls2 h => k H locs ls2 h h2 h3)
theorem m_lald (C : m_C D aC s0 own cc nL l p s m args meth c) {a n : Nat} {f : Nat → Value} {i : Int} (hd : decode cc pc = .ok (.laload, 1)) (hM : M.2 a = some (m_va 3 n f)) (hn : n < 2147483648) (h : 0 ≤ i ∧ i < (n : Int)) (kk : m_W D aC s0 nL p l e R s m args below meth c cells slots Q (pc + 1) lv (f i.toNat :: st) M) : m_W D aC s0 nL p l e R s m args below meth c cells slots Q pc lv (VI i :: .ref a :: st) M := by
  intro H locs ls h1 h2 h3
  exact W.lald (v := f i.toNat) C.1 C.2.1 (h2.2 a _ hM) (((m_Ks C.2.2.2.2.2.2.2.1 C.2.2.2.2.2.2.1).2 3 (by decide)).1 n _) (fun q => by cases q) (m_in h hn) (m_rd h hn) rfl rfl hd (kk H locs ls h1 h2 h3)
theorem m_dald (C : m_C D aC s0 own cc nL l p s m args meth c) {a n : Nat} {f : Nat → Value} {i : Int} (hd : decode cc pc = .ok (.daload, 1)) (hM : M.2 a = some (m_va 4 n f)) (hn : n < 2147483648) (h : 0 ≤ i ∧ i < (n : Int)) (kk : m_W D aC s0 nL p l e R s m args below meth c cells slots Q (pc + 1) lv (f i.toNat :: st) M) : m_W D aC s0 nL p l e R s m args below meth c cells slots Q pc lv (VI i :: .ref a :: st) M := by
  intro H locs ls h1 h2 h3
  exact W.dald (v := f i.toNat) C.1 C.2.1 (h2.2 a _ hM) (((m_Ks C.2.2.2.2.2.2.2.1 C.2.2.2.2.2.2.1).2 4 (by decide)).1 n _) (fun q => by cases q) (m_in h hn) (m_rd h hn) rfl rfl hd (kk H locs ls h1 h2 h3)
theorem m_last (C : m_C D aC s0 own cc nL l p s m args meth c) {a n : Nat} {f : Nat → Value} {i : Int} {x : Int64} (hd : decode cc pc = .ok (.lastore, 1)) (hM : M.2 a = some (m_va 3 n f)) (ha : s0.heap.size ≤ a) (hn : n < 2147483648) (h : 0 ≤ i ∧ i < (n : Int)) (kk : m_W D aC s0 nL p l e R s m args below meth c cells slots Q (pc + 1) lv st (m_up M a (m_va 3 n (updV f i.toNat (.long x))))) : m_W D aC s0 nL p l e R s m args below meth c cells slots Q pc lv (.long x :: VI i :: .ref a :: st) M := by
  intro H locs ls h1 h2 h3
  refine W.last C.1 C.2.1 (h2.2 a _ hM) (((m_Ks C.2.2.2.2.2.2.2.1 C.2.2.2.2.2.2.1).2 3 (by decide)).1 n _) (fun q => by cases q) (m_in h hn) rfl rfl hd (fun H' e1 e2 e3 => ?_)
  refine kk H' _ ls h1 (h2.up ?_ e2 e3) (m_S.put h3 ha e2 e3)
  show H'[a]? = some (arrV _ _ _)
  rw [e1, arrV_store, m_clamp h (by omega)]
theorem m_dast (C : m_C D aC s0 own cc nL l p s m args meth c) {a n : Nat} {f : Nat → Value} {i : Int} {x : UInt64} (hd : decode cc pc = .ok (.dastore, 1)) (hM : M.2 a = some (m_va 4 n f)) (ha : s0.heap.size ≤ a) (hn : n < 2147483648) (h : 0 ≤ i ∧ i < (n : Int)) (kk : m_W D aC s0 nL p l e R s m args below meth c cells slots Q (pc + 1) lv st (m_up M a (m_va 4 n (updV f i.toNat (.double x))))) : m_W D aC s0 nL p l e R s m args below meth c cells slots Q pc lv (.double x :: VI i :: .ref a :: st) M := by
  intro H locs ls h1 h2 h3
  refine W.dast C.1 C.2.1 (h2.2 a _ hM) (((m_Ks C.2.2.2.2.2.2.2.1 C.2.2.2.2.2.2.1).2 4 (by decide)).1 n _) (fun q => by cases q) (m_in h hn) rfl rfl hd (fun H' e1 e2 e3 => ?_)
  refine kk H' _ ls h1 (h2.up ?_ e2 e3) (m_S.put h3 ha e2 e3)
  show H'[a]? = some (arrV _ _ _)
  rw [e1, arrV_store, m_clamp h (by omega)]
/-- a place of one long, of one double -/
theorem m_last1 (C : m_C D aC s0 own cc nL l p s m args meth c) {a : Nat} {f : Nat → Value} {x : Int64} (hd : decode cc pc = .ok (.lastore, 1)) (hM : M.2 a = some (m_va 3 1 f)) (ha : s0.heap.size ≤ a) (kk : ∀ M1 : m_M, M1.2 a = some (m_va 3 1 (fun _ => .long x)) → m_fr a 1 M M1 → m_W D aC s0 nL p l e R s m args below meth c cells slots Q (pc + 1) lv st M1) : m_W D aC s0 nL p l e R s m args below meth c cells slots Q pc lv (.long x :: VI 0 :: .ref a :: st) M := by
  intro H locs ls h1 h2 h3
  refine W.last C.1 C.2.1 (h2.2 a _ hM) (((m_Ks C.2.2.2.2.2.2.2.1 C.2.2.2.2.2.2.1).2 3 (by decide)).1 1 _) (fun q => by cases q) (m_in (by decide) (by decide)) rfl rfl hd (fun H' e1 e2 e3 => ?_)
  refine kk _ m_up_eq (m_fr.up (by omega) (by omega)) H' _ ls h1 (h2.up ?_ e2 e3) (m_S.put h3 ha e2 e3)
  show H'[a]? = some (arrV _ _ _)
  rw [e1, arrV_store, m_clamp (i := 0) (n := 1) (by decide) (by decide)]
  exact congrArg some (arrV_congr1 rfl)
theorem m_dast1 (C : m_C D aC s0 own cc nL l p s m args meth c) {a : Nat} {f : Nat → Value} {x : UInt64} (hd : decode cc pc = .ok (.dastore, 1)) (hM : M.2 a = some (m_va 4 1 f)) (ha : s0.heap.size ≤ a) (kk : ∀ M1 : m_M, M1.2 a = some (m_va 4 1 (fun _ => .double x)) → m_fr a 1 M M1 → m_W D aC s0 nL p l e R s m args below meth c cells slots Q (pc + 1) lv st M1) : m_W D aC s0 nL p l e R s m args below meth c cells slots Q pc lv (.double x :: VI 0 :: .ref a :: st) M := by
  intro H locs ls h1 h2 h3
  refine W.dast C.1 C.2.1 (h2.2 a _ hM) (((m_Ks C.2.2.2.2.2.2.2.1 C.2.2.2.2.2.2.1).2 4 (by decide)).1 1 _) (fun q => by cases q) (m_in (by decide) (by decide)) rfl rfl hd (fun H' e1 e2 e3 => ?_)
  refine kk _ m_up_eq (m_fr.up (by omega) (by omega)) H' _ ls h1 (h2.up ?_ e2 e3) (m_S.put h3 ha e2 e3)
  show H'[a]? = some (arrV _ _ _)
  rw [e1, arrV_store, m_clamp (i := 0) (n := 1) (by decide) (by decide)]
  exact congrArg some (arrV_congr1 rfl)
theorem m_newV (C : m_C D aC s0 own cc nL l p s m args meth c) {atype : ArrayType} {k a : Nat} {v0 : Value} (hd : decode cc pc = .ok (.newarray atype, 2)) (hk : k < 8) (hty : newarray.typeOf atype = m_ty k) (hdf : defaultValue (m_ty k) = v0) (hw : Cond.arrayClass (m_ty k) ∈ lwg) (hra : ∀ cA, va_RA s cA (m_ty k) ↔ s.vm.findClass ("[" ++ (m_ty k).toString) = some cA) (hby : componentBytes (m_ty k) ≤ 8) (hcells : cells + 1 ≤ R.cells) (hslots : slots + 1 ≤ R.slots) (hsz : M.1 = a) (kk : ∀ M1 : m_M, M1.1 = a + 1 → M1.2 a = some (m_va k 1 (fun _ => v0)) → (∀ q : Nat, q ≠ a → M1.2 q = M.2 q) → m_W D aC s0 nL p l e R s m args below meth c (cells + 1) (slots + 1) Q (pc + 2) lv (.ref a :: st) M1) : m_W D aC s0 nL p l e R s m args below meth c cells slots Q pc lv (VI 1 :: st) M := by
  subst hsz
  intro H locs ls h1 h2 h3
  obtain ⟨hx, hb, hml, hown, hts, hlk, hZ, hF, hst9⟩ := C
  have hK := m_Ks hF hZ
  rw [show VI 1 = .int (nI 1) from congrArg Value.int (m_nn 1)]
  refine va_newaK (atype := atype) (N := 1) hx hb (by rw [hty]; exact hts _ hw) rfl hd rfl (nI_pos (by omega)) (nI_clamp (by omega)) ?_ hcells hslots h2.1 fun H1 cA e1 z1 o1 hAr hNm => ?_
  · rw [hty]
    omega
  · rw [hty] at e1 hNm
    have hcA : cA = aC k := Option.some.inj (hNm.symm.trans ((hra (aC k)).mp (hK.2 k hk).2))
    subst hcA
    rw [← h2.1] at z1 o1
    refine kk (m_push M (m_va k 1 (fun _ => v0))) rfl m_push_eq (fun q hq => m_push_ne hq) H1 _ ls h1 (h2.push ?_ z1 o1) (m_S.push h3 z1 o1)
    show H1[M.1]? = some (arrV _ _ _)
    rw [e1, hdf]
theorem m_dret (C : m_C D aC s0 own cc nL l p s m args meth c) {post : Option Value → m_M → Prop} {px : String → m_M → Prop} {mc ms : Nat} {x : UInt64} (hd : decode cc pc = .ok (.dreturn, 1)) (hr : meth.sig.returnType = some .double) (hc : cells ≤ mc) (hs : slots ≤ ms) (hp : post (some (.double x)) M) : m_W D aC s0 nL p l e R s m args below meth c cells slots (m_Q D aC s0 below post px args s mc ms) pc lv [.double x] M := fun H locs ls h1 h2 h3 =>
  W.widen hc hs (vx_ret (W.dret C.1 C.2.1 hr (fun t ht hW => m_ret0 (px := px) (mc := mc) (ms := ms) h2 h3 hp ht) h3.2.2 hd C.2.2.2.2.2.1))
theorem m_fret (C : m_C D aC s0 own cc nL l p s m args meth c) {post : Option Value → m_M → Prop} {px : String → m_M → Prop} {mc ms : Nat} {x : UInt32} (hd : decode cc pc = .ok (.freturn, 1)) (hr : meth.sig.returnType = some .float) (hc : cells ≤ mc) (hs : slots ≤ ms) (hp : post (some (.float x)) M) : m_W D aC s0 nL p l e R s m args below meth c cells slots (m_Q D aC s0 below post px args s mc ms) pc lv [.float x] M := fun H locs ls h1 h2 h3 =>
  W.widen hc hs (vx_ret (W.fret C.1 C.2.1 hr (fun t ht hW => m_ret0 (px := px) (mc := mc) (ms := ms) h2 h3 hp ht) h3.2.2 hd C.2.2.2.2.2.1))
/-- the script -/
theorem m_sld {b L : Nat} {xs : Nat → Int32} (C : m_C D aC s own cc nL l p s m args meth c) (hX : va_X b L xs s s.heap) (hb : b < s.heap.size) {i : Int} (hd : decode cc pc = .ok (.iaload, 1)) (h : 0 ≤ i ∧ i < (L : Int)) (hL : L ≤ 2560) (kk : m_W D aC s nL p l e R s m args below meth c cells slots Q (pc + 1) lv (VI (xs i.toNat).toInt :: st) M) : m_W D aC s nL p l e R s m args below meth c cells slots Q pc lv (VI i :: .ref b :: st) M := fun H locs ls h1 h2 h3 =>
  va_sld C.1 C.2.1 hX hb (fun z => absurd hb (Nat.not_lt.mpr z)) h3 (m_vpin h (by omega)) hd (by rw [m_clamp h (by omega), ← m_of]; exact kk H locs ls h1 h2 h3)
theorem m_slen {b L : Nat} {xs : Nat → Int32} (C : m_C D aC s own cc nL l p s m args meth c) (hX : va_X b L xs s s.heap) (hb : b < s.heap.size) (hd : decode cc pc = .ok (.arraylength, 1)) (kk : m_W D aC s nL p l e R s m args below meth c cells slots Q (pc + 1) lv (VI (L : Int) :: st) M) : m_W D aC s nL p l e R s m args below meth c cells slots Q pc lv (.ref b :: st) M := fun H locs ls h1 h2 h3 =>
  va_slen C.1 C.2.1 hX hb (fun z => absurd hb (Nat.not_lt.mpr z)) h3 hd (by rw [show Value.int (Int32.ofNat L) = VI (L : Int) from congrArg Value.int (m_nn L).symm]; exact kk H locs ls h1 h2 h3)
theorem m_icmp_same (C : m_C D aC s0 own cc nL l p s m args meth c) {v : Int32} {off : Int} {tgt : Nat} (hd : decode cc pc = .ok (.if_icmp .eq off, 3)) (ht : (pc : Int) + off = (tgt : Int)) (kt : m_W D aC s0 nL p l e R s m args below meth c cells slots Q tgt lv st M) : m_W D aC s0 nL p l e R s m args below meth c cells slots Q pc lv (.int v :: .int v :: st) M := fun H locs ls h1 h2 h3 => lv_icmp_eq C.1 C.2.1 hd ht (fun _ => kt H locs ls h1 h2 h3) (fun n => absurd rfl n)
end m_LAWR
