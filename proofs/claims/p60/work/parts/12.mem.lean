theorem m_H.up {D : va_G} {aC : Nat → ClassId} {M : m_M} {H H1 : Heap} {a : Nat} {e : m_E} (h : m_H D aC M H) (he : m_at D aC a e H1) (z : H1.size = H.size) (oq : ∀ q, q ≠ a → H1[q]? = H[q]?) : m_H D aC (m_up M a e) H1 := by
  refine ⟨z.trans h.1, fun q e' hq => ?_⟩
  by_cases hqa : q = a
  · subst hqa
    rw [m_up_eq] at hq
    cases hq
    exact he
  · rw [m_up_ne hqa] at hq
    exact (h.2 q e' hq).kept (oq q hqa)
theorem m_H.push {D : va_G} {aC : Nat → ClassId} {M : m_M} {H H1 : Heap} {e : m_E} (h : m_H D aC M H) (he : m_at D aC M.1 e H1) (z : H1.size = H.size + 1) (oq : ∀ q, q < H.size → H1[q]? = H[q]?) : m_H D aC (m_push M e) H1 := by
  refine ⟨by show H1.size = M.1 + 1; rw [z, h.1], fun q e' hq => ?_⟩
  by_cases hqa : q = M.1
  · subst hqa
    rw [m_push_eq] at hq
    cases hq
    exact he
  · rw [m_push_ne hqa] at hq
    exact (h.2 q e' hq).kept (oq q (h.2 q e' hq).lt)
theorem m_H.lt {D : va_G} {aC : Nat → ClassId} {M : m_M} {H : Heap} (h : m_H D aC M H) {a : Nat} {e : m_E} (he : M.2 a = some e) : a < M.1 := by
  have := (h.2 a e he).lt
  rw [h.1] at this
  exact this
theorem m_S.put {s0 : State} {H0 H H1 : Heap} {locs : List Loc} {a k : Nat} (h : va_S (m_A s0) H0 H locs) (ha : s0.heap.size ≤ a) (z : H1.size = H.size) (oq : ∀ q, q ≠ a → H1[q]? = H[q]?) : va_S (m_A s0) H0 H1 (locs ++ [⟨a, k⟩]) := by
  refine ⟨by rw [z]; exact h.1, fun q h1 h2 => ?_, fun x hx => ?_⟩
  · have hne : q ≠ a := fun w => h2 (by rw [w]; exact ha)
    rw [oq q hne]
    exact h.2.1 q h1 h2
  · rcases List.mem_append.mp hx with hx | hx
    · exact h.2.2 x hx
    · rw [List.mem_singleton.mp hx]
      exact ha
theorem m_S.push {s0 : State} {H0 H H1 : Heap} {locs : List Loc} (h : va_S (m_A s0) H0 H locs) (z : H1.size = H.size + 1) (oq : ∀ q, q < H.size → H1[q]? = H[q]?) : va_S (m_A s0) H0 H1 locs :=
  ⟨Nat.le_trans h.1 (by omega), fun q h1 h2 => (oq q (Nat.lt_of_lt_of_le h1 h.1)).trans (h.2.1 q h1 h2), h.2.2⟩
theorem m_Ks {D : va_G} {aC : Nat → ClassId} {s0 s : State} {H : Heap} (hF : m_F D aC s0) (hZ : m_Z s0 s H) : m_K D aC s := hF.1.moved hZ.1.alike
section m_MEM
variable {D : va_G} {aC : Nat → ClassId} {s0 : State} {own : String} {cc : ByteArray} {nL : Nat} {p : Program} {l : Launch} {e : Env} {R : Room} {s : State} {m : MethodId} {args : Array Value} {below : List Frame} {meth : Method} {c : Code} {cells slots : Nat} {Q : State → Prop} {pc : Nat} {lv : List (Nat × Value)} {st : List Value} {M : m_M}
theorem m_getf (C : m_C D aC s0 own cc nL l p s m args meth c) {idx ci k a : Nat} {fs : List Value} {v : Value} (hd : decode cc pc = .ok (.getfield idx, 3)) (hf : m_fl own idx ci k) (hM : M.2 a = some (m_ob ci fs)) (hv : fs[k]? = some v) (kk : m_W D aC s0 nL p l e R s m args below meth c cells slots Q (pc + 3) lv (v :: st) M) : m_W D aC s0 nL p l e R s m args below meth c cells slots Q pc lv (.ref a :: st) M := by
  intro H locs ls h1 h2 h3
  obtain ⟨hx, hb, hml, hown, hts, hlk, hZ, hF, hl⟩ := C
  obtain ⟨CC, T, N, hc, hk, hin, hlink⟩ := hf
  have hK := m_Ks hF hZ
  obtain ⟨r, e1, cell, q1, q2, q3, q4⟩ := h2.2 a _ hM
  have hr : r = (CC, T, N) := Option.some.inj (e1.symm.trans hc)
  subst hr
  obtain ⟨hS, hfc, kC, hkC, hkind⟩ := hK.1 ci _ hc
  obtain ⟨cf, kf, fi, f, hi, hsl⟩ := hS k hk
  refine W.getf hx hb hown (hts _ hlink) hi (u_facts hfc hkC (u_lays hts hin hk) hi).1 q1 (by rw [q3]; exact fun h => by cases h) (v := v) ?_ rfl rfl hd (kk H locs ls h1 h2 h3)
  rw [hsl, q4 k hk]
  simp [vp_V, hv]
theorem m_apart {Ts : List Cond} {CC : String} {T : u_T} {N ci : Nat} (hts : ∀ w ∈ Ts, w.before args s = true) (hin : ∀ w ∈ u_ws CC T N, w ∈ Ts) (ty : Nat → FieldType) (hty : ∀ k, k < N → parseFieldDescriptor (T k).2.2.1 = some (ty k)) (hnm : ∀ a, a < N → ∀ b, b < N → a ≠ b → (T a).2.1 ≠ (T b).2.1) (hK : m_K D aC s) (hc : vwCl[ci]? = some (CC, T, N)) : ∀ x y, x < N → y < N → x ≠ y → (D.2 ci) x ≠ (D.2 ci) y := by
  intro x y hx hy hne
  obtain ⟨hS, -⟩ := hK.1 ci _ hc
  obtain ⟨_, _, _, fa, hia, ea⟩ := hS x hx
  obtain ⟨_, _, _, fb, hib, eb⟩ := hS y hy
  rw [← ea, ← eb]
  refine u_apart (u_lays hts hin hx) (u_lays hts hin hy) hia hib ?_
  rw [(State.fieldFound?_type hia (hty x hx)).1, (State.fieldFound?_type hib (hty y hy)).1]
  exact hnm x hx y hy hne
theorem m_putf (C : m_C D aC s0 own cc nL l p s m args meth c) {idx ci k a : Nat} {fs : List Value} {v : Value} {ty : FieldType} {decl : String} (hd : decode cc pc = .ok (.putfield idx, 3)) (hf : m_fl own idx ci k) (hw : m_fw ci k ty false decl) (hM : M.2 a = some (m_ob ci fs)) (ha : s0.heap.size ≤ a) (hl : k < fs.length) (hn : narrow ty v = v) (hfit : fits ty v = true) (kk : m_W D aC s0 nL p l e R s m args below meth c cells slots Q (pc + 3) lv st (m_up M a (m_ob ci (fs.set k v)))) : m_W D aC s0 nL p l e R s m args below meth c cells slots Q pc lv (v :: .ref a :: st) M := by
  intro H locs ls h1 h2 h3
  obtain ⟨hx, hb, hml, hown, hts, hlk, hZ, hF, hst9⟩ := C
  obtain ⟨CC, T, N, hc, hk, hin, hlink⟩ := hf
  obtain ⟨CC', T', N', tyf, hc', hty, hnm, hdsc, hfin, -⟩ := hw
  cases hc.symm.trans hc'
  have hK := m_Ks hF hZ
  have hap := m_apart hts hin tyf hty hnm hK hc
  obtain ⟨r, e1, cell, q1, q2, q3, q4⟩ := h2.2 a _ hM
  have hr : r = (CC, T, N) := Option.some.inj (e1.symm.trans hc)
  subst hr
  obtain ⟨hS, hfc, kC, hkC, hkind⟩ := hK.1 ci _ hc
  obtain ⟨cf, kf, fi, f, hi, hsl⟩ := hS k hk
  have hlay := hts _ (hin _ (u_in_lay hk))
  unfold u_lay at hlay
  rw [if_neg (by rw [hfin]; decide)] at hlay
  have hst := (u_facts hfc hkC (u_lays hts hin hk) hi).1
  have h6 := u_store hfc hkC hkind hlay hi hdsc hn hfit
  refine W.putK hx hb (f := f) ⟨hown, hts _ hlink, ⟨_, _, _, hi⟩, hst⟩ (by rw [q2]; exact h6) q1 q3 (by rw [hsl]; exact k2_hasslot (q4 k hk)) rfl rfl hd fun H' e1 e2 e3 => ?_
  rw [hsl] at e1 ⊢
  exact kk H' _ ls h1 (h2.up ⟨_, hc, t_OB.to (V := updV (vp_V fs) k v) ⟨_, e1, q2, q3, t_set q4 hap hk v⟩ (fun j _ => vp_updV_set hl v j)⟩ e2 e3) (m_S.put h3 ha e2 e3)
theorem m_putF (C : m_C D aC s0 own cc nL l p s m args meth c) {idx ci k a : Nat} {fs : List Value} {v : Value} {ty : FieldType} (hd : decode cc pc = .ok (.putfield idx, 3)) (hf : m_fl own idx ci k) (hw : m_fw ci k ty true own) (hin2 : meth.name = "<init>") (hM : M.2 a = some (m_ob ci fs)) (ha : s0.heap.size ≤ a) (hl : k < fs.length) (hn : narrow ty v = v) (hfit : fits ty v = true) (kk : m_W D aC s0 nL p l e R s m args below meth c cells slots Q (pc + 3) lv st (m_up M a (m_ob ci (fs.set k v)))) : m_W D aC s0 nL p l e R s m args below meth c cells slots Q pc lv (v :: .ref a :: st) M := by
  intro H locs ls h1 h2 h3
  obtain ⟨hx, hb, hml, hown, hts, hlk, hZ, hF, hst9⟩ := C
  obtain ⟨CC, T, N, hc, hk, hin, hlink⟩ := hf
  obtain ⟨CC', T', N', tyf, hc', hty, hnm, hdsc, hfin, hdecl⟩ := hw
  cases hc.symm.trans hc'
  have hK := m_Ks hF hZ
  have hap := m_apart hts hin tyf hty hnm hK hc
  obtain ⟨r, e1, cell, q1, q2, q3, q4⟩ := h2.2 a _ hM
  have hr : r = (CC, T, N) := Option.some.inj (e1.symm.trans hc)
  subst hr
  obtain ⟨hS, hfc, kC, hkC, hkind⟩ := hK.1 ci _ hc
  obtain ⟨cf, kf, fi, f, hi, hsl⟩ := hS k hk
  have hlay := hts _ (hin _ (u_in_lay hk))
  unfold u_lay at hlay
  rw [if_pos hfin] at hlay
  have hst := (u_facts hfc hkC (u_lays hts hin hk) hi).1
  have hcf : m.cls = cf := by
    obtain ⟨_, _, c', _, _, _, -, -, hf', -, -, -, hown2, -⟩ := Cond.laysFinal_spec hlay
    have e1 : c' = cf := by have := hi.symm.trans hf'; simp at this; exact this.1.symm
    rw [hdecl] at hown2
    rw [← e1]; exact Option.some.inj (hown.symm.trans hown2)
  have h6 := u_fits hfc hkC hkind (Or.inr hlay) hi hdsc hn hfit
  refine W.putFinK hx hb hown (hts _ hlink) hi hst hcf hin2 (by rw [q2]; exact h6) q1 q3 (by rw [hsl]; exact k2_hasslot (q4 k hk)) rfl rfl hd fun H' e1 e2 e3 => ?_
  rw [hsl] at e1 ⊢
  exact kk H' _ ls h1 (h2.up ⟨_, hc, t_OB.to (V := updV (vp_V fs) k v) ⟨_, e1, q2, q3, t_set q4 hap hk v⟩ (fun j _ => vp_updV_set hl v j)⟩ e2 e3) (m_S.put h3 ha e2 e3)
theorem m_cast {i : Int} (h : 0 ≤ i) : ((i.toNat : Nat) : Int) = i := Int.toNat_of_nonneg h
theorem m_in {n : Nat} {i : Int} {cA : ClassId} {f : Nat → Value} (h : 0 ≤ i ∧ i < (n : Int)) (hn : n < 2147483648) : ¬ (Int32.ofInt i < 0 ∨ (arrV cA n f).slots.size ≤ (Int32.ofInt i).toNatClampNeg) := by
  rw [arrV_size]
  exact m_vpin h (by omega)
theorem m_rd {n : Nat} {i : Int} {cA : ClassId} {f : Nat → Value} (h : 0 ≤ i ∧ i < (n : Int)) (hn : n < 2147483648) : (arrV cA n f).slots[(Int32.ofInt i).toNatClampNeg]? = some (f i.toNat) := by
  rw [m_clamp h (by omega), arrV_read _ _ (by omega)]
theorem m_ugV (g : Int → Int) {i z : Int} (h : 0 ≤ i) : updV (fun j : Nat => VI (g (j : Int))) i.toNat (VI z) = fun j : Nat => VI (m_ug g i z (j : Int)) := by
  funext j
  unfold updV m_ug
  by_cases hj : j = i.toNat
  · rw [if_pos hj, if_pos (by omega)]
  · rw [if_neg hj, if_neg (by omega)]
theorem m_iald (C : m_C D aC s0 own cc nL l p s m args meth c) {a n : Nat} {g : Int → Int} {i : Int} (hd : decode cc pc = .ok (.iaload, 1)) (hM : M.2 a = some (m_ia 0 n g)) (hn : n < 2147483648) (h : 0 ≤ i ∧ i < (n : Int)) (kk : m_W D aC s0 nL p l e R s m args below meth c cells slots Q (pc + 1) lv (VI (g i) :: st) M) : m_W D aC s0 nL p l e R s m args below meth c cells slots Q pc lv (VI i :: .ref a :: st) M := by
  intro H locs ls h1 h2 h3
  refine W.iald (v := VI (g i)) C.1 C.2.1 (h2.2 a _ hM) (((m_Ks C.2.2.2.2.2.2.2.1 C.2.2.2.2.2.2.1).2 0 (by decide)).1 n _) (fun q => by cases q) (m_in h hn) ?_ rfl rfl hd (kk H locs ls h1 h2 h3)
  rw [m_rd h hn, m_cast h.1]
theorem m_zald (C : m_C D aC s0 own cc nL l p s m args meth c) {a n : Nat} {g : Int → Int} {i : Int} (hd : decode cc pc = .ok (.baload, 1)) (hM : M.2 a = some (m_ia 1 n g)) (hn : n < 2147483648) (h : 0 ≤ i ∧ i < (n : Int)) (kk : m_W D aC s0 nL p l e R s m args below meth c cells slots Q (pc + 1) lv (VI (g i) :: st) M) : m_W D aC s0 nL p l e R s m args below meth c cells slots Q pc lv (VI i :: .ref a :: st) M := by
  intro H locs ls h1 h2 h3
  refine W.zald (v := VI (g i)) C.1 C.2.1 (h2.2 a _ hM) (((m_Ks C.2.2.2.2.2.2.2.1 C.2.2.2.2.2.2.1).2 1 (by decide)).1 n _) (fun q => by cases q) (m_in h hn) ?_ rfl rfl hd (kk H locs ls h1 h2 h3)
  rw [m_rd h hn, m_cast h.1]
theorem m_bald (C : m_C D aC s0 own cc nL l p s m args meth c) {a n : Nat} {g : Int → Int} {i : Int} (hd : decode cc pc = .ok (.baload, 1)) (hM : M.2 a = some (m_ia 2 n g)) (hn : n < 2147483648) (h : 0 ≤ i ∧ i < (n : Int)) (kk : m_W D aC s0 nL p l e R s m args below meth c cells slots Q (pc + 1) lv (VI (g i) :: st) M) : m_W D aC s0 nL p l e R s m args below meth c cells slots Q pc lv (VI i :: .ref a :: st) M := by
  intro H locs ls h1 h2 h3
  refine W.bald (v := VI (g i)) C.1 C.2.1 (h2.2 a _ hM) (((m_Ks C.2.2.2.2.2.2.2.1 C.2.2.2.2.2.2.1).2 2 (by decide)).1 n _) (fun q => by cases q) (m_in h hn) ?_ rfl rfl hd (kk H locs ls h1 h2 h3)
  rw [m_rd h hn, m_cast h.1]
theorem m_iast (C : m_C D aC s0 own cc nL l p s m args meth c) {a n : Nat} {g : Int → Int} {i z : Int} (hd : decode cc pc = .ok (.iastore, 1)) (hM : M.2 a = some (m_ia 0 n g)) (ha : s0.heap.size ≤ a) (hn : n < 2147483648) (h : 0 ≤ i ∧ i < (n : Int)) (kk : m_W D aC s0 nL p l e R s m args below meth c cells slots Q (pc + 1) lv st (m_up M a (m_ia 0 n (m_ug g i z)))) : m_W D aC s0 nL p l e R s m args below meth c cells slots Q pc lv (VI z :: VI i :: .ref a :: st) M := by
  intro H locs ls h1 h2 h3
  refine W.iast C.1 C.2.1 (h2.2 a _ hM) (((m_Ks C.2.2.2.2.2.2.2.1 C.2.2.2.2.2.2.1).2 0 (by decide)).1 n _) (fun q => by cases q) (m_in h hn) rfl rfl hd (fun H' e1 e2 e3 => ?_)
  refine kk H' _ ls h1 (h2.up ?_ e2 e3) (m_S.put h3 ha e2 e3)
  show H'[a]? = some (arrV _ _ _)
  rw [e1, arrV_store, m_clamp h (by omega)]
  exact congrArg (fun f => some (arrV (aC 0) n f)) (m_ugV g h.1)
theorem m_zast (C : m_C D aC s0 own cc nL l p s m args meth c) {a n : Nat} {g : Int → Int} {i z : Int} (hd : decode cc pc = .ok (.bastore, 1)) (hM : M.2 a = some (m_ia 1 n g)) (ha : s0.heap.size ≤ a) (hn : n < 2147483648) (h : 0 ≤ i ∧ i < (n : Int)) (hz : z = 0 ∨ z = 1) (kk : m_W D aC s0 nL p l e R s m args below meth c cells slots Q (pc + 1) lv st (m_up M a (m_ia 1 n (m_ug g i z)))) : m_W D aC s0 nL p l e R s m args below meth c cells slots Q pc lv (VI z :: VI i :: .ref a :: st) M := by
  intro H locs ls h1 h2 h3
  refine W.zast C.1 C.2.1 (h2.2 a _ hM) (((m_Ks C.2.2.2.2.2.2.2.1 C.2.2.2.2.2.2.1).2 1 (by decide)).1 n _) (fun q => by cases q) (m_in h hn) rfl rfl hd (fun H' e1 e2 e3 => ?_)
  refine kk H' _ ls h1 (h2.up ?_ e2 e3) (m_S.put h3 ha e2 e3)
  show H'[a]? = some (arrV _ _ _)
  have hnz : narrow .boolean (.int (Int32.ofInt z)) = VI z := by rcases hz with rfl | rfl <;> rfl
  rw [e1, hnz, arrV_store, m_clamp h (by omega)]
  exact congrArg (fun f => some (arrV (aC 1) n f)) (m_ugV g h.1)
theorem m_bast (C : m_C D aC s0 own cc nL l p s m args meth c) {a n : Nat} {g : Int → Int} {i z : Int} (hd : decode cc pc = .ok (.bastore, 1)) (hM : M.2 a = some (m_ia 2 n g)) (ha : s0.heap.size ≤ a) (hn : n < 2147483648) (h : 0 ≤ i ∧ i < (n : Int)) (hz : narrow .byte (VI z) = VI z) (kk : m_W D aC s0 nL p l e R s m args below meth c cells slots Q (pc + 1) lv st (m_up M a (m_ia 2 n (m_ug g i z)))) : m_W D aC s0 nL p l e R s m args below meth c cells slots Q pc lv (VI z :: VI i :: .ref a :: st) M := by
  intro H locs ls h1 h2 h3
  refine W.bast C.1 C.2.1 (h2.2 a _ hM) (((m_Ks C.2.2.2.2.2.2.2.1 C.2.2.2.2.2.2.1).2 2 (by decide)).1 n _) (fun q => by cases q) (m_in h hn) rfl rfl hd (fun H' e1 e2 e3 => ?_)
  refine kk H' _ ls h1 (h2.up ?_ e2 e3) (m_S.put h3 ha e2 e3)
  show H'[a]? = some (arrV _ _ _)
  rw [e1, show narrow .byte (.int (Int32.ofInt z)) = VI z from hz, arrV_store, m_clamp h (by omega)]
  exact congrArg (fun f => some (arrV (aC 2) n f)) (m_ugV g h.1)
theorem m_aald (C : m_C D aC s0 own cc nL l p s m args meth c) {a n k : Nat} {f : Nat → Value} {i : Int} (hd : decode cc pc = .ok (.aaload, 1)) (hM : M.2 a = some (m_va k n f)) (hk : k < 8) (hr : (m_ty k).isReference = true) (hn : n < 2147483648) (h : 0 ≤ i ∧ i < (n : Int)) (kk : m_W D aC s0 nL p l e R s m args below meth c cells slots Q (pc + 1) lv (f i.toNat :: st) M) : m_W D aC s0 nL p l e R s m args below meth c cells slots Q pc lv (VI i :: .ref a :: st) M := by
  intro H locs ls h1 h2 h3
  exact W.aald (v := f i.toNat) C.1 C.2.1 (h2.2 a _ hM) (((m_Ks C.2.2.2.2.2.2.2.1 C.2.2.2.2.2.2.1).2 k hk).1 n _) hr (fun q => by cases q) (m_in h hn) (m_rd h hn) rfl rfl hd (kk H locs ls h1 h2 h3)
theorem m_aast (C : m_C D aC s0 own cc nL l p s m args meth c) {a n k b ci : Nat} {CC : String} {T : u_T} {N : Nat} {f : Nat → Value} {fs : List Value} {i : Int} (hd : decode cc pc = .ok (.aastore, 1)) (hM : M.2 a = some (m_va k n f)) (hk : k < 8) (hr : m_ty k = .object CC) (hb : M.2 b = some (m_ob ci fs)) (hc : vwCl[ci]? = some (CC, T, N)) (ha : s0.heap.size ≤ a) (hn : n < 2147483648) (h : 0 ≤ i ∧ i < (n : Int)) (kk : m_W D aC s0 nL p l e R s m args below meth c cells slots Q (pc + 1) lv st (m_up M a (m_va k n (updV f i.toNat (.ref b))))) : m_W D aC s0 nL p l e R s m args below meth c cells slots Q pc lv (.ref b :: VI i :: .ref a :: st) M := by
  intro H locs ls h1 h2 h3
  have hK := m_Ks C.2.2.2.2.2.2.2.1 C.2.2.2.2.2.2.1
  obtain ⟨r', hr', cellV, g1, g2, g3, -⟩ := h2.2 b _ hb
  have hcls := (hK.1 ci _ hc).2
  have hRA := (hK.2 k hk).2
  rw [hr] at hRA
  obtain ⟨kA, comp, k1, k2, k3, -⟩ := hRA
  have hcomp : comp = D.1 ci := Option.some.inj (k3.symm.trans hcls.1)
  subst hcomp
  obtain ⟨kC, hkC, -⟩ := hcls.2
  refine W.aast C.1 C.2.1 (h2.2 a _ hM) (fun q h => by cases h) (fun h => by cases h) k1 k2 rfl hkC ⟨fun q => (m_vpin h (by omega)) (Or.inl q), by show _ < (arrV _ _ _).slots.size; rw [arrV_size, m_clamp h (by omega)]; omega⟩ g1 (fun q h => by rw [g3] at h; cases h) (by rw [g2]; exact hkC) (by rw [g2]; exact va_assign hcls) rfl rfl hd fun H1 e z oq => ?_
  refine kk H1 _ ls h1 (h2.up ?_ z oq) (m_S.put h3 ha z oq)
  show H1[a]? = some (arrV _ _ _)
  rw [e, arrV_store, m_clamp h (by omega)]
theorem m_alen (C : m_C D aC s0 own cc nL l p s m args meth c) {a n k : Nat} {g : Int → Int} (hd : decode cc pc = .ok (.arraylength, 1)) (hM : M.2 a = some (m_ia k n g)) (hk : k < 8) (kk : m_W D aC s0 nL p l e R s m args below meth c cells slots Q (pc + 1) lv (VI (n : Int) :: st) M) : m_W D aC s0 nL p l e R s m args below meth c cells slots Q pc lv (.ref a :: st) M := by
  intro H locs ls h1 h2 h3
  refine W.alen (n := Int32.ofInt (n : Int)) C.1 C.2.1 (h2.2 a _ hM) (((m_Ks C.2.2.2.2.2.2.2.1 C.2.2.2.2.2.2.1).2 k hk).1 n _) ?_ rfl rfl hd (kk H locs ls h1 h2 h3)
  rw [arrV_size]
  exact (Int32.ofInt_eq_ofNat).symm
theorem m_alenV (C : m_C D aC s0 own cc nL l p s m args meth c) {a n k : Nat} {f : Nat → Value} (hd : decode cc pc = .ok (.arraylength, 1)) (hM : M.2 a = some (m_va k n f)) (hk : k < 8) (kk : m_W D aC s0 nL p l e R s m args below meth c cells slots Q (pc + 1) lv (VI (n : Int) :: st) M) : m_W D aC s0 nL p l e R s m args below meth c cells slots Q pc lv (.ref a :: st) M := by
  intro H locs ls h1 h2 h3
  refine W.alen (n := Int32.ofInt (n : Int)) C.1 C.2.1 (h2.2 a _ hM) (((m_Ks C.2.2.2.2.2.2.2.1 C.2.2.2.2.2.2.1).2 k hk).1 n _) ?_ rfl rfl hd (kk H locs ls h1 h2 h3)
  rw [arrV_size]
  exact (Int32.ofInt_eq_ofNat).symm
theorem m_new (C : m_C D aC s0 own cc nL l p s m args meth c) {idx ci N : Nat} {CC : String} {T : u_T} {ty : Nat → FieldType} {fs : List Value} (hd : decode cc pc = .ok (.new idx, 3)) (hc : vwCl[ci]? = some (CC, T, N)) (hty : ∀ k, k < N → parseFieldDescriptor (T k).2.2.1 = some (ty k)) (hin : ∀ w ∈ u_ws CC T N, w ∈ lwg) (hcl : Cond.classLink own idx CC ∈ lwg) (hinst : Cond.instantiable CC N ∈ lwg) (hini : Cond.initialized CC ∈ lwg) (hfs : ∀ j, j < N → defaultValue (ty j) = vp_V fs j) (hcells : cells + 1 ≤ R.cells) (hslots : slots + N ≤ R.slots) (kk : m_W D aC s0 nL p l e R s m args below meth c (cells + 1) (slots + N) Q (pc + 3) lv (.ref M.1 :: st) (m_push M (m_ob ci fs))) : m_W D aC s0 nL p l e R s m args below meth c cells slots Q pc lv st M := by
  intro H locs ls h1 h2 h3
  obtain ⟨hx, hb, hml, hown, hts, hlk, hZ, hF, hst9⟩ := C
  have hK := m_Ks hF hZ
  have hKn := hK.1 ci _ hc
  refine W.newcK hx hb hown (hts _ hcl) (hts _ hinst) (hts _ hini) rfl hd hcells hslots hKn.2.1 h2.1 fun H1 kC hkC e1 z1 o1 => ?_
  rw [← h2.1] at z1 o1
  exact kk H1 _ ls h1 (h2.push ⟨_, hc, (u_born ty hts hin hKn hkC e1 hty).to hfs⟩ z1 o1) (m_S.push h3 z1 o1)
theorem m_newa (C : m_C D aC s0 own cc nL l p s m args meth c) {atype : ArrayType} {k n : Nat} {z : Int} (hd : decode cc pc = .ok (.newarray atype, 2)) (hk : k < 8) (hty : newarray.typeOf atype = m_ty k) (hdf : defaultValue (m_ty k) = VI 0) (hw : Cond.arrayClass (m_ty k) ∈ lwg) (hra : ∀ cA, va_RA s cA (m_ty k) ↔ s.vm.findClass ("[" ++ (m_ty k).toString) = some cA) (hz : z = (n : Int)) (hn : n < 65536) (hby : componentBytes (m_ty k) ≤ 8) (hcells : cells + 1 ≤ R.cells) (hslots : slots + n ≤ R.slots) (kk : m_W D aC s0 nL p l e R s m args below meth c (cells + 1) (slots + n) Q (pc + 2) lv (.ref M.1 :: st) (m_push M (m_ia k n (fun _ => 0)))) : m_W D aC s0 nL p l e R s m args below meth c cells slots Q pc lv (VI z :: st) M := by
  intro H locs ls h1 h2 h3
  obtain ⟨hx, hb, hml, hown, hts, hlk, hZ, hF, hst9⟩ := C
  have hK := m_Ks hF hZ
  subst hz
  rw [show VI (n : Int) = .int (nI n) from congrArg Value.int (m_nn n)]
  refine va_newaK (atype := atype) (N := n) hx hb (by rw [hty]; exact hts _ hw) rfl hd rfl (nI_pos (by omega)) (nI_clamp (by omega)) ?_ hcells hslots h2.1 fun H1 cA e1 z1 o1 hAr hNm => ?_
  · rw [hty]
    calc n * componentBytes (m_ty k) ≤ 65536 * 8 := Nat.mul_le_mul (by omega) hby
      _ ≤ 536870912 := by decide
  · rw [hty] at e1 hNm
    have hcA : cA = aC k := Option.some.inj (hNm.symm.trans ((hra (aC k)).mp (hK.2 k hk).2))
    subst hcA
    rw [← h2.1] at z1 o1
    refine kk H1 _ ls h1 (h2.push ?_ z1 o1) (m_S.push h3 z1 o1)
    show H1[M.1]? = some (arrV _ _ _)
    rw [e1, hdf]
end m_MEM
