section
variable {D : va_G} {aC : Nat → ClassId} {s0 : State} {own : String} {cc : ByteArray} {nL : Nat} {p : Program} {l : Launch} {e : Env} {R : Room} {s : State} {m : MethodId} {args : Array Value} {below : List Frame} {meth : Method} {c : Code} {cells slots : Nat} {Q : State → Prop} {pc : Nat} {lv : List (Nat × Value)} {st : List Value} {M : m_M}
theorem m_ldci (C : m_C D aC s0 own cc nL l p s m args meth c) {idx : Nat} {v : Int} (hd : decode cc pc = .ok (.ldc idx, 2)) (hw : Cond.constant own idx (Int32.ofInt v) ∈ lwg) (kk : m_W D aC s0 nL p l e R s m args below meth c cells slots Q (pc + 2) lv (VI v :: st) M) : m_W D aC s0 nL p l e R s m args below meth c cells slots Q pc lv st M := fun H locs ls h1 h2 h3 => lv_ldc C.1 C.2.1 C.2.2.2.1 (C.2.2.2.2.1 _ hw) hd (kk H locs ls h1 h2 h3)
theorem m_i2b (C : m_C D aC s0 own cc nL l p s m args meth c) {z : Int} (hd : decode cc pc = .ok (.i2b, 1)) (h : 0 ≤ z ∧ z < 128) (kk : m_W D aC s0 nL p l e R s m args below meth c cells slots Q (pc + 1) lv (VI z :: st) M) : m_W D aC s0 nL p l e R s m args below meth c cells slots Q pc lv (VI z :: st) M := fun H locs ls h1 h2 h3 => lv_i2b C.1 C.2.1 hd (v := Int32.ofInt z) (by
  have key : ∀ q : Fin 128, (Int32.ofInt ((q : Nat) : Int)).toInt8.toInt32 = Int32.ofInt ((q : Nat) : Int) := by decide +kernel
  have := key ⟨z.toNat, by omega⟩
  rw [show (((⟨z.toNat, by omega⟩ : Fin 128) : Nat) : Int) = z by show ((z.toNat : Nat) : Int) = z; omega] at this
  exact this) (kk H locs ls h1 h2 h3)
theorem m_i2c (C : m_C D aC s0 own cc nL l p s m args meth c) {z : Int} (hd : decode cc pc = .ok (.i2c, 1)) (h : 0 ≤ z ∧ z < 256) (kk : m_W D aC s0 nL p l e R s m args below meth c cells slots Q (pc + 1) lv (VI z :: st) M) : m_W D aC s0 nL p l e R s m args below meth c cells slots Q pc lv (VI z :: st) M := fun H locs ls h1 h2 h3 => lv_i2c C.1 C.2.1 hd (v := Int32.ofInt z) (by
  have key : ∀ q : Fin 256, ((Int32.ofInt ((q : Nat) : Int)).toUInt32 % 65536).toInt32 = Int32.ofInt ((q : Nat) : Int) := by decide +kernel
  have := key ⟨z.toNat, by omega⟩
  rw [show (((⟨z.toNat, by omega⟩ : Fin 256) : Nat) : Int) = z by show ((z.toNat : Nat) : Int) = z; omega] at this
  exact this) (kk H locs ls h1 h2 h3)
theorem k_byte {z : Int} (h : 0 ≤ z ∧ z < 128) : narrow .byte (VI z) = VI z ∧ fits .byte (VI z) = true := by
  have key : ∀ q : Fin 128, narrow .byte (VI ((q : Nat) : Int)) = VI ((q : Nat) : Int) ∧ fits .byte (VI ((q : Nat) : Int)) = true := by decide +kernel
  have := key ⟨z.toNat, by omega⟩
  rw [show (((⟨z.toNat, by omega⟩ : Fin 128) : Nat) : Int) = z by show ((z.toNat : Nat) : Int) = z; omega] at this
  exact this
theorem k_char {z : Int} (h : 0 ≤ z ∧ z < 256) : narrow .char (VI z) = VI z := by
  have key : ∀ q : Fin 256, narrow .char (VI ((q : Nat) : Int)) = VI ((q : Nat) : Int) := by decide +kernel
  have := key ⟨z.toNat, by omega⟩
  rw [show (((⟨z.toNat, by omega⟩ : Fin 256) : Nat) : Int) = z by show ((z.toNat : Nat) : Int) = z; omega] at this
  exact this
theorem k_and255 {z : Int} (h : 0 ≤ z ∧ z < 128) : Int32.ofInt z &&& Int32.ofInt 255 = Int32.ofInt z := by
  have key : ∀ q : Fin 128, Int32.ofInt ((q : Nat) : Int) &&& Int32.ofInt 255 = Int32.ofInt ((q : Nat) : Int) := by decide +kernel
  have := key ⟨z.toNat, by omega⟩
  rw [show (((⟨z.toNat, by omega⟩ : Fin 128) : Nat) : Int) = z by show ((z.toNat : Nat) : Int) = z; omega] at this
  exact this
theorem k_shl0 (z : Int) : Int32.ofInt z <<< (Int32.ofInt 0 &&& 31) = Int32.ofInt z := by
  rw [show Int32.ofInt 0 &&& 31 = 0 from by decide +kernel]
  exact Int32.shiftLeft_zero
theorem k_shr0 (z : Int) : Int32.ofInt z >>> (Int32.ofInt 0 &&& 31) = Int32.ofInt z := by
  rw [show Int32.ofInt 0 &&& 31 = 0 from by decide +kernel]
  exact Int32.shiftRight_zero
theorem m_gbs (C : m_C D aC s0 own cc nL l p s m args meth c) {a n : Nat} {g : Int → Int} {i z : Int} (hd : decode cc pc = .ok (.bastore, 1)) (hM : M.2 a = some (m_ia 2 n g)) (ha : s0.heap.size ≤ a) (hn : n < 2147483648) (h : 0 ≤ i ∧ i < (n : Int)) (hz : 0 ≤ z ∧ z < 128) (kk : ∀ M1 : m_M, M1.2 a = some (m_ia 2 n (m_ug g i z)) → m_fr a 1 M M1 → m_W D aC s0 nL p l e R s m args below meth c cells slots Q (pc + 1) lv st M1) : m_W D aC s0 nL p l e R s m args below meth c cells slots Q pc lv (VI z :: VI i :: .ref a :: st) M := m_bast C hd hM ha hn h (k_byte hz).1 (kk _ m_up_eq (m_fr.up (by omega) (by omega)))
theorem kM_acopy : Cond.methodLink RJ7 150 arraycopyName ∈ lwg := (lwg_of (List.mem_append_right _ (List.mem_of_getElem? (i := 861) (by decide +kernel))) rfl)
theorem kM_acopyS : Cond.static arraycopyName ∈ lwg := (lwg_of (List.mem_append_right _ (List.mem_of_getElem? (i := 862) (by decide +kernel))) rfl)
theorem kM_acopyN : Cond.native arraycopyName ∈ lwg := (lwg_of (List.mem_append_right _ (List.mem_of_getElem? (i := 863) (by decide +kernel))) rfl)
theorem kM_acopyI : Cond.initialized "java/lang/System" ∈ lwg := (lwg_of (List.mem_append_right _ (List.mem_of_getElem? (i := 30) (by decide +kernel))) rfl)
theorem m_acopy (C : m_C D aC s0 own cc nL l p s m args meth c) {idx a0 a n0 n1 : Nat} {f g : Int → Int} {n : Int} (hd : decode cc pc = .ok (.invokestatic idx, 3)) (hlk : Cond.methodLink own idx arraycopyName ∈ lwg) (hM0 : M.2 a0 = some (m_ia 2 n0 f)) (hM1 : M.2 a = some (m_ia 2 n1 g)) (ha : s0.heap.size ≤ a) (hn : 0 ≤ n ∧ n ≤ (n0 : Int) ∧ n ≤ (n1 : Int) ∧ n < 2147483648) (hfit : ∀ i : Int, 0 ≤ i ∧ i < n → fits .byte (VI (f i)) = true)
    (hframes : 1 ≤ R.frames) (hlocals : (st.map fun v => v.category).sum + (nativeFrameWords "java/lang/System" "arraycopy" 5 + 11) ≤ R.locals)
    (kk : m_W D aC s0 nL p l e R s m args below meth c cells slots Q (pc + 3) lv st (m_up M a (m_ia 2 n1 (fun i => if 0 ≤ i ∧ i < n then f i else g i)))) : m_W D aC s0 nL p l e R s m args below meth c cells slots Q pc lv (VI n :: VI 0 :: .ref a :: VI 0 :: .ref a0 :: st) M := by
  intro H locs ls h1 h2 h3 T hT X
  have hK := m_Ks C.2.2.2.2.2.2.2.1 C.2.2.2.2.2.2.1
  have hc0 : H[a0]? = some (arrV (aC 2) n0 (fun j => VI (f (j : Int)))) := h2.2 a0 _ hM0
  have hc1 : H[a]? = some (arrV (aC 2) n1 (fun j => VI (g (j : Int)))) := h2.2 a _ hM1
  obtain ⟨-, k0, hk0, cm0, hkk0⟩ := (hK.2 2 (by decide)).1 n0 (fun j => VI (f (j : Int)))
  obtain ⟨-, k1, hk1, cm1, hkk1⟩ := (hK.2 2 (by decide)).1 n1 (fun j => VI (g (j : Int)))
  have z0 : (Int32.ofInt 0).toNatClampNeg = 0 := by decide
  have zn : (Int32.ofInt n).toNatClampNeg = n.toNat := by
    show (Int32.ofInt n).toInt.toNat = n.toNat
    rw [m_ti (by omega)]
  obtain ⟨vm', X', step⟩ := X.arraycopy C.1 C.2.2.2.1 (C.2.2.2.2.1 _ hlk) (C.2.2.2.2.1 _ kM_acopyN) (C.2.2.2.2.1 _ kM_acopyS) (C.2.2.2.2.1 _ kM_acopyI) (src := a0) (dst := a) (cs := arrV (aC 2) n0 (fun j => VI (f (j : Int)))) (cd := arrV (aC 2) n1 (fun j => VI (g (j : Int)))) (srcPos := Int32.ofInt 0) (destPos := Int32.ofInt 0) (n := Int32.ofInt n) (by rw [hT]; exact hc0) (by rw [hT]; exact hc1)
    (fun _ h => by cases h) (fun _ h => by cases h) (fun h => by cases h) (fun h => by cases h) hk0 hk1 hkk0 hkk1 (by simp [refKind, m_ty]) (by decide) (by decide) (by rw [Int32.not_lt, Int32.le_iff_toInt_le, m_ti (by omega)]; exact hn.1)
    (by rw [m_ti (by omega), m_ti (by omega), arrV_size]; omega)
    (by rw [m_ti (by omega), m_ti (by omega), arrV_size]; omega)
    (fun vm₁ _ i hi => by
      rw [zn] at hi
      have e : (arrV (aC 2) n0 (fun j => VI (f (j : Int)))).slots.getD ((Int32.ofInt 0).toNatClampNeg + i) .null = VI (f (i : Int)) := by
        rw [z0, Nat.zero_add, Array.getD_eq_getD_getElem?, arrV_read _ _ (by omega)]
        rfl
      refine ⟨?_, ?_⟩
      · rw [e]
        exact hfit i (by omega)
      · rw [e]
        exact trivial)
    (g := F0 m pc ls (VI n :: VI 0 :: .ref a :: VI 0 :: .ref a0 :: st)) rfl (by show ls.size = _; rw [h1.1]; exact C.2.2.1.symm) (rest := st) rfl (by rw [C.2.1]; exact hd) hframes (by show 2 * 0 + _ + _ ≤ _; omega)
  have e1 : copied (arrV (aC 2) n0 (fun j => VI (f (j : Int)))) (arrV (aC 2) n1 (fun j => VI (g (j : Int)))) (Int32.ofInt 0) (Int32.ofInt 0) (Int32.ofInt n) = arrV (aC 2) n1 (fun j : Nat => VI ((fun i : Int => if 0 ≤ i ∧ i < n then f i else g i) (j : Int))) := by
    have := va_copied VI (aC 2) (aC 2) (n0 := n0) (n1 := n1) (sp := (Int32.ofInt 0).toNatClampNeg) (dp := (Int32.ofInt 0).toNatClampNeg) (n := (Int32.ofInt n).toNatClampNeg) (fun j : Nat => f (j : Int)) (fun j : Nat => g (j : Int)) (by rw [z0, zn]; omega)
    refine this.trans ?_
    congr 1
    funext j
    congr 1
    rw [z0, zn]
    unfold va_cpy
    by_cases hj : j < n.toNat
    · rw [if_pos (by omega)]
      show f ((0 + (j - 0) : Nat) : Int) = if 0 ≤ (j : Int) ∧ (j : Int) < n then f (j : Int) else g (j : Int)
      rw [if_pos (by omega), Nat.zero_add, Nat.sub_zero]
    · rw [if_neg (by omega)]
      show g (j : Int) = if 0 ≤ (j : Int) ∧ (j : Int) < n then f (j : Int) else g (j : Int)
      rw [if_neg (by omega)]
  rw [e1] at X' step
  have hl9 : a < H.size := (Array.getElem?_eq_some_iff.mp hc1).1
  generalize hcell : arrV (aC 2) n1 (fun j : Nat => VI ((fun i : Int => if 0 ≤ i ∧ i < n then f i else g i) (j : Int))) = cell at *
  have hheap : ((T.setVm vm').setCell a cell).heap = H.setIfInBounds a cell := by rw [← hT]; rfl
  have oq : ∀ q : Nat, q ≠ a → (H.setIfInBounds a cell)[q]? = H[q]? := fun q hq => by simp [Array.getElem?_setIfInBounds, Ne.symm hq]
  obtain ⟨t, a1, b1⟩ := kk _ _ ls h1 (h2.up (show (H.setIfInBounds a cell)[a]? = some (arrV (aC 2) n1 _) by rw [hcell]; simp [Array.getElem?_setIfInBounds, hl9]) (by simp) oq) ⟨by simp; exact h3.1, fun q g1 g2 => by
      rw [oq q (fun e => g2 (by rw [e]; exact ha))]
      exact h3.2.1 q g1 g2, fun q hq => by
      rcases List.mem_append.mp hq with h | h
      · exact h3.2.2 q h
      · obtain ⟨z, -, hz⟩ := List.mem_map.mp h
        rw [← hz]
        exact ha⟩ _ hheap X'
  exact ⟨t, step t a1, b1⟩
end
