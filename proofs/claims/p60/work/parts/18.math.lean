theorem ki_Math : Cond.initialized "java/lang/Math" ∈ lwg := (lwg_of (List.mem_append_right _ (List.mem_of_getElem? (i := 24) (by decide +kernel))) rfl)
theorem kM_X7_189 : Cond.methodLink RX7 189 Lib.Math.min.name ∈ lwg := (lwg_of (List.mem_append_right _ (List.mem_of_getElem? (i := 607) (by decide +kernel))) rfl)
theorem ks_min : Cond.static Lib.Math.min.name ∈ lwg := (lwg_of (List.mem_append_right _ (List.mem_of_getElem? (i := 608) (by decide +kernel))) rfl)
theorem kd_min : Cond.code Lib.Math.min.name Lib.Math.min.code 2 (some .int) ∈ lwg := (lwg_of (List.mem_append_right _ (List.mem_of_getElem? (i := 609) (by decide +kernel))) rfl)
theorem kM_X7_222 : Cond.methodLink RX7 222 Lib.Math.max.name ∈ lwg := (lwg_of (List.mem_append_right _ (List.mem_of_getElem? (i := 686) (by decide +kernel))) rfl)
theorem ks_max : Cond.static Lib.Math.max.name ∈ lwg := (lwg_of (List.mem_append_right _ (List.mem_of_getElem? (i := 687) (by decide +kernel))) rfl)
theorem kd_max : Cond.code Lib.Math.max.name Lib.Math.max.code 2 (some .int) ∈ lwg := (lwg_of (List.mem_append_right _ (List.mem_of_getElem? (i := 688) (by decide +kernel))) rfl)
theorem kM_J5_138 : Cond.methodLink RJ5 138 Lib.Math.min.name ∈ lwg := (lwg_of (List.mem_append_right _ (List.mem_of_getElem? (i := 791) (by decide +kernel))) rfl)
theorem kM_X8_87 : Cond.methodLink RX8 87 Lib.Math.max.name ∈ lwg := (lwg_of (List.mem_append_right _ (List.mem_of_getElem? (i := 798) (by decide +kernel))) rfl)
theorem kM_J8_194 : Cond.methodLink RJ8 194 Lib.Math.max.name ∈ lwg := (lwg_of (List.mem_append_right _ (List.mem_of_getElem? (i := 844) (by decide +kernel))) rfl)
theorem kM_J7_304 : Cond.methodLink RJ7 304 Lib.Math.min.name ∈ lwg := (lwg_of (List.mem_append_right _ (List.mem_of_getElem? (i := 860) (by decide +kernel))) rfl)
theorem kM_L_127 : Cond.methodLink RL 127 Lib.Math.max.name ∈ lwg := (lwg_of (List.mem_append_right _ (List.mem_of_getElem? (i := 1065) (by decide +kernel))) rfl)
theorem kM_X3_42 : Cond.methodLink RX3 42 Lib.Math.max.name ∈ lwg := (lwg_of (List.mem_append_right _ (List.mem_of_getElem? (i := 1140) (by decide +kernel))) rfl)
section m_MATH
variable {D : va_G} {aC : Nat → ClassId} {s0 : State} {own : String} {cc : ByteArray} {nL : Nat} {p : Program} {l : Launch} {e : Env} {R : Room} {s : State} {m : MethodId} {args : Array Value} {below : List Frame} {meth : Method} {c : Code} {cells slots : Nat} {Q : State → Prop} {pc : Nat} {lv : List (Nat × Value)} {st : List Value} {M : m_M}
theorem m_mmin (C : m_C D aC s0 own cc nL l p s m args meth c) {idx : Nat} {a b : Int} (hd : decode cc pc = .ok (.invokestatic idx, 3)) (hl : Cond.methodLink own idx Lib.Math.min.name ∈ lwg) (hr : -2147483648 ≤ a ∧ a < 2147483648 ∧ -2147483648 ≤ b ∧ b < 2147483648) (hfr : 1 ≤ R.frames) (hlo : (st.map fun v => v.category).sum + 13 ≤ R.locals) (hc : cells ≤ R.cells) (hs : slots ≤ R.slots) (k : m_W D aC s0 nL p l e R s m args below meth c cells slots Q (pc + 3) lv (VI (min a b) :: st) M) : m_W D aC s0 nL p l e R s m args below meth c cells slots Q pc lv (VI b :: VI a :: st) M := by
  intro H locs ls h1 h2 h3
  refine va_mmin C.1 C.2.1 (by rw [C.2.2.1]; exact h1.1.symm) C.2.2.2.1 (C.2.2.2.2.1 _ hl) (C.2.2.2.2.1 _ ks_min) (C.2.2.2.2.1 _ ki_Math) (C.2.2.2.2.1 _ kd_min) hfr hlo hc hs hd ?_
  have e : (if Int32.ofInt b < Int32.ofInt a then Int32.ofInt b else Int32.ofInt a) = Int32.ofInt (min a b) := by
    by_cases q : b < a
    · rw [if_pos ((m_lt (by omega)).mpr q)]; congr 1; omega
    · rw [if_neg (fun z => q ((m_lt (by omega)).mp z))]; congr 1; omega
  rw [e]
  exact k H locs ls h1 h2 h3
theorem m_mmax (C : m_C D aC s0 own cc nL l p s m args meth c) {idx : Nat} {a b : Int} (hd : decode cc pc = .ok (.invokestatic idx, 3)) (hl : Cond.methodLink own idx Lib.Math.max.name ∈ lwg) (hr : -2147483648 ≤ a ∧ a < 2147483648 ∧ -2147483648 ≤ b ∧ b < 2147483648) (hfr : 1 ≤ R.frames) (hlo : (st.map fun v => v.category).sum + 13 ≤ R.locals) (hc : cells ≤ R.cells) (hs : slots ≤ R.slots) (k : m_W D aC s0 nL p l e R s m args below meth c cells slots Q (pc + 3) lv (VI (max a b) :: st) M) : m_W D aC s0 nL p l e R s m args below meth c cells slots Q pc lv (VI b :: VI a :: st) M := by
  intro H locs ls h1 h2 h3
  refine va_mmax C.1 C.2.1 (by rw [C.2.2.1]; exact h1.1.symm) C.2.2.2.1 (C.2.2.2.2.1 _ hl) (C.2.2.2.2.1 _ ks_max) (C.2.2.2.2.1 _ ki_Math) (C.2.2.2.2.1 _ kd_max) hfr hlo hc hs hd ?_
  have e : (if Int32.ofInt a < Int32.ofInt b then Int32.ofInt b else Int32.ofInt a) = Int32.ofInt (max a b) := by
    by_cases q : a < b
    · rw [if_pos ((m_lt (by omega)).mpr q)]; congr 1; omega
    · rw [if_neg (fun z => q ((m_lt (by omega)).mp z))]; congr 1; omega
  rw [e]
  exact k H locs ls h1 h2 h3
end m_MATH
