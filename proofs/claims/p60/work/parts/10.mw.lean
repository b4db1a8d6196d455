/-! MW: a method's walk said of a memory: addresses to contents; ints as Int -/
abbrev m_E : Type := (Nat × List Value) ⊕ ((Nat × Nat × (Int → Int)) ⊕ (Nat × Nat × (Nat → Value)))
abbrev m_M : Type := Nat × (Nat → Option m_E)
def VI (z : Int) : Value := .int (Int32.ofInt z)
abbrev m_ob (ci : Nat) (fs : List Value) : m_E := .inl (ci, fs)
abbrev m_ia (k n : Nat) (g : Int → Int) : m_E := .inr (.inl (k, n, g))
abbrev m_va (k n : Nat) (f : Nat → Value) : m_E := .inr (.inr (k, n, f))
def m_up (M : m_M) (a : Nat) (e : m_E) : m_M := (M.1, fun q => if q = a then some e else M.2 q)
def m_push (M : m_M) (e : m_E) : m_M := (M.1 + 1, fun q => if q = M.1 then some e else M.2 q)
def m_ug (g : Int → Int) (i v : Int) : Int → Int := fun j => if j = i then v else g j
theorem m_up_eq {M : m_M} {a : Nat} {e : m_E} : (m_up M a e).2 a = some e := if_pos rfl
theorem m_up_ne {M : m_M} {a q : Nat} {e : m_E} (h : q ≠ a) : (m_up M a e).2 q = M.2 q := if_neg h
theorem m_push_eq {M : m_M} {e : m_E} : (m_push M e).2 M.1 = some e := if_pos rfl
theorem m_push_ne {M : m_M} {q : Nat} {e : m_E} (h : q ≠ M.1) : (m_push M e).2 q = M.2 q := if_neg h
def m_at (D : va_G) (aC : Nat → ClassId) (a : Nat) (e : m_E) (H : Heap) : Prop := match e with
  | .inl (ci, fs) => va_at D vwCl (a, .inr (ci, fs)) H
  | .inr (.inl (k, n, g)) => H[a]? = some (arrV (aC k) n (fun j => VI (g (j : Int))))
  | .inr (.inr (k, n, f)) => H[a]? = some (arrV (aC k) n f)
theorem m_at.kept {D : va_G} {aC : Nat → ClassId} {a : Nat} {e : m_E} {H H1 : Heap} (h : m_at D aC a e H) (hq : H1[a]? = H[a]?) : m_at D aC a e H1 := by
  rcases e with ⟨ci, fs⟩ | ⟨k, n, g⟩ | ⟨k, n, f⟩
  · exact va_at.kept (q := (a, .inr (ci, fs))) h hq
  · exact hq.trans h
  · exact hq.trans h
theorem m_at.lt {D : va_G} {aC : Nat → ClassId} {a : Nat} {e : m_E} {H : Heap} (h : m_at D aC a e H) : a < H.size := by
  rcases e with ⟨ci, fs⟩ | ⟨k, n, g⟩ | ⟨k, n, f⟩
  · exact va_at.lt (q := (a, .inr (ci, fs))) h
  · exact (Array.getElem?_eq_some_iff.mp h).1
  · exact (Array.getElem?_eq_some_iff.mp h).1
def m_ty : Nat → FieldType := fun k => match k with
  | 0 => .int
  | 1 => .boolean
  | 2 => .byte
  | 3 => .int
  | 4 => .int
  | 5 => .object "GoblinHousehold$Household"
  | 6 => .object "GoblinHousehold$Command"
  | _ => .object "GoblinHousehold$Command"
def m_K (D : va_G) (aC : Nat → ClassId) (s : State) : Prop := (∀ (c : Nat) (q : vw_C), vwCl[c]? = some q → u_Kn s q.1 q.2.1 q.2.2 (D.1 c) (D.2 c)) ∧ ∀ k, k < 8 → ArrOfT s (aC k) (m_ty k) ∧ va_RA s (aC k) (m_ty k)
theorem m_K.moved {D : va_G} {aC : Nat → ClassId} {u U : State} (hvm : u.vm.Alike U.vm) (h : m_K D aC u) : m_K D aC U := ⟨fun c q hq => u_Kn_moved hvm (h.1 c q hq), fun k hk => ⟨arrOfT_moved hvm (h.2 k hk).1, (h.2 k hk).2.moved hvm⟩⟩
def m_H (D : va_G) (aC : Nat → ClassId) (M : m_M) (H : Heap) : Prop := H.size = M.1 ∧ ∀ (a : Nat) (e : m_E), M.2 a = some e → m_at D aC a e H
def m_A (s0 : State) : Nat → Prop := fun q => s0.heap.size ≤ q
def m_Z (s0 U : State) (H : Heap) : Prop := s0.WarmedH U.vm ∧ s0.heap.size ≤ H.size ∧ ∀ q : Nat, q < s0.heap.size → H[q]? = s0.heap[q]?
def m_Nw (s0 : State) : Prop := va_Nw (.methodLinkNest RX7 17 yX1_init "GoblinHousehold") s0 ∧ va_Nw (.methodLinkNest RX7 24 yX5_init "GoblinHousehold") s0 ∧ va_Nw (.methodLinkNest RX7 31 yX3_init "GoblinHousehold") s0 ∧ va_Nw (.methodLinkNest RX8 31 yX2_init "GoblinHousehold") s0
def m_F (D : va_G) (aC : Nat → ClassId) (s0 : State) : Prop := m_K D aC s0 ∧ vx_Zq Bundle.tN "UNASSIGNED_STACK" Bundle.steD (m_A s0) s0 s0.heap ∧ vx_Zq Bundle.tN "SUPPRESSED_SENTINEL" Bundle.listD (m_A s0) s0 s0.heap ∧ m_Nw s0
def m_R (d mc ms : Nat) : Room := { frames := d, cells := mc, slots := ms, locals := 100 * (d + 1) }
/-- contracts -/
def m_Pc (D : va_G) (aC : Nat → ClassId) (s0 : State) (As : List Value) (M : m_M) : Array Value → State → Prop := va_Pc As (fun U => m_Z s0 U U.heap ∧ m_H D aC M U.heap)
def m_Qc (D : va_G) (aC : Nat → ClassId) (s0 : State) (post : Option Value → m_M → Prop) : Array Value → State → Outcome → State → Prop := fun _ st o t => (∃ (v : Option Value) (M' : m_M), o = .returned v ∧ post v M' ∧ m_H D aC M' t.heap) ∧ va_F (m_A s0) st t
def m_XC (D : va_G) (aC : Nat → ClassId) (s0 : State) (px : String → m_M → Prop) : String → State → State → Prop := fun E st t => (∃ M' : m_M, px E M' ∧ m_H D aC M' t.heap) ∧ va_F (m_A s0) st t
def m_ws (y : MethodName) (cc : ByteArray) (nL : Nat) (ret : Option FieldType) : List Cond := .code y cc nL ret :: lwg
def m_Met (D : va_G) (aC : Nat → ClassId) (s0 : State) (l : Launch) (y : MethodName) (cc : ByteArray) (nL : Nat) (ret : Option FieldType) (d mc ms : Nat) (As : List Value) (M : m_M) (post : Option Value → m_M → Prop) (px : String → m_M → Prop) : Prop :=
  vx_Met l y (m_ws y cc nL ret) (m_R d mc ms) (m_Pc D aC s0 As M) (m_Qc D aC s0 post) (m_XC D aC s0 px) mc ms (m_A s0)
def m_nx : String → m_M → Prop := fun _ _ => False
/-- the walk -/
def m_W (D : va_G) (aC : Nat → ClassId) (s0 : State) (nL : Nat) (p : Program) (l : Launch) (e : Env) (R : Room) (s : State) (m : MethodId) (args : Array Value) (below : List Frame) (meth : Method) (c : Code) (cells slots : Nat) (Q : State → Prop) (pc : Nat) (lv : List (Nat × Value)) (st : List Value) (M : m_M) : Prop :=
  ∀ (H : Heap) (locs : List Loc) (ls : Array Slot), lv_has ls nL lv → m_H D aC M H → va_S (m_A s0) s.heap H locs → W p l e R s m args below meth c H locs cells slots Q (F0 m pc ls st)
def m_C (D : va_G) (aC : Nat → ClassId) (s0 : State) (own : String) (cc : ByteArray) (nL : Nat) (l : Launch) (p : Program) (s : State) (m : MethodId) (args : Array Value) (meth : Method) (c : Code) : Prop :=
  p.tables.exec = Jvm.exec ∧ c.code = cc ∧ c.maxLocals = nL ∧ s.vm.findClass own = some m.cls ∧ (∀ w ∈ lwg, w.before args s = true) ∧ meth.locks = false ∧ m_Z s0 s s.heap ∧ m_F D aC s0 ∧ l.stackTraces = false
theorem m_ofInt_add (a b : Int) : Int32.ofInt (a + b) = Int32.ofInt a + Int32.ofInt b := Int32.ofInt_add a b
theorem m_ofInt_sub (a b : Int) : Int32.ofInt (a - b) = Int32.ofInt a - Int32.ofInt b := Int32.ofInt_sub a b
theorem m_ofInt_mul (a b : Int) : Int32.ofInt (a * b) = Int32.ofInt a * Int32.ofInt b := Int32.ofInt_mul a b
theorem m_ti {a : Int} (h : -2147483648 ≤ a ∧ a < 2147483648) : (Int32.ofInt a).toInt = a := Int32.toInt_ofInt_of_le (by omega) (by omega)
theorem m_le {a b : Int} (h : -2147483648 ≤ a ∧ a < 2147483648 ∧ -2147483648 ≤ b ∧ b < 2147483648) : Int32.ofInt a ≤ Int32.ofInt b ↔ a ≤ b := by
  rw [Int32.le_iff_toInt_le, m_ti (by omega), m_ti (by omega)]
theorem m_lt {a b : Int} (h : -2147483648 ≤ a ∧ a < 2147483648 ∧ -2147483648 ≤ b ∧ b < 2147483648) : Int32.ofInt a < Int32.ofInt b ↔ a < b := by
  rw [Int32.lt_iff_toInt_lt, m_ti (by omega), m_ti (by omega)]
theorem m_eq {a b : Int} (h : -2147483648 ≤ a ∧ a < 2147483648 ∧ -2147483648 ≤ b ∧ b < 2147483648) : Int32.ofInt a = Int32.ofInt b ↔ a = b := by
  rw [← Int32.toInt_inj, m_ti (by omega), m_ti (by omega)]
theorem m_inj {a b : Int} (h : -2147483648 ≤ a ∧ a < 2147483648 ∧ -2147483648 ≤ b ∧ b < 2147483648) (e : VI a = VI b) : a = b := (m_eq h).mp (by unfold VI at e; injection e)
theorem m_clamp {i : Int} {n : Nat} (h : 0 ≤ i ∧ i < (n : Int)) (hi : i < 2147483648) : (Int32.ofInt i).toNatClampNeg = i.toNat := by
  show (Int32.ofInt i).toInt.toNat = i.toNat
  rw [m_ti (by omega)]
theorem m_vpin {i : Int} {n : Nat} (h : 0 ≤ i ∧ i < (n : Int)) (hi : i < 2147483648) : vp_in (Int32.ofInt i) n := by
  rw [vp_in_iff, m_ti (by omega)]
  exact h
theorem m_of (x : Int32) : VI x.toInt = .int x := by unfold VI; rw [Int32.ofInt_toInt]
theorem m_rng (x : Int32) : -2147483648 ≤ x.toInt ∧ x.toInt < 2147483648 := ⟨Int32.le_toInt x, Int32.toInt_lt x⟩
