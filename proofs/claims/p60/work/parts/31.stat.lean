section
variable {D : va_G} {aC : Nat → ClassId} {s0 : State} {own : String} {cc : ByteArray} {nL : Nat} {p : Program} {l : Launch} {e : Env} {R : Room} {s : State} {m : MethodId} {args : Array Value} {below : List Frame} {meth : Method} {c : Code} {cells slots : Nat} {Q : State → Prop} {pc : Nat} {lv : List (Nat × Value)} {st : List Value} {M : m_M}
theorem m_gets (C : m_C D aC s0 own cc nL l p s m args meth c) {Cn n d : String} {v : Value} {idx : Nat} (hZ : va_Z Cn n d v (m_A s0) s0 s0.heap) (hw : Cond.fieldLink own idx Cn n d ∈ lwg) (hd : decode cc pc = .ok (.getstatic idx, 3)) (kk : m_W D aC s0 nL p l e R s m args below meth c cells slots Q (pc + 3) lv (v :: st) M) : m_W D aC s0 nL p l e R s m args below meth c cells slots Q pc lv st M := fun H locs ls h1 h2 h3 => va_gets C.1 C.2.1 ((va_Z.moved C.2.2.2.2.2.2.1.1.alike hZ).kept (fun a ha _ => C.2.2.2.2.2.2.1.2.2 a ha)) h3 C.2.2.2.1 (C.2.2.2.2.1 _ hw) (fun _ h => h) hd (kk H locs ls h1 h2 h3)
theorem m_cgetf (C : m_C D aC s0 own cc nL l p s m args meth c) {Cn n d : String} {v : Value} {idx q : Nat} (hE : va_OF Cn n d v q (m_A s0) s0 s0.heap) (hw : Cond.fieldLink own idx Cn n d ∈ lwg) (hd : decode cc pc = .ok (.getfield idx, 3)) (kk : m_W D aC s0 nL p l e R s m args below meth c cells slots Q (pc + 3) lv (v :: st) M) : m_W D aC s0 nL p l e R s m args below meth c cells slots Q pc lv (.ref q :: st) M := fun H locs ls h1 h2 h3 => vk_getf C.1 C.2.1 ((va_OF.moved C.2.2.2.2.2.2.1.1.alike hE).kept (fun a ha _ => C.2.2.2.2.2.2.1.2.2 a ha)) h3 C.2.2.2.1 (C.2.2.2.2.1 _ hw) (fun _ h => h) hd (kk H locs ls h1 h2 h3)
theorem m_ctb (C : m_C D aC s0 own cc nL l p s m args meth c) {q N : Nat} {f : Nat → Value} {i : Int} {v : Value} (hT : va_T .byte q N f (m_A s0) s0 s0.heap) (hd : decode cc pc = .ok (.baload, 1)) (hn : N < 2147483648) (h : 0 ≤ i ∧ i < (N : Int)) (hv : f i.toNat = v) (kk : m_W D aC s0 nL p l e R s m args below meth c cells slots Q (pc + 1) lv (v :: st) M) : m_W D aC s0 nL p l e R s m args below meth c cells slots Q pc lv (VI i :: .ref q :: st) M := fun H locs ls h1 h2 h3 => va_tb C.1 C.2.1 ((va_T.moved C.2.2.2.2.2.2.1.1.alike hT).kept (fun a ha _ => C.2.2.2.2.2.2.1.2.2 a ha)) h3 (m_vpin h (by omega)) (by rw [m_clamp h (by omega)]; exact hv) hd (kk H locs ls h1 h2 h3)
theorem m_cti (C : m_C D aC s0 own cc nL l p s m args meth c) {q N : Nat} {f : Nat → Value} {i : Int} {v : Value} (hT : va_T .int q N f (m_A s0) s0 s0.heap) (hd : decode cc pc = .ok (.iaload, 1)) (hn : N < 2147483648) (h : 0 ≤ i ∧ i < (N : Int)) (hv : f i.toNat = v) (kk : m_W D aC s0 nL p l e R s m args below meth c cells slots Q (pc + 1) lv (v :: st) M) : m_W D aC s0 nL p l e R s m args below meth c cells slots Q pc lv (VI i :: .ref q :: st) M := fun H locs ls h1 h2 h3 => va_ti C.1 C.2.1 ((va_T.moved C.2.2.2.2.2.2.1.1.alike hT).kept (fun a ha _ => C.2.2.2.2.2.2.1.2.2 a ha)) h3 (m_vpin h (by omega)) (by rw [m_clamp h (by omega)]; exact hv) hd (kk H locs ls h1 h2 h3)
theorem m_cta (C : m_C D aC s0 own cc nL l p s m args meth c) {q N : Nat} {CC : String} {f : Nat → Value} {i : Int} {v : Value} (hT : va_T (.object CC) q N f (m_A s0) s0 s0.heap) (hd : decode cc pc = .ok (.aaload, 1)) (hn : N < 2147483648) (h : 0 ≤ i ∧ i < (N : Int)) (hv : f i.toNat = v) (kk : m_W D aC s0 nL p l e R s m args below meth c cells slots Q (pc + 1) lv (v :: st) M) : m_W D aC s0 nL p l e R s m args below meth c cells slots Q pc lv (VI i :: .ref q :: st) M := by
  intro H locs ls h1 h2 h3
  obtain ⟨cell, g1, g2, g3, g4, g5, g6, g7⟩ := ((va_T.moved C.2.2.2.2.2.2.1.1.alike hT).kept (fun a ha _ => C.2.2.2.2.2.2.1.2.2 a ha))
  refine W.aald C.1 C.2.1 (cell := cell) (v := v) (by rw [h3.2.1 q (Array.getElem?_eq_some_iff.mp g1).1 g7]; exact g1) g2 rfl g3 ?_ ?_ rfl rfl hd (kk H locs ls h1 h2 h3)
  · have := m_vpin h (by omega)
    have e := m_clamp h (by omega)
    intro z
    rcases z with z | z
    · exact this (Or.inl z)
    · rw [e] at z
      omega
  · rw [m_clamp h (by omega), g6 _ (by omega), hv]
theorem m_ctl (C : m_C D aC s0 own cc nL l p s m args meth c) {q N : Nat} {ty : FieldType} {f : Nat → Value} (hT : va_T ty q N f (m_A s0) s0 s0.heap) (hd : decode cc pc = .ok (.arraylength, 1)) (kk : m_W D aC s0 nL p l e R s m args below meth c cells slots Q (pc + 1) lv (VI (N : Int) :: st) M) : m_W D aC s0 nL p l e R s m args below meth c cells slots Q pc lv (.ref q :: st) M := fun H locs ls h1 h2 h3 => va_tlen C.1 C.2.1 ((va_T.moved C.2.2.2.2.2.2.1.1.alike hT).kept (fun a ha _ => C.2.2.2.2.2.2.1.2.2 a ha)) h3 (v := Int32.ofInt (N : Int)) (m_nn N).symm hd (kk H locs ls h1 h2 h3)
end
/-- the forms' signs -/
def fo_z : List (List Int) := [[103, 111, 98, 108, 105, 110, 32, 35], [98, 114, 111, 111, 109, 32, 42], [98, 97, 110, 105, 115, 104, 32, 35], [114, 101, 99, 97, 108, 108, 32, 35], [104, 105, 114, 101, 32, 35, 32, 35, 32, 42, 47, 42], [99, 97, 110, 99, 101, 108, 32, 42], [114, 101, 115, 116, 32, 35], [119, 97, 107, 101, 32, 35], [108, 101, 110, 100, 32, 35, 32, 42], [102, 117, 110, 100, 32, 42], [115, 112, 101, 110, 100, 32, 42], [110, 105, 103, 104, 116], [110, 105, 103, 104, 116, 32, 42]]
def fo_n : List String := ["GOBLIN", "BROOM", "BANISH", "RECALL", "HIRE", "CANCEL", "REST", "WAKE", "LEND", "FUND", "SPEND", "NIGHT", "NIGHTS"]
def sw_z : List Int := [1, 2, 3, 4, 5, 6, 7, 8, 9, 10, 11, 0, 12]
/-- what stands in the old heap: the forms, their signs, the class's static rows, the digits -/
def m_J (s0 : State) (fo ks vs : Nat → Nat) (fA sA dO dT : Nat) : Prop :=
  (∀ k : Nat, k < 13 → va_O "GoblinHousehold$Form" (fo k) (m_A s0) s0 s0.heap) ∧
  (∀ k : Nat, k < 13 → va_OF "java/lang/Enum" "ordinal" "I" (VI (k : Int)) (fo k) (m_A s0) s0 s0.heap) ∧
  (∀ k : Nat, k < 13 → va_OF "GoblinHousehold$Form" "signs" "Ljava/lang/String;" (.ref (ks k)) (fo k) (m_A s0) s0 s0.heap) ∧
  (∀ k : Nat, k < 13 → va_O "java/lang/String" (ks k) (m_A s0) s0 s0.heap) ∧
  (∀ k : Nat, k < 13 → va_OF "java/lang/String" "coder" "B" (VI 0) (ks k) (m_A s0) s0 s0.heap) ∧
  (∀ k : Nat, k < 13 → va_OF "java/lang/String" "value" "[B" (.ref (vs k)) (ks k) (m_A s0) s0 s0.heap) ∧
  (∀ k : Nat, k < 13 → va_T .byte (vs k) (fo_z.getD k []).length (fun j => VI ((fo_z.getD k []).getD j 0)) (m_A s0) s0 s0.heap) ∧
  (va_Z "GoblinHousehold$Script" "FORMS" "[LGoblinHousehold$Form;" (.ref fA) (m_A s0) s0 s0.heap) ∧
  (va_T (.object "GoblinHousehold$Form") fA 13 (fun k => .ref (fo k)) (m_A s0) s0 s0.heap) ∧
  (va_Z "GoblinHousehold$Form" "NIGHT" "LGoblinHousehold$Form;" (.ref (fo 11)) (m_A s0) s0 s0.heap) ∧
  (va_Z "GoblinHousehold$1" "$SwitchMap$GoblinHousehold$Form" "[I" (.ref sA) (m_A s0) s0 s0.heap) ∧
  (va_T .int sA 13 (fun k => VI (sw_z.getD k 0)) (m_A s0) s0 s0.heap) ∧
  (va_Z "java/lang/Integer" "DigitOnes" "[B" (.ref dO) (m_A s0) s0 s0.heap) ∧
  (va_T .byte dO 100 (fun k => VI (48 + (k : Int) % 10)) (m_A s0) s0 s0.heap) ∧
  (va_Z "java/lang/Integer" "DigitTens" "[B" (.ref dT) (m_A s0) s0 s0.heap) ∧
  (va_T .byte dT 100 (fun k => VI (48 + (k : Int) / 10)) (m_A s0) s0 s0.heap) ∧
  (va_Z "java/lang/String" "COMPACT_STRINGS" "Z" (VI 1) (m_A s0) s0 s0.heap) ∧
  (∃ v : Value, (v = .null ∨ ∃ a, v = .ref a) ∧ va_Z "jdk/internal/util/Preconditions" "SIOOBE_FORMATTER" "Ljava/util/function/BiFunction;" v (m_A s0) s0 s0.heap) ∧
  ((Cond.selects RJ4 yJ5_ensureCapacityInternal_d00df yJ5_ensureCapacityInternal_d00df).before #[] s0 = true) ∧
  ((Cond.selects RJ4 yJ5_newCapacity_0f7a4 yJ5_newCapacity_0f7a4).before #[] s0 = true) ∧
  (∀ i j : Nat, i < 13 → j < 13 → fo i = fo j → i = j)
theorem m_J.ob {s0 : State} {fo ks vs : Nat → Nat} {fA sA dO dT : Nat} (h : m_J s0 fo ks vs fA sA dO dT) : ∀ k : Nat, k < 13 → va_O "GoblinHousehold$Form" (fo k) (m_A s0) s0 s0.heap := h.1
theorem m_J.ord {s0 : State} {fo ks vs : Nat → Nat} {fA sA dO dT : Nat} (h : m_J s0 fo ks vs fA sA dO dT) : ∀ k : Nat, k < 13 → va_OF "java/lang/Enum" "ordinal" "I" (VI (k : Int)) (fo k) (m_A s0) s0 s0.heap := h.2.1
theorem m_J.sig {s0 : State} {fo ks vs : Nat → Nat} {fA sA dO dT : Nat} (h : m_J s0 fo ks vs fA sA dO dT) : ∀ k : Nat, k < 13 → va_OF "GoblinHousehold$Form" "signs" "Ljava/lang/String;" (.ref (ks k)) (fo k) (m_A s0) s0 s0.heap := h.2.2.1
theorem m_J.sob {s0 : State} {fo ks vs : Nat → Nat} {fA sA dO dT : Nat} (h : m_J s0 fo ks vs fA sA dO dT) : ∀ k : Nat, k < 13 → va_O "java/lang/String" (ks k) (m_A s0) s0 s0.heap := h.2.2.2.1
theorem m_J.scd {s0 : State} {fo ks vs : Nat → Nat} {fA sA dO dT : Nat} (h : m_J s0 fo ks vs fA sA dO dT) : ∀ k : Nat, k < 13 → va_OF "java/lang/String" "coder" "B" (VI 0) (ks k) (m_A s0) s0 s0.heap := h.2.2.2.2.1
theorem m_J.sva {s0 : State} {fo ks vs : Nat → Nat} {fA sA dO dT : Nat} (h : m_J s0 fo ks vs fA sA dO dT) : ∀ k : Nat, k < 13 → va_OF "java/lang/String" "value" "[B" (.ref (vs k)) (ks k) (m_A s0) s0 s0.heap := h.2.2.2.2.2.1
theorem m_J.sby {s0 : State} {fo ks vs : Nat → Nat} {fA sA dO dT : Nat} (h : m_J s0 fo ks vs fA sA dO dT) : ∀ k : Nat, k < 13 → va_T .byte (vs k) (fo_z.getD k []).length (fun j => VI ((fo_z.getD k []).getD j 0)) (m_A s0) s0 s0.heap := h.2.2.2.2.2.2.1
theorem m_J.fZ {s0 : State} {fo ks vs : Nat → Nat} {fA sA dO dT : Nat} (h : m_J s0 fo ks vs fA sA dO dT) : va_Z "GoblinHousehold$Script" "FORMS" "[LGoblinHousehold$Form;" (.ref fA) (m_A s0) s0 s0.heap := h.2.2.2.2.2.2.2.1
theorem m_J.fT {s0 : State} {fo ks vs : Nat → Nat} {fA sA dO dT : Nat} (h : m_J s0 fo ks vs fA sA dO dT) : va_T (.object "GoblinHousehold$Form") fA 13 (fun k => .ref (fo k)) (m_A s0) s0 s0.heap := h.2.2.2.2.2.2.2.2.1
theorem m_J.nZ {s0 : State} {fo ks vs : Nat → Nat} {fA sA dO dT : Nat} (h : m_J s0 fo ks vs fA sA dO dT) : va_Z "GoblinHousehold$Form" "NIGHT" "LGoblinHousehold$Form;" (.ref (fo 11)) (m_A s0) s0 s0.heap := h.2.2.2.2.2.2.2.2.2.1
theorem m_J.wZ {s0 : State} {fo ks vs : Nat → Nat} {fA sA dO dT : Nat} (h : m_J s0 fo ks vs fA sA dO dT) : va_Z "GoblinHousehold$1" "$SwitchMap$GoblinHousehold$Form" "[I" (.ref sA) (m_A s0) s0 s0.heap := h.2.2.2.2.2.2.2.2.2.2.1
theorem m_J.wT {s0 : State} {fo ks vs : Nat → Nat} {fA sA dO dT : Nat} (h : m_J s0 fo ks vs fA sA dO dT) : va_T .int sA 13 (fun k => VI (sw_z.getD k 0)) (m_A s0) s0 s0.heap := h.2.2.2.2.2.2.2.2.2.2.2.1
theorem m_J.oZ {s0 : State} {fo ks vs : Nat → Nat} {fA sA dO dT : Nat} (h : m_J s0 fo ks vs fA sA dO dT) : va_Z "java/lang/Integer" "DigitOnes" "[B" (.ref dO) (m_A s0) s0 s0.heap := h.2.2.2.2.2.2.2.2.2.2.2.2.1
theorem m_J.oT {s0 : State} {fo ks vs : Nat → Nat} {fA sA dO dT : Nat} (h : m_J s0 fo ks vs fA sA dO dT) : va_T .byte dO 100 (fun k => VI (48 + (k : Int) % 10)) (m_A s0) s0 s0.heap := h.2.2.2.2.2.2.2.2.2.2.2.2.2.1
theorem m_J.tZ {s0 : State} {fo ks vs : Nat → Nat} {fA sA dO dT : Nat} (h : m_J s0 fo ks vs fA sA dO dT) : va_Z "java/lang/Integer" "DigitTens" "[B" (.ref dT) (m_A s0) s0 s0.heap := h.2.2.2.2.2.2.2.2.2.2.2.2.2.2.1
theorem m_J.tT {s0 : State} {fo ks vs : Nat → Nat} {fA sA dO dT : Nat} (h : m_J s0 fo ks vs fA sA dO dT) : va_T .byte dT 100 (fun k => VI (48 + (k : Int) / 10)) (m_A s0) s0 s0.heap := h.2.2.2.2.2.2.2.2.2.2.2.2.2.2.2.1
theorem m_J.cZ {s0 : State} {fo ks vs : Nat → Nat} {fA sA dO dT : Nat} (h : m_J s0 fo ks vs fA sA dO dT) : va_Z "java/lang/String" "COMPACT_STRINGS" "Z" (VI 1) (m_A s0) s0 s0.heap := h.2.2.2.2.2.2.2.2.2.2.2.2.2.2.2.2.1
theorem m_J.pZ {s0 : State} {fo ks vs : Nat → Nat} {fA sA dO dT : Nat} (h : m_J s0 fo ks vs fA sA dO dT) : ∃ v : Value, (v = .null ∨ ∃ a, v = .ref a) ∧ va_Z "jdk/internal/util/Preconditions" "SIOOBE_FORMATTER" "Ljava/util/function/BiFunction;" v (m_A s0) s0 s0.heap := h.2.2.2.2.2.2.2.2.2.2.2.2.2.2.2.2.2.1
theorem m_J.s1 {s0 : State} {fo ks vs : Nat → Nat} {fA sA dO dT : Nat} (h : m_J s0 fo ks vs fA sA dO dT) : (Cond.selects RJ4 yJ5_ensureCapacityInternal_d00df yJ5_ensureCapacityInternal_d00df).before #[] s0 = true := h.2.2.2.2.2.2.2.2.2.2.2.2.2.2.2.2.2.2.1
theorem m_J.s2 {s0 : State} {fo ks vs : Nat → Nat} {fA sA dO dT : Nat} (h : m_J s0 fo ks vs fA sA dO dT) : (Cond.selects RJ4 yJ5_newCapacity_0f7a4 yJ5_newCapacity_0f7a4).before #[] s0 = true := h.2.2.2.2.2.2.2.2.2.2.2.2.2.2.2.2.2.2.2.1
theorem m_J.inj {s0 : State} {fo ks vs : Nat → Nat} {fA sA dO dT : Nat} (h : m_J s0 fo ks vs fA sA dO dT) : ∀ i j : Nat, i < 13 → j < 13 → fo i = fo j → i = j := h.2.2.2.2.2.2.2.2.2.2.2.2.2.2.2.2.2.2.2.2
theorem kg_X8_40 : Cond.fieldLink RX8 40 "GoblinHousehold$Script" "FORMS" "[LGoblinHousehold$Form;" ∈ lwg := (lwg_of (List.mem_append_right _ (List.mem_of_getElem? (i := 713) (by decide +kernel))) rfl)
theorem kg_X8_44 : Cond.fieldLink RX8 44 "GoblinHousehold$Form" "signs" "Ljava/lang/String;" ∈ lwg := (lwg_of (List.mem_append_right _ (List.mem_of_getElem? (i := 1440) (by decide +kernel))) rfl)
theorem kg_X2_19 : Cond.fieldLink RX2 19 "GoblinHousehold$Form" "NIGHT" "LGoblinHousehold$Form;" ∈ lwg := (lwg_of (List.mem_append_right _ (List.mem_of_getElem? (i := 263) (by decide +kernel))) rfl)
theorem kg_X7_76 : Cond.fieldLink RX7 76 "GoblinHousehold$1" "$SwitchMap$GoblinHousehold$Form" "[I" ∈ lwg := (lwg_of (List.mem_append_right _ (List.mem_of_getElem? (i := 1036) (by decide +kernel))) rfl)
theorem kg_J6_83 : Cond.fieldLink RJ6 83 "java/lang/Integer" "DigitOnes" "[B" ∈ lwg := (lwg_of (List.mem_append_right _ (List.mem_of_getElem? (i := 932) (by decide +kernel))) rfl)
theorem kg_J6_87 : Cond.fieldLink RJ6 87 "java/lang/Integer" "DigitTens" "[B" ∈ lwg := (lwg_of (List.mem_append_right _ (List.mem_of_getElem? (i := 934) (by decide +kernel))) rfl)
theorem kg_J5_18 : Cond.fieldLink RJ5 18 "java/lang/String" "COMPACT_STRINGS" "Z" ∈ lwg := (lwg_of (List.mem_append_right _ (List.mem_of_getElem? (i := 232) (by decide +kernel))) rfl)
theorem kg_J0_38 : Cond.fieldLink RJ0 38 "java/lang/String" "COMPACT_STRINGS" "Z" ∈ lwg := (lwg_of (List.mem_append_right _ (List.mem_of_getElem? (i := 727) (by decide +kernel))) rfl)
theorem kg_J0_1053 : Cond.fieldLink RJ0 1053 "jdk/internal/util/Preconditions" "SIOOBE_FORMATTER" "Ljava/util/function/BiFunction;" ∈ lwg := (lwg_of (List.mem_append_right _ (List.mem_of_getElem? (i := 742) (by decide +kernel))) rfl)
theorem kg_Jx29ce0_7 : Cond.fieldLink RJx29ce0 7 "java/lang/Enum" "ordinal" "I" ∈ lwg := (lwg_of (List.mem_append_right _ (List.mem_of_getElem? (i := 1441) (by decide +kernel))) rfl)
theorem kg_J0_9 : Cond.fieldLink RJ0 9 "java/lang/String" "value" "[B" ∈ lwg := (lwg_of (List.mem_append_right _ (List.mem_of_getElem? (i := 990) (by decide +kernel))) rfl)
theorem kg_J0_15 : Cond.fieldLink RJ0 15 "java/lang/String" "coder" "B" ∈ lwg := (lwg_of (List.mem_append_right _ (List.mem_of_getElem? (i := 991) (by decide +kernel))) rfl)
