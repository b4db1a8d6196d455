def p_num (tx : List Int) : Nat → Int → Int → Int
  | 0, _, acc => acc
  | n + 1, i, acc => p_num tx n (i + 1) (acc * 10 + (tx.getD i.toNat 0 - 48))
def p_eod (tx : List Int) : Nat → Int → Int
  | 0, e => e
  | n + 1, e => p_eod tx n (if e < (tx.length : Int) ∧ 48 ≤ tx.getD e.toNat 0 ∧ tx.getD e.toNat 0 ≤ 57 then e + 1 else e)
def p_eos (tx : List Int) (x q : Int) : Int := if x = 35 ∨ x = 42 then p_eod tx (if x = 35 then 1 else 3) q else if q < (tx.length : Int) ∧ tx.getD q.toNat 0 = x then q + 1 else q
def p_add (A : List Int) (x : Int) : List Int := if A.length < 4 then A ++ [x] else A
/-- a form read at q: where it ends (or -1), the farthest stop, the arguments -/
def p_fit (tx z : List Int) : Nat → Int → Int → List Int → Int → Int × Int × List Int
  | 0, _, q, A, fu => if q < (tx.length : Int) ∧ tx.getD q.toNat 0 ≠ 59 then (-1, max fu q, A) else (q, fu, A)
  | n + 1, i, q, A, fu => if p_eos tx (z.getD i.toNat 0) q = q then (-1, max fu q, A) else p_fit tx z n (i + 1) (p_eos tx (z.getD i.toNat 0) q) (if z.getD i.toNat 0 = 35 ∨ z.getD i.toNat 0 = 42 then p_add A (p_num tx (p_eos tx (z.getD i.toNat 0) q - q).toNat q 0) else A) fu
def p_f1 (tx : List Int) (k : Nat) (q fu : Int) : Int × Int × List Int := p_fit tx (fo_z.getD k []) (fo_z.getD k []).length 0 q [] fu
def p_rc (tx : List Int) (q : Int) : Nat → Nat → Int → Int × Int × Nat × List Int
  | 0, _, fu => (-1, fu, 0, [])
  | n + 1, k, fu => if (p_f1 tx k q fu).1 ≠ -1 then ((p_f1 tx k q fu).1, (p_f1 tx k q fu).2.1, k, (p_f1 tx k q fu).2.2) else p_rc tx q n (k + 1) (p_f1 tx k q fu).2.1
def p_rcs (tx : List Int) : Nat → Int → Int → Bool × Int × List (Nat × List Int)
  | 0, _, fu => (false, fu, [])
  | n + 1, q, fu => if (p_rc tx q 13 0 fu).1 = -1 then (false, (p_rc tx q 13 0 fu).2.1, []) else if (p_rc tx q 13 0 fu).1 = (tx.length : Int) then (true, (p_rc tx q 13 0 fu).2.1, [(p_rc tx q 13 0 fu).2.2]) else ((p_rcs tx n ((p_rc tx q 13 0 fu).1 + 1) (p_rc tx q 13 0 fu).2.1).1, (p_rcs tx n ((p_rc tx q 13 0 fu).1 + 1) (p_rc tx q 13 0 fu).2.1).2.1, (p_rc tx q 13 0 fu).2.2 :: (p_rcs tx n ((p_rc tx q 13 0 fu).1 + 1) (p_rc tx q 13 0 fu).2.1).2.2)
theorem p_eod_rg (tx : List Int) : ∀ (n : Nat) (e : Int), 0 ≤ e ∧ e ≤ (tx.length : Int) → e ≤ p_eod tx n e ∧ p_eod tx n e ≤ (tx.length : Int) ∧ p_eod tx n e ≤ e + n := by
  intro n
  induction n with
  | zero => intro e he; exact ⟨Int.le_refl _, he.2, by show e ≤ e + ((0 : Nat) : Int); omega⟩
  | succ n ih =>
    intro e he
    rw [p_eod]
    split
    · have := ih (e + 1) (by omega); omega
    · have := ih e he; omega
theorem p_eos_rg (tx : List Int) (x q : Int) (hq : 0 ≤ q ∧ q ≤ (tx.length : Int)) : q ≤ p_eos tx x q ∧ p_eos tx x q ≤ (tx.length : Int) ∧ p_eos tx x q ≤ q + 3 := by
  unfold p_eos
  split
  · split
    · have := p_eod_rg tx 1 q hq; omega
    · have := p_eod_rg tx 3 q hq; omega
  · split <;> omega
theorem sbT.keep {z0 a v n b k : Nat} {tx : List Int} {M M2 : m_M} (h : sbT z0 a v n tx M) (hf : m_fr b k M M2) (h1 : a < b ∨ b + k ≤ a) (h2 : v < b ∨ b + k ≤ v) : sbT z0 a v n tx M2 := by
  obtain ⟨ml, f, hP, q1, q2, q3, q4⟩ := h
  exact ⟨ml, f, ⟨(hf.2 _ h1).trans hP.1, (hf.2 _ h2).trans hP.2⟩, q1, q2, by rw [hf.1]; exact q3, q4⟩
theorem sbT.ch {z0 a v n : Nat} {tx : List Int} {M : m_M} (h : sbT z0 a v n tx M) (i : Int) (hi : 0 ≤ i ∧ i < (tx.length : Int)) : 0 ≤ tx.getD i.toNat 0 ∧ tx.getD i.toNat 0 < 128 := by
  obtain ⟨ml, f, hP, q1, q2, q3, q4⟩ := h
  rw [← q1 i.toNat (by omega)]
  exact q2 _
section
variable {D : va_G} {aC : Nat → ClassId} {s0 : State} {own : String} {cc : ByteArray} {nL : Nat} {p : Program} {l : Launch} {e : Env} {R : Room} {s : State} {m : MethodId} {args : Array Value} {below : List Frame} {meth : Method} {c : Code} {cells slots : Nat} {Q : State → Prop} {pc : Nat} {lv : List (Nat × Value)} {st : List Value} {M : m_M}
theorem m_sbr (C : m_C D aC s0 own cc nL l p s m args meth c) {z0 a v n : Nat} {tx : List Int} (h : sbT z0 a v n tx M) : ∀ (H : Heap) (locs : List Loc), m_H D aC M H → va_S (m_A s0) s.heap H locs → ∃ cellB : Cell, H[a]? = some cellB ∧ cellB.vm.isStatics = false ∧ s.vm.findClass RJ4 = some cellB.cls := by
  obtain ⟨ml, f, hP, -⟩ := h
  exact m_obr (q := (RJ4, TJ4, 4)) C hP.1 rfl
end

set_option maxHeartbeats 4000000 in
set_option maxRecDepth 100000 in
theorem t_X8_isArgument {D : va_G} {aC : Nat → ClassId} {s0 : State} {l : Launch} (hF : m_F D aC s0) (hl : l.stackTraces = false) {x : Int} {M : m_M} (hx : 0 ≤ x ∧ x < 128) : m_Met D aC s0 l yX8_isArgument cX8_isArgument 1 (some .boolean) 0 (0) (0) [VI x] M (fun r M' => r = some (VI (if x = 35 ∨ x = 42 then 1 else 0)) ∧ M' = M) m_nx := by
  refine m_entry (lv := [(0, VI x)]) (by decide +kernel) (Nat.le_of_ble_eq_true rfl) rfl hF hl ?_
  intro p e s m args below meth c hC hr hno hnm
  change m_C D aC s0 RX8 _ _ _ _ _ _ _ _ _ at hC
  refine m_iload_n hC 0 dX8_isArgument_0 rfl rfl ?_
  refine m_bipush hC dX8_isArgument_1 (by decide) ?_
  refine m_icmp_eq (tgt := 12) hC dX8_isArgument_3 (by decide) (by first | omega | (simp [hs_at] <;> omega)) (fun c1 => ?_) (fun c1 => ?_)
  · refine m_iconst hC dX8_isArgument_12 ?_
    refine m_goto (tgt := 17) hC dX8_isArgument_13 (by decide) ?_
    exact m_zret hC dX8_isArgument_17 hr (by rfl) (by decide) (by decide) (⟨by first | rw [if_pos (by omega)] | rw [if_neg (by omega)], rfl⟩)
  · refine m_iload_n hC 0 dX8_isArgument_6 rfl rfl ?_
    refine m_bipush hC dX8_isArgument_7 (by decide) ?_
    refine m_icmp_ne (tgt := 16) hC dX8_isArgument_9 (by decide) (by first | omega | (simp [hs_at] <;> omega)) (fun c2 => ?_) (fun c2 => ?_)
    · refine m_iconst hC dX8_isArgument_16 ?_
      exact m_zret hC dX8_isArgument_17 hr (by rfl) (by decide) (by decide) (⟨by first | rw [if_pos (by omega)] | rw [if_neg (by omega)], rfl⟩)
    · refine m_iconst hC dX8_isArgument_12 ?_
      refine m_goto (tgt := 17) hC dX8_isArgument_13 (by decide) ?_
      exact m_zret hC dX8_isArgument_17 hr (by rfl) (by decide) (by decide) (⟨by first | rw [if_pos (by omega)] | rw [if_neg (by omega)], rfl⟩)

set_option maxHeartbeats 4000000 in
set_option maxRecDepth 100000 in
theorem t_X8_numberBetween {D : va_G} {aC : Nat → ClassId} {s0 : State} {l : Launch} (hF : m_F D aC s0) (hl : l.stackTraces = false) {fo ks vs : Nat → Nat} {fA sA dO dT : Nat} (hJ : m_J s0 fo ks vs fA sA dO dT) {y v n : Nat} {tx : List Int} {cnt fur : Int} {M : m_M} (hY : M.2 y = some (m_ob 10 [.ref (y + 1), .ref (y + 3), VI cnt, VI fur])) (hT : sbT s0.heap.size (y + 1) v n tx M) {q e9 : Int} (hq : 0 ≤ q ∧ q ≤ e9 ∧ e9 ≤ q + 3 ∧ e9 ≤ (tx.length : Int)) (hL : tx.length ≤ 240) : m_Met D aC s0 l yX8_numberBetween cX8_numberBetween 5 (some .int) 4 (0) (0) [.ref y, VI q, VI e9] M (fun r M' => r = some (VI (p_num tx (e9 - q).toNat q 0)) ∧ M' = M) m_nx := by
  refine m_entry (lv := [(0, .ref y), (1, VI q), (2, VI e9)]) (by decide +kernel) (Nat.le_of_ble_eq_true rfl) rfl hF hl ?_
  intro p e s m args below meth c hC hr hno hnm
  change m_C D aC s0 RX8 _ _ _ _ _ _ _ _ _ at hC
  refine m_iconst hC dX8_numberBetween_0 ?_
  refine m_istore_n hC dX8_numberBetween_1 rfl (by decide) rfl ?_
  refine m_iload_n hC 2 dX8_numberBetween_2 rfl rfl ?_
  refine m_istore hC dX8_numberBetween_3 (by decide) rfl ?_
  have L : ∀ (n9 : Nat) (i ac : Int), e9 - i < (n9 : Int) → q ≤ i → i ≤ e9 → (i = q → ac = 0) ∧ (i = q + 1 → -79 ≤ ac ∧ ac ≤ 79) ∧ (i = q + 2 → -869 ≤ ac ∧ ac ≤ 869) ∧ (i = q + 3 → -8769 ≤ ac ∧ ac ≤ 8769) → p_num tx (e9 - q).toNat q 0 = p_num tx (e9 - i).toNat i ac → m_W D aC s0 5 p l e (m_R 4 (0) (0)) s m args below meth c (0) (0) (m_Q D aC s0 below (fun r M' => r = some (VI (p_num tx (e9 - q).toNat q 0)) ∧ M' = M) m_nx args s (0) (0)) 5 [(4, VI i), (3, VI ac), (2, VI e9), (1, VI q), (0, .ref y)] [] M := by
    intro n9
    induction n9 with
    | zero =>
      intro i ac hn h0 h1 hb hS
      omega
    | succ n9 ih =>
      intro i ac hn h0 h1 hb hS
      refine m_iload hC 0 dX8_numberBetween_5 rfl ?_
      refine m_iload_n hC 2 dX8_numberBetween_7 rfl rfl ?_
      refine m_icmp_ge (tgt := 35) hC dX8_numberBetween_8 (by decide) (by first | omega | (simp [hs_at] <;> omega)) (fun c1 => ?_) (fun c1 => ?_)
      · refine m_iload_n hC 1 dX8_numberBetween_35 rfl rfl ?_
        exact m_iret hC dX8_numberBetween_36 hr (by decide) (by decide) (⟨by rw [hS, show (e9 - i).toNat = 0 by omega, p_num], rfl⟩)
      · refine m_iload_n hC 1 dX8_numberBetween_11 rfl rfl ?_
        refine m_bipush hC dX8_numberBetween_12 (by decide) ?_
        refine m_imul hC dX8_numberBetween_14 ?_
        refine m_aload_n hC 4 dX8_numberBetween_15 rfl rfl ?_
        refine m_getf hC dX8_numberBetween_16 kf_X8_12 hY rfl ?_
        refine m_iload hC 0 dX8_numberBetween_19 rfl ?_
        refine m_callVr hC (t_J4_charAt_5068e hF hl hJ hT (i := i) (by omega)) dX8_numberBetween_21 kc_J4_charAt_5068e kV_X8_86 rfl (m_sbr hC hT) rfl rfl (Nat.le_of_ble_eq_true rfl) (by decide) (by decide) m_nox (fun v9 M2 h9 => ?_)
        obtain ⟨rfl, h9⟩ := h9
        replace h9 := h9.symm
        subst h9
        refine m_bipush hC dX8_numberBetween_24 (by decide) ?_
        refine m_isub hC dX8_numberBetween_26 ?_
        refine m_iadd hC dX8_numberBetween_27 ?_
        refine m_istore_n hC dX8_numberBetween_28 rfl (by decide) rfl ?_
        refine m_iinc hC 1 dX8_numberBetween_29 rfl (by decide) rfl ?_
        refine m_goto (tgt := 5) hC dX8_numberBetween_32 (by decide) ?_
        refine m_lvs [0, 1, 2, 3, 4] rfl (ih (i + 1) _ (by omega) (by omega) (by omega) (by have := hT.ch i (by omega); omega) (by rw [hS, show (e9 - i).toNat = (e9 - (i + 1)).toNat + 1 by omega, p_num]))
  refine m_lvs [0, 1, 4, 3, 2] rfl (L ((e9 - q).toNat + 1) q 0 (by omega) (by omega) (by omega) (by omega) rfl)

set_option maxHeartbeats 4000000 in
set_option maxRecDepth 100000 in
theorem t_X8_endOfDigits {D : va_G} {aC : Nat → ClassId} {s0 : State} {l : Launch} (hF : m_F D aC s0) (hl : l.stackTraces = false) {fo ks vs : Nat → Nat} {fA sA dO dT : Nat} (hJ : m_J s0 fo ks vs fA sA dO dT) {y v n : Nat} {tx : List Int} {cnt fur : Int} {M : m_M} (hY : M.2 y = some (m_ob 10 [.ref (y + 1), .ref (y + 3), VI cnt, VI fur])) (hT : sbT s0.heap.size (y + 1) v n tx M) {q mo : Int} (hq : 0 ≤ q ∧ q ≤ (tx.length : Int)) (hmo : 0 ≤ mo ∧ mo ≤ 3) (hL : tx.length ≤ 240) : m_Met D aC s0 l yX8_endOfDigits cX8_endOfDigits 5 (some .int) 4 (0) (0) [.ref y, VI q, VI mo] M (fun r M' => r = some (VI (p_eod tx mo.toNat q)) ∧ M' = M) m_nx := by
  refine m_entry (lv := [(0, .ref y), (1, VI q), (2, VI mo)]) (by decide +kernel) (Nat.le_of_ble_eq_true rfl) rfl hF hl ?_
  intro p e s m args below meth c hC hr hno hnm
  change m_C D aC s0 RX8 _ _ _ _ _ _ _ _ _ at hC
  refine m_iload_n hC 1 dX8_endOfDigits_0 rfl rfl ?_
  refine m_istore_n hC dX8_endOfDigits_1 rfl (by decide) rfl ?_
  refine m_iconst hC dX8_endOfDigits_2 ?_
  refine m_istore hC dX8_endOfDigits_3 (by decide) rfl ?_
  have L : ∀ (n9 : Nat) (i e9 : Int), mo - i < (n9 : Int) → 0 ≤ i → i ≤ mo → q ≤ e9 ∧ e9 ≤ (tx.length : Int) → p_eod tx mo.toNat q = p_eod tx (mo - i).toNat e9 → m_W D aC s0 5 p l e (m_R 4 (0) (0)) s m args below meth c (0) (0) (m_Q D aC s0 below (fun r M' => r = some (VI (p_eod tx mo.toNat q)) ∧ M' = M) m_nx args s (0) (0)) 5 [(4, VI i), (3, VI e9), (2, VI mo), (1, VI q), (0, .ref y)] [] M := by
    intro n9
    induction n9 with
    | zero =>
      intro i e9 hn h0 h1 he hS
      omega
    | succ n9 ih =>
      intro i e9 hn h0 h1 he hS
      refine m_iload hC 0 dX8_endOfDigits_5 rfl ?_
      refine m_iload_n hC 2 dX8_endOfDigits_7 rfl rfl ?_
      refine m_icmp_ge (tgt := 57) hC dX8_endOfDigits_8 (by decide) (by first | omega | (simp [hs_at] <;> omega)) (fun c1 => ?_) (fun c1 => ?_)
      · refine m_iload_n hC 1 dX8_endOfDigits_57 rfl rfl ?_
        exact m_iret hC dX8_endOfDigits_58 hr (by decide) (by decide) (⟨by rw [hS, show (mo - i).toNat = 0 by omega, p_eod], rfl⟩)
      · refine m_iload_n hC 1 dX8_endOfDigits_11 rfl rfl ?_
        refine m_aload_n hC 4 dX8_endOfDigits_12 rfl rfl ?_
        refine m_getf hC dX8_endOfDigits_13 kf_X8_12 hY rfl ?_
        refine m_callVr hC (t_J4_length_8abf5 hF hl hT) dX8_endOfDigits_16 kc_J4_length_8abf5 kV_X8_36 rfl (m_sbr hC hT) rfl rfl (Nat.le_of_ble_eq_true rfl) (by decide) (by decide) m_nox (fun v9 M2 h9 => ?_)
        obtain ⟨rfl, h9⟩ := h9
        replace h9 := h9.symm
        subst h9
        refine m_icmp_ge (tgt := 51) hC dX8_endOfDigits_19 (by decide) (by first | omega | (simp [hs_at] <;> omega)) (fun c3 => ?_) (fun c3 => ?_)
        · refine m_iinc hC 0 dX8_endOfDigits_51 rfl (by decide) rfl ?_
          refine m_goto (tgt := 5) hC dX8_endOfDigits_54 (by decide) ?_
          refine m_lvs [0, 1, 2, 3, 4] rfl (ih (i + 1) _ (by omega) (by omega) (by omega) (by omega) (by rw [hS, show (mo - i).toNat = (mo - (i + 1)).toNat + 1 by omega, p_eod, if_neg (by omega)]))
        · have hce := hT.ch e9 (by omega)
          refine m_aload_n hC 4 dX8_endOfDigits_22 rfl rfl ?_
          refine m_getf hC dX8_endOfDigits_23 kf_X8_12 hY rfl ?_
          refine m_iload_n hC 1 dX8_endOfDigits_26 rfl rfl ?_
          refine m_callVr hC (t_J4_charAt_5068e hF hl hJ hT (i := e9) (by omega)) dX8_endOfDigits_27 kc_J4_charAt_5068e kV_X8_86 rfl (m_sbr hC hT) rfl rfl (Nat.le_of_ble_eq_true rfl) (by decide) (by decide) m_nox (fun v9 M4 h9 => ?_)
          obtain ⟨rfl, h9⟩ := h9
          replace h9 := h9.symm
          subst h9
          refine m_bipush hC dX8_endOfDigits_30 (by decide) ?_
          refine m_icmp_lt (tgt := 51) hC dX8_endOfDigits_32 (by decide) (by first | omega | (simp [hs_at] <;> omega)) (fun c5 => ?_) (fun c5 => ?_)
          · refine m_iinc hC 0 dX8_endOfDigits_51 rfl (by decide) rfl ?_
            refine m_goto (tgt := 5) hC dX8_endOfDigits_54 (by decide) ?_
            refine m_lvs [0, 1, 2, 3, 4] rfl (ih (i + 1) _ (by omega) (by omega) (by omega) (by omega) (by rw [hS, show (mo - i).toNat = (mo - (i + 1)).toNat + 1 by omega, p_eod, if_neg (by omega)]))
          · refine m_aload_n hC 4 dX8_endOfDigits_35 rfl rfl ?_
            refine m_getf hC dX8_endOfDigits_36 kf_X8_12 hY rfl ?_
            refine m_iload_n hC 1 dX8_endOfDigits_39 rfl rfl ?_
            refine m_callVr hC (t_J4_charAt_5068e hF hl hJ hT (i := e9) (by omega)) dX8_endOfDigits_40 kc_J4_charAt_5068e kV_X8_86 rfl (m_sbr hC hT) rfl rfl (Nat.le_of_ble_eq_true rfl) (by decide) (by decide) m_nox (fun v9 M6 h9 => ?_)
            obtain ⟨rfl, h9⟩ := h9
            replace h9 := h9.symm
            subst h9
            refine m_bipush hC dX8_endOfDigits_43 (by decide) ?_
            refine m_icmp_gt (tgt := 51) hC dX8_endOfDigits_45 (by decide) (by first | omega | (simp [hs_at] <;> omega)) (fun c7 => ?_) (fun c7 => ?_)
            · refine m_iinc hC 0 dX8_endOfDigits_51 rfl (by decide) rfl ?_
              refine m_goto (tgt := 5) hC dX8_endOfDigits_54 (by decide) ?_
              refine m_lvs [0, 1, 2, 3, 4] rfl (ih (i + 1) _ (by omega) (by omega) (by omega) (by omega) (by rw [hS, show (mo - i).toNat = (mo - (i + 1)).toNat + 1 by omega, p_eod, if_neg (by omega)]))
            · refine m_iinc hC 1 dX8_endOfDigits_48 rfl (by decide) rfl ?_
              refine m_iinc hC 1 dX8_endOfDigits_51 rfl (by decide) rfl ?_
              refine m_goto (tgt := 5) hC dX8_endOfDigits_54 (by decide) ?_
              refine m_lvs [0, 1, 2, 3, 4] rfl (ih (i + 1) _ (by omega) (by omega) (by omega) (by omega) (by rw [hS, show (mo - i).toNat = (mo - (i + 1)).toNat + 1 by omega, p_eod, if_pos (by omega)]))
  refine m_lvs [0, 1, 4, 3, 2] rfl (L 5 0 q (by omega) (by omega) (by omega) (by omega) (by rw [Int.sub_zero]))

set_option maxHeartbeats 4000000 in
set_option maxRecDepth 100000 in
theorem t_X8_endOfSign {D : va_G} {aC : Nat → ClassId} {s0 : State} {l : Launch} (hF : m_F D aC s0) (hl : l.stackTraces = false) {fo ks vs : Nat → Nat} {fA sA dO dT : Nat} (hJ : m_J s0 fo ks vs fA sA dO dT) {y v n : Nat} {tx : List Int} {cnt fur : Int} {M : m_M} (hY : M.2 y = some (m_ob 10 [.ref (y + 1), .ref (y + 3), VI cnt, VI fur])) (hT : sbT s0.heap.size (y + 1) v n tx M) {x q : Int} (hx : 0 ≤ x ∧ x < 128) (hq : 0 ≤ q ∧ q ≤ (tx.length : Int)) (hL : tx.length ≤ 240) : m_Met D aC s0 l yX8_endOfSign cX8_endOfSign 3 (some .int) 5 (0) (0) [.ref y, VI x, VI q] M (fun r M' => r = some (VI (p_eos tx x q)) ∧ M' = M) m_nx := by
  refine m_entry (lv := [(0, .ref y), (1, VI x), (2, VI q)]) (by decide +kernel) (Nat.le_of_ble_eq_true rfl) rfl hF hl ?_
  intro p e s m args below meth c hC hr hno hnm
  change m_C D aC s0 RX8 _ _ _ _ _ _ _ _ _ at hC
  refine m_iload_n hC 1 dX8_endOfSign_0 rfl rfl ?_
  refine m_callS hC (t_X8_isArgument hF hl hx) dX8_endOfSign_1 kc_X8_isArgument kS_X8_74 rfl rfl (Nat.le_of_ble_eq_true rfl) (by decide) (by decide) m_nox (fun v9 M1 h9 => ?_)
  obtain ⟨rfl, h9⟩ := h9
  replace h9 := h9.symm
  subst h9
  by_cases hqa : x = 35 ∨ x = 42
  · rw [if_pos hqa]
    refine m_if_eq (tgt := 24) hC dX8_endOfSign_4 (by decide) (by first | omega | (simp [hs_at] <;> omega)) (fun c1 => by omega) (fun c1 => ?_)
    refine m_aload_n hC 0 dX8_endOfSign_7 rfl rfl ?_
    refine m_iload_n hC 2 dX8_endOfSign_8 rfl rfl ?_
    refine m_iload_n hC 1 dX8_endOfSign_9 rfl rfl ?_
    refine m_bipush hC dX8_endOfSign_10 (by decide) ?_
    refine m_icmp_ne (tgt := 19) hC dX8_endOfSign_12 (by decide) (by first | omega | (simp [hs_at] <;> omega)) (fun c2 => ?_) (fun c2 => ?_)
    · refine m_iconst hC dX8_endOfSign_19 ?_
      refine m_callV hC (t_X8_endOfDigits hF hl hJ hY hT hq (mo := 3) (by omega) hL) dX8_endOfSign_20 kc_X8_endOfDigits kV_X8_92 hY rfl rfl rfl rfl (Nat.le_of_ble_eq_true rfl) (by decide) (by decide) m_nox (fun v9 M3 h9 => ?_)
      obtain ⟨rfl, h9⟩ := h9
      replace h9 := h9.symm
      subst h9
      exact m_iret hC dX8_endOfSign_23 hr (by decide) (by decide) (⟨by unfold p_eos; rw [if_pos hqa, if_neg (by omega)] <;> rfl, rfl⟩)
    · refine m_iconst hC dX8_endOfSign_15 ?_
      refine m_goto (tgt := 20) hC dX8_endOfSign_16 (by decide) ?_
      refine m_callV hC (t_X8_endOfDigits hF hl hJ hY hT hq (mo := 1) (by omega) hL) dX8_endOfSign_20 kc_X8_endOfDigits kV_X8_92 hY rfl rfl rfl rfl (Nat.le_of_ble_eq_true rfl) (by decide) (by decide) m_nox (fun v9 M4 h9 => ?_)
      obtain ⟨rfl, h9⟩ := h9
      replace h9 := h9.symm
      subst h9
      exact m_iret hC dX8_endOfSign_23 hr (by decide) (by decide) (⟨by unfold p_eos; rw [if_pos hqa, if_pos (by omega)] <;> rfl, rfl⟩)
  · rw [if_neg hqa]
    refine m_if_eq (tgt := 24) hC dX8_endOfSign_4 (by decide) (by first | omega | (simp [hs_at] <;> omega)) (fun c5 => ?_) (fun c5 => by omega)
    refine m_iload_n hC 2 dX8_endOfSign_24 rfl rfl ?_
    refine m_aload_n hC 0 dX8_endOfSign_25 rfl rfl ?_
    refine m_getf hC dX8_endOfSign_26 kf_X8_12 hY rfl ?_
    refine m_callVr hC (t_J4_length_8abf5 hF hl hT) dX8_endOfSign_29 kc_J4_length_8abf5 kV_X8_36 rfl (m_sbr hC hT) rfl rfl (Nat.le_of_ble_eq_true rfl) (by decide) (by decide) m_nox (fun v9 M6 h9 => ?_)
    obtain ⟨rfl, h9⟩ := h9
    replace h9 := h9.symm
    subst h9
    refine m_icmp_ge (tgt := 53) hC dX8_endOfSign_32 (by decide) (by first | omega | (simp [hs_at] <;> omega)) (fun c7 => ?_) (fun c7 => ?_)
    · refine m_iload_n hC 2 dX8_endOfSign_53 rfl rfl ?_
      exact m_iret hC dX8_endOfSign_54 hr (by decide) (by decide) (⟨by unfold p_eos; rw [if_neg hqa]; first | rw [if_pos (by omega)] | rw [if_neg (by omega)], rfl⟩)
    · have hce := hT.ch q (by omega)
      refine m_aload_n hC 0 dX8_endOfSign_35 rfl rfl ?_
      refine m_getf hC dX8_endOfSign_36 kf_X8_12 hY rfl ?_
      refine m_iload_n hC 2 dX8_endOfSign_39 rfl rfl ?_
      refine m_callVr hC (t_J4_charAt_5068e hF hl hJ hT (i := q) (by omega)) dX8_endOfSign_40 kc_J4_charAt_5068e kV_X8_86 rfl (m_sbr hC hT) rfl rfl (Nat.le_of_ble_eq_true rfl) (by decide) (by decide) m_nox (fun v9 M8 h9 => ?_)
      obtain ⟨rfl, h9⟩ := h9
      replace h9 := h9.symm
      subst h9
      refine m_iload_n hC 1 dX8_endOfSign_43 rfl rfl ?_
      refine m_icmp_ne (tgt := 53) hC dX8_endOfSign_44 (by decide) (by first | omega | (simp [hs_at] <;> omega)) (fun c9 => ?_) (fun c9 => ?_)
      · refine m_iload_n hC 2 dX8_endOfSign_53 rfl rfl ?_
        exact m_iret hC dX8_endOfSign_54 hr (by decide) (by decide) (⟨by unfold p_eos; rw [if_neg hqa]; first | rw [if_pos (by omega)] | rw [if_neg (by omega)], rfl⟩)
      · refine m_iload_n hC 2 dX8_endOfSign_47 rfl rfl ?_
        refine m_iconst hC dX8_endOfSign_48 ?_
        refine m_iadd hC dX8_endOfSign_49 ?_
        refine m_goto (tgt := 54) hC dX8_endOfSign_50 (by decide) ?_
        exact m_iret hC dX8_endOfSign_54 hr (by decide) (by decide) (⟨by unfold p_eos; rw [if_neg hqa]; first | rw [if_pos (by omega)] | rw [if_neg (by omega)], rfl⟩)

set_option maxHeartbeats 4000000 in
set_option maxRecDepth 100000 in
theorem t_X8_stopAt {D : va_G} {aC : Nat → ClassId} {s0 : State} {l : Launch} (hF : m_F D aC s0) (hl : l.stackTraces = false) {y : Nat} {a1 a2 : Value} {cnt fur q : Int} {M : m_M} (hY : M.2 y = some (m_ob 10 [a1, a2, VI cnt, VI fur])) (hy : s0.heap.size ≤ y) (hq : 0 ≤ q ∧ q ≤ 1000 ∧ 0 ≤ fur ∧ fur ≤ 1000) : m_Met D aC s0 l yX8_stopAt cX8_stopAt 2 (some .int) 1 (0) (0) [.ref y, VI q] M (fun r M' => r = some (VI (-1)) ∧ M'.2 y = some (m_ob 10 [a1, a2, VI cnt, VI (max fur q)]) ∧ m_fr y 1 M M') m_nx := by
  refine m_entry (lv := [(0, .ref y), (1, VI q)]) (by decide +kernel) (Nat.le_of_ble_eq_true rfl) rfl hF hl ?_
  intro p e s m args below meth c hC hr hno hnm
  change m_C D aC s0 RX8 _ _ _ _ _ _ _ _ _ at hC
  refine m_aload_n hC 0 dX8_stopAt_0 rfl rfl ?_
  refine m_aload_n hC 0 dX8_stopAt_1 rfl rfl ?_
  refine m_getf hC dX8_stopAt_2 kf_X8_28 hY rfl ?_
  refine m_iload_n hC 1 dX8_stopAt_5 rfl rfl ?_
  refine m_mmax hC dX8_stopAt_6 kM_X8_87 (by first | omega | (simp [hs_at] <;> omega)) (by decide) (Nat.le_of_ble_eq_true rfl) (by decide) (by decide) ?_
  refine m_gpf hC dX8_stopAt_9 kf_X8_28 kw_10_3 hY hy (Nat.le_of_ble_eq_true rfl) rfl rfl (fun M1 R2 f3 => ?_)
  change M1.2 _ = some (m_ob 10 [_, _, _, _]) at R2
  refine m_iconst hC dX8_stopAt_12 ?_
  exact m_iret hC dX8_stopAt_13 hr (by decide) (by decide) (⟨rfl, R2, f3⟩)

