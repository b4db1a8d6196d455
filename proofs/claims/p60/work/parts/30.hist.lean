section
variable {D : va_G} {aC : Nat → ClassId} {s0 : State} {own : String} {cc : ByteArray} {nL : Nat} {p : Program} {l : Launch} {e : Env} {R : Room} {s : State} {m : MethodId} {args : Array Value} {below : List Frame} {meth : Method} {c : Code} {cells slots : Nat} {Q : State → Prop} {pc : Nat} {lv : List (Nat × Value)} {st : List Value} {M : m_M}
theorem m_gpf (C : m_C D aC s0 own cc nL l p s m args meth c) {idx ci k a : Nat} {fs : List Value} {v : Value} {ty : FieldType} {decl : String} (hd : decode cc pc = .ok (.putfield idx, 3)) (hf : m_fl own idx ci k) (hw : m_fw ci k ty false decl) (hM : M.2 a = some (m_ob ci fs)) (ha : s0.heap.size ≤ a) (hl : k < fs.length) (hn : narrow ty v = v) (hfit : fits ty v = true) (kk : ∀ M1 : m_M, M1.2 a = some (m_ob ci (fs.set k v)) → m_fr a 1 M M1 → m_W D aC s0 nL p l e R s m args below meth c cells slots Q (pc + 3) lv st M1) : m_W D aC s0 nL p l e R s m args below meth c cells slots Q pc lv (v :: .ref a :: st) M := m_putf C hd hf hw hM ha hl hn hfit (kk _ m_up_eq (m_fr.up (by omega) (by omega)))
theorem m_gas (C : m_C D aC s0 own cc nL l p s m args meth c) {a n k b ci : Nat} {CC : String} {T : u_T} {N : Nat} {f : Nat → Value} {fs : List Value} {i : Int} (hd : decode cc pc = .ok (.aastore, 1)) (hM : M.2 a = some (m_va k n f)) (hk : k < 8) (hr : m_ty k = .object CC) (hb : M.2 b = some (m_ob ci fs)) (hc : vwCl[ci]? = some (CC, T, N)) (ha : s0.heap.size ≤ a) (hn : n < 2147483648) (h : 0 ≤ i ∧ i < (n : Int)) (kk : ∀ M1 : m_M, M1.2 a = some (m_va k n (updV f i.toNat (.ref b))) → m_fr a 1 M M1 → m_W D aC s0 nL p l e R s m args below meth c cells slots Q (pc + 1) lv st M1) : m_W D aC s0 nL p l e R s m args below meth c cells slots Q pc lv (.ref b :: VI i :: .ref a :: st) M := m_aast C hd hM hk hr hb hc ha hn h (kk _ m_up_eq (m_fr.up (by omega) (by omega)))
end
/-- the history at x + 52: its rows are the nine households from x + 54 on, in the order p; row i holds L i -/
def hiQ (x : Nat) (c : Int) (p : Nat → Nat) (L : Nat → h_T) (M : m_M) : Prop := (M.2 (x + 52) = some (m_ob 8 [.ref (x + 53), VI c]) ∧ M.2 (x + 53) = some (m_va 5 9 (fun i => .ref (x + 54 + 17 * p i)))) ∧ (∀ i, i < 9 → p i < 9) ∧ (∀ i j, i < 9 → j < 9 → p i = p j → i = j) ∧ ∀ i, i < 9 → hhR (x + 54 + 17 * p i) (L i) M
def hiP (x : Nat) (c : Int) (L : Nat → h_T) (M : m_M) : Prop := ∃ p : Nat → Nat, hiQ x c p L M
theorem hiQ.keep {x : Nat} {c : Int} {p : Nat → Nat} {L : Nat → h_T} {M M2 : m_M} (h : hiQ x c p L M) (hq : ∀ q : Nat, x + 52 ≤ q → q < x + 207 → M2.2 q = M.2 q) : hiQ x c p L M2 :=
  ⟨⟨(hq _ (by omega) (by omega)).trans h.1.1, (hq _ (by omega) (by omega)).trans h.1.2⟩, h.2.1, h.2.2.1, fun i hi => (h.2.2.2 i hi).keep (fun q h1 h2 => hq q (by omega) (by have := h.2.1 i hi; omega))⟩
theorem hiP.keep {x : Nat} {c : Int} {L : Nat → h_T} {M M2 : m_M} (h : hiP x c L M) (hq : ∀ q : Nat, x + 52 ≤ q → q < x + 207 → M2.2 q = M.2 q) : hiP x c L M2 := by
  obtain ⟨p, h⟩ := h
  exact ⟨p, h.keep hq⟩
theorem hiP.fr {x a n : Nat} {c : Int} {L : Nat → h_T} {M M2 : m_M} (h : hiP x c L M) (hf : m_fr a n M M2) (hd : x + 207 ≤ a ∨ a + n ≤ x + 52) : hiP x c L M2 := h.keep (fun q h1 h2 => hf.2 q (by omega))
/-- a row of it is written -/
theorem hiQ.row {x : Nat} {c : Int} {p : Nat → Nat} {L : Nat → h_T} {M M2 : m_M} {i : Nat} {g : h_T} (h : hiQ x c p L M) (hi : i < 9) (hR : hhR (x + 54 + 17 * p i) g M2) (hf : m_fr (x + 54 + 17 * p i) 17 M M2) : hiQ x c p (fun j => if j = i then g else L j) M2 := by
  refine ⟨⟨(hf.2 _ (by omega)).trans h.1.1, (hf.2 _ (by omega)).trans h.1.2⟩, h.2.1, h.2.2.1, fun j hj => ?_⟩
  by_cases hq : j = i
  · subst hq
    simp only [if_true]
    exact hR
  · simp only [hq, if_false]
    refine (h.2.2.2 j hj).fr hf ?_
    have : p j ≠ p i := fun z => hq (h.2.2.1 j i hj hi z)
    omega

set_option maxHeartbeats 4000000 in
set_option maxRecDepth 100000 in
theorem t_X6_prepare {D : va_G} {aC : Nat → ClassId} {s0 : State} {l : Launch} (hF : m_F D aC s0) (hl : l.stackTraces = false) {x : Nat} {cn : Int} {L : Nat → h_T} {M : m_M} (hH : hiP x cn L M) (hx : s0.heap.size ≤ x) (hc : 0 ≤ cn ∧ cn ≤ 8) {b : Nat} {g : h_T} (hR : hhR b g M) (hd : b + 17 ≤ x + 52 ∨ x + 207 ≤ b) (h8 : g 0 8 ≤ 4) (h9 : g 0 9 ≤ 5) (h11 : g 0 11 ≤ 8) : m_Met D aC s0 l yX6_prepare cX6_prepare 2 none 3 (0) (0) [.ref (x + 52), .ref b] M (fun v M' => v = none ∧ hiP x cn (fun j => if j = cn.toNat then g else L j) M' ∧ m_fr (x + 54) 153 M M') m_nx := by
  refine m_entry (lv := [(0, .ref (x + 52)), (1, .ref b)]) (by decide +kernel) (Nat.le_of_ble_eq_true rfl) rfl hF hl ?_
  intro p e s m args below meth c hC hr hno hnm
  change m_C D aC s0 RX6 _ _ _ _ _ _ _ _ _ at hC
  obtain ⟨p9, hQ⟩ := hH
  have hB9 := hQ.2.2.2 cn.toNat (by omega)
  have hp9 := hQ.2.1 cn.toNat (by omega)
  refine m_aload_n hC 0 dX6_prepare_0 rfl rfl ?_
  refine m_getf hC dX6_prepare_1 kf_X6_11 hQ.1.1 rfl ?_
  refine m_aload_n hC 0 dX6_prepare_4 rfl rfl ?_
  refine m_getf hC dX6_prepare_5 kf_X6_17 hQ.1.1 rfl ?_
  refine m_aald hC dX6_prepare_8 hQ.1.2 (by decide) rfl (by decide) (by first | omega | (simp [hs_at] <;> omega)) ?_
  refine m_aload_n hC 1 dX6_prepare_9 rfl rfl ?_
  refine m_callV hC (t_X7_copyFrom hF hl hB9 (by omega) hR (by omega) h8 h9 h11) dX6_prepare_10 kc_X7_copyFrom kV_X6_22 hB9.ob rfl rfl rfl rfl (Nat.le_of_ble_eq_true rfl) (by decide) (by decide) m_nox (fun v9 M1 h9 => ?_)
  obtain ⟨rfl, R2, f3⟩ := h9
  exact m_vret hC dX6_prepare_13 hr (by decide) (by decide) (⟨rfl, ⟨p9, hQ.row (by omega) R2 f3⟩, f3.mono (by omega) (by omega)⟩)

set_option maxHeartbeats 4000000 in
set_option maxRecDepth 100000 in
theorem t_X6_takeBack {D : va_G} {aC : Nat → ClassId} {s0 : State} {l : Launch} (hF : m_F D aC s0) (hl : l.stackTraces = false) {x b : Nat} {cn : Int} {L : Nat → h_T} {M : m_M} (hH : hiP x cn L M) (hx : s0.heap.size ≤ x) (hc : 0 ≤ cn ∧ cn ≤ 8) (hb : s0.heap.size ≤ b) {g : h_T} (hR : hhR b g M) (hd : b + 17 ≤ x + 52 ∨ x + 207 ≤ b) (h8 : (L cn.toNat) 0 8 ≤ 4) (h9 : (L cn.toNat) 0 9 ≤ 5) (h11 : (L cn.toNat) 0 11 ≤ 8) : m_Met D aC s0 l yX6_takeBack cX6_takeBack 2 none 3 (0) (0) [.ref (x + 52), .ref b] M (h_up b M (L cn.toNat)) m_nx := by
  refine m_entry (lv := [(0, .ref (x + 52)), (1, .ref b)]) (by decide +kernel) (Nat.le_of_ble_eq_true rfl) rfl hF hl ?_
  intro p e s m args below meth c hC hr hno hnm
  change m_C D aC s0 RX6 _ _ _ _ _ _ _ _ _ at hC
  obtain ⟨p9, hQ⟩ := hH
  have hB9 := hQ.2.2.2 cn.toNat (by omega)
  have hp9 := hQ.2.1 cn.toNat (by omega)
  refine m_aload_n hC 1 dX6_takeBack_0 rfl rfl ?_
  refine m_aload_n hC 0 dX6_takeBack_1 rfl rfl ?_
  refine m_getf hC dX6_takeBack_2 kf_X6_11 hQ.1.1 rfl ?_
  refine m_aload_n hC 0 dX6_takeBack_5 rfl rfl ?_
  refine m_getf hC dX6_takeBack_6 kf_X6_17 hQ.1.1 rfl ?_
  refine m_aald hC dX6_takeBack_9 hQ.1.2 (by decide) rfl (by decide) (by first | omega | (simp [hs_at] <;> omega)) ?_
  refine m_callV hC (t_X7_copyFrom hF hl hR hb hB9 (by omega) h8 h9 h11) dX6_takeBack_10 kc_X7_copyFrom kV_X6_22 hR.ob rfl rfl rfl rfl (Nat.le_of_ble_eq_true rfl) (by decide) (by decide) m_nox (fun v9 M1 h9 => ?_)
  obtain ⟨rfl, R2, f3⟩ := h9
  exact m_vret hC dX6_takeBack_13 hr (by decide) (by decide) (⟨rfl, R2, f3⟩)

set_option maxHeartbeats 4000000 in
set_option maxRecDepth 100000 in
theorem t_X6_stepBack {D : va_G} {aC : Nat → ClassId} {s0 : State} {l : Launch} (hF : m_F D aC s0) (hl : l.stackTraces = false) {x b : Nat} {cn : Int} {L : Nat → h_T} {M : m_M} (hH : hiP x cn L M) (hx : s0.heap.size ≤ x) (hc : 1 ≤ cn ∧ cn ≤ 8) (hb : s0.heap.size ≤ b) {g : h_T} (hR : hhR b g M) (hd : b + 17 ≤ x + 52 ∨ x + 207 ≤ b) (h8 : (L (cn - 1).toNat) 0 8 ≤ 4) (h9 : (L (cn - 1).toNat) 0 9 ≤ 5) (h11 : (L (cn - 1).toNat) 0 11 ≤ 8) : m_Met D aC s0 l yX6_stepBack cX6_stepBack 2 none 3 (0) (0) [.ref (x + 52), .ref b] M (fun v M' => v = none ∧ hiP x (cn - 1) L M' ∧ hhR b (L (cn - 1).toNat) M' ∧ ∃ M1, m_fr (x + 52) 1 M M1 ∧ m_fr b 17 M1 M') m_nx := by
  refine m_entry (lv := [(0, .ref (x + 52)), (1, .ref b)]) (by decide +kernel) (Nat.le_of_ble_eq_true rfl) rfl hF hl ?_
  intro p e s m args below meth c hC hr hno hnm
  change m_C D aC s0 RX6 _ _ _ _ _ _ _ _ _ at hC
  obtain ⟨p9, hQ⟩ := hH
  have hB9 := hQ.2.2.2 (cn - 1).toNat (by omega)
  have hp9 := hQ.2.1 (cn - 1).toNat (by omega)
  refine m_aload_n hC 0 dX6_stepBack_0 rfl rfl ?_
  refine m_dup hC dX6_stepBack_1 rfl ?_
  refine m_getf hC dX6_stepBack_2 kf_X6_17 hQ.1.1 rfl ?_
  refine m_iconst hC dX6_stepBack_5 ?_
  refine m_isub hC dX6_stepBack_6 ?_
  refine m_gpf hC dX6_stepBack_7 kf_X6_17 kw_8_1 hQ.1.1 (by omega) (Nat.le_of_ble_eq_true rfl) rfl rfl (fun M1 R2 f3 => ?_)
  change M1.2 _ = some (m_ob 8 [_, _]) at R2
  have R4 := (f3.2 _ (by omega)).trans hQ.1.2
  have R5 := hB9.keep (fun q h1 h2 => f3.2 q (by omega))
  have R6 := hR.keep (fun q h1 h2 => f3.2 q (by omega))
  have hQ2 : hiQ x (cn - 1) p9 L M1 := ⟨⟨R2, R4⟩, hQ.2.1, hQ.2.2.1, fun i hi => (hQ.2.2.2 i hi).fr f3 (by omega)⟩
  refine m_aload_n hC 1 dX6_stepBack_10 rfl rfl ?_
  refine m_aload_n hC 0 dX6_stepBack_11 rfl rfl ?_
  refine m_getf hC dX6_stepBack_12 kf_X6_11 R2 rfl ?_
  refine m_aload_n hC 0 dX6_stepBack_15 rfl rfl ?_
  refine m_getf hC dX6_stepBack_16 kf_X6_17 R2 rfl ?_
  refine m_aald hC dX6_stepBack_19 R4 (by decide) rfl (by decide) (by first | omega | (simp [hs_at] <;> omega)) ?_
  refine m_callV hC (t_X7_copyFrom hF hl R6 hb R5 (by omega) h8 h9 h11) dX6_stepBack_20 kc_X7_copyFrom kV_X6_22 R6.ob rfl rfl rfl rfl (Nat.le_of_ble_eq_true rfl) (by decide) (by decide) m_nox (fun v9 M7 h9 => ?_)
  obtain ⟨rfl, R8, f9⟩ := h9
  have R10 := (f9.2 _ (by omega)).trans R4
  have R11 := R5.keep (fun q h1 h2 => f9.2 q (by omega))
  exact m_vret hC dX6_stepBack_23 hr (by decide) (by decide) (⟨rfl, hiP.fr ⟨p9, hQ2⟩ f9 (by omega), R8, ⟨_, f3, f9⟩⟩)

def hi_rot (p : Nat → Nat) : Nat → Nat := fun j => if j < 8 then p (j + 1) else if j = 8 then p 0 else p j
def hi_rof (x : Nat) (p : Nat → Nat) (i : Int) : Nat → Value := fun j => .ref (x + 54 + 17 * (if (j : Int) < i then p (j + 1) else p j))
theorem hi_rof_0 {x : Nat} {p : Nat → Nat} : (fun i => Value.ref (x + 54 + 17 * p i)) = hi_rof x p 0 := by
  funext j
  unfold hi_rof
  rw [if_neg (by omega)]
theorem hi_rof_1 {x : Nat} {p : Nat → Nat} {i : Int} (h : 0 ≤ i) : updV (hi_rof x p i) i.toNat (.ref (x + 54 + 17 * p (i + 1).toNat)) = hi_rof x p (i + 1) := by
  funext j
  unfold updV hi_rof
  by_cases hq : j = i.toNat
  · subst hq
    rw [if_pos rfl, if_pos (by omega), show (i + 1).toNat = i.toNat + 1 by omega]
  · rw [if_neg hq]
    by_cases hz : (j : Int) < i
    · rw [if_pos hz, if_pos (by omega)]
    · rw [if_neg hz, if_neg (by omega)]
theorem hi_rof_8 {x : Nat} {p : Nat → Nat} : updV (hi_rof x p 8) (8 : Int).toNat (.ref (x + 54 + 17 * p 0)) = fun i => Value.ref (x + 54 + 17 * hi_rot p i) := by
  funext j
  unfold updV hi_rof hi_rot
  by_cases hq : j = (8 : Int).toNat
  · subst hq
    rfl
  · rw [if_neg hq]
    have hq : j ≠ 8 := hq
    by_cases hz : (j : Int) < 8
    · rw [if_pos hz, if_pos (by omega)]
    · rw [if_neg hz, if_neg (by omega), if_neg hq]
def hi_L (cn : Int) (L : Nat → h_T) : Nat → h_T := if cn < 8 then L else fun j => if j < 8 then L (j + 1) else L 0
theorem hiQ.rot {x : Nat} {c : Int} {p : Nat → Nat} {L : Nat → h_T} {M M2 : m_M} (h : hiQ x c p L M) (h1 : M2.2 (x + 53) = some (m_va 5 9 (fun i => .ref (x + 54 + 17 * hi_rot p i)))) (hf : m_fr (x + 53) 1 M M2) : hiQ x c (hi_rot p) (fun j => if j < 8 then L (j + 1) else L 0) M2 := by
  have e : ∀ i, i < 9 → hi_rot p i = p (if i < 8 then i + 1 else 0) := by
    intro i hi
    unfold hi_rot
    by_cases hz : i < 8
    · rw [if_pos hz, if_pos hz]
    · rw [if_neg hz, if_neg hz, if_pos (by omega)]
  refine ⟨⟨(hf.2 _ (by omega)).trans h.1.1, h1⟩, fun i hi => ?_, fun i j hi hj hq => ?_, fun i hi => ?_⟩
  · rw [e i hi]
    exact h.2.1 _ (by split <;> omega)
  · rw [e i hi, e j hj] at hq
    have := h.2.2.1 _ _ (by split <;> omega) (by split <;> omega) hq
    split at this <;> split at this <;> omega
  · rw [e i hi]
    have := (h.2.2.2 (if i < 8 then i + 1 else 0) (by split <;> omega)).fr hf (by omega)
    by_cases hz : i < 8
    · simp only [hz, if_true] at this ⊢
      exact this
    · simp only [hz, if_false] at this ⊢
      exact this

set_option maxHeartbeats 4000000 in
set_option maxRecDepth 100000 in
theorem t_X6_keep {D : va_G} {aC : Nat → ClassId} {s0 : State} {l : Launch} (hF : m_F D aC s0) (hl : l.stackTraces = false) {x : Nat} {cn : Int} {L : Nat → h_T} {M : m_M} (hH : hiP x cn L M) (hx : s0.heap.size ≤ x) (hc : 0 ≤ cn ∧ cn ≤ 8) : m_Met D aC s0 l yX6_keep cX6_keep 3 none 0 (0) (0) [.ref (x + 52)] M (fun v M' => v = none ∧ hiP x (min (cn + 1) 8) (hi_L cn L) M' ∧ m_fr (x + 52) 2 M M') m_nx := by
  refine m_entry (lv := [(0, .ref (x + 52))]) (by decide +kernel) (Nat.le_of_ble_eq_true rfl) rfl hF hl ?_
  intro p e s m args below meth c hC hr hno hnm
  change m_C D aC s0 RX6 _ _ _ _ _ _ _ _ _ at hC
  obtain ⟨p9, hQ⟩ := hH
  have hB9 := hQ.2.2.2 0 (by omega)
  have hp9 := hQ.2.1 0 (by omega)
  refine m_aload_n hC 0 dX6_keep_0 rfl rfl ?_
  refine m_getf hC dX6_keep_1 kf_X6_17 hQ.1.1 rfl ?_
  refine m_bipush hC dX6_keep_4 (by decide) ?_
  refine m_icmp_ge (tgt := 20) hC dX6_keep_6 (by decide) (by first | omega | (simp [hs_at] <;> omega)) (fun c1 => ?_) (fun c1 => ?_)
  · refine m_aload_n hC 0 dX6_keep_20 rfl rfl ?_
    refine m_getf hC dX6_keep_21 kf_X6_11 hQ.1.1 rfl ?_
    refine m_iconst hC dX6_keep_24 ?_
    refine m_aald hC dX6_keep_25 hQ.1.2 (by decide) rfl (by decide) (by first | omega | (simp [hs_at] <;> omega)) ?_
    refine m_astore_n hC dX6_keep_26 rfl (by decide) rfl ?_
    refine m_iconst hC dX6_keep_27 ?_
    refine m_istore_n hC dX6_keep_28 rfl (by decide) rfl ?_
    have L9 : ∀ (n : Nat) (i : Int) (M1 : m_M), 8 - i < (n : Int) → 0 ≤ i → i ≤ 8 → M1.2 (x + 52) = some (m_ob 8 [.ref (x + 53), VI cn]) → M1.2 (x + 53) = some (m_va 5 9 (hi_rof x p9 i)) → m_fr (x + 53) 1 M M1 → m_W D aC s0 3 p l e (m_R 0 (0) (0)) s m args below meth c (0) (0) (m_Q D aC s0 below (fun v M' => v = none ∧ hiP x (min (cn + 1) 8) (hi_L cn L) M' ∧ m_fr (x + 52) 2 M M') m_nx args s (0) (0)) 29 [(2, VI i), (1, .ref (x + 54 + 17 * p9 0)), (0, .ref (x + 52))] [] M1 := by
      intro n
      induction n with
      | zero =>
        intro i M1 hn h0 h1 hH1 hV1 hf1
        omega
      | succ n ih =>
        intro i M1 hn h0 h1 hH1 hV1 hf1
        have hO1 := (hB9.fr hf1 (by omega)).ob
        refine m_iload_n hC 0 dX6_keep_29 rfl rfl ?_
        refine m_bipush hC dX6_keep_30 (by decide) ?_
        refine m_icmp_ge (tgt := 55) hC dX6_keep_32 (by decide) (by first | omega | (simp [hs_at] <;> omega)) (fun c2 => ?_) (fun c2 => ?_)
        · refine m_aload_n hC 2 dX6_keep_55 rfl rfl ?_
          refine m_getf hC dX6_keep_56 kf_X6_11 hH1 rfl ?_
          refine m_bipush hC dX6_keep_59 (by decide) ?_
          refine m_aload_n hC 1 dX6_keep_61 rfl rfl ?_
          refine m_gas hC dX6_keep_62 hV1 (by decide) rfl hO1 rfl (by omega) (by decide) (by first | omega | (simp [hs_at] <;> omega)) (fun M3 R4 f5 => ?_)
          have R6 := (f5.2 _ (by omega)).trans hH1
          exact m_vret hC dX6_keep_63 hr (by decide) (by decide) (⟨rfl, ⟨hi_rot p9, by rw [show min (cn + 1) 8 = cn by omega]; unfold hi_L; rw [if_neg (by omega)]; rw [show i = 8 by omega, hi_rof_8] at R4; exact hQ.rot R4 (hf1.tr f5)⟩, (hf1.tr f5).mono (by omega) (by omega)⟩)
        · refine m_aload_n hC 2 dX6_keep_35 rfl rfl ?_
          refine m_getf hC dX6_keep_36 kf_X6_11 hH1 rfl ?_
          refine m_iload_n hC 0 dX6_keep_39 rfl rfl ?_
          refine m_aload_n hC 2 dX6_keep_40 rfl rfl ?_
          refine m_getf hC dX6_keep_41 kf_X6_11 hH1 rfl ?_
          refine m_iload_n hC 0 dX6_keep_44 rfl rfl ?_
          refine m_iconst hC dX6_keep_45 ?_
          refine m_iadd hC dX6_keep_46 ?_
          refine m_aald hC dX6_keep_47 hV1 (by decide) rfl (by decide) (by first | omega | (simp [hs_at] <;> omega)) ?_
          have e9 : hi_rof x p9 i (i + 1).toNat = .ref (x + 54 + 17 * p9 (i + 1).toNat) := by unfold hi_rof; rw [if_neg (by omega)]
          rw [e9]
          have hP1 := ((hQ.2.2.2 (i + 1).toNat (by omega)).fr hf1 (by have := hQ.2.1 (i + 1).toNat (by omega); omega)).ob
          refine m_gas hC dX6_keep_48 hV1 (by decide) rfl hP1 rfl (by omega) (by decide) (by first | omega | (simp [hs_at] <;> omega)) (fun M7 R8 f9 => ?_)
          have R10 := (f9.2 _ (by omega)).trans hH1
          refine m_iinc hC 0 dX6_keep_49 rfl (by decide) rfl ?_
          refine m_goto (tgt := 29) hC dX6_keep_52 (by decide) ?_
          refine m_lvs [0, 1, 2] rfl (ih (i + 1) M7 (by omega) (by omega) (by omega) R10 (by rw [← hi_rof_1 h0]; exact R8) (hf1.tr f9))
    refine m_lvs [0, 1, 2] rfl (L9 9 0 M (by omega) (by omega) (by omega) hQ.1.1 (by rw [← hi_rof_0]; exact hQ.1.2) m_fr.rf)
  · refine m_aload_n hC 0 dX6_keep_9 rfl rfl ?_
    refine m_dup hC dX6_keep_10 rfl ?_
    refine m_getf hC dX6_keep_11 kf_X6_17 hQ.1.1 rfl ?_
    refine m_iconst hC dX6_keep_14 ?_
    refine m_iadd hC dX6_keep_15 ?_
    refine m_gpf hC dX6_keep_16 kf_X6_17 kw_8_1 hQ.1.1 (by omega) (Nat.le_of_ble_eq_true rfl) rfl rfl (fun M11 R12 f13 => ?_)
    change M11.2 _ = some (m_ob 8 [_, _]) at R12
    have R14 := (f13.2 _ (by omega)).trans hQ.1.2
    exact m_vret hC dX6_keep_19 hr (by decide) (by decide) (⟨rfl, ⟨p9, by rw [show min (cn + 1) 8 = cn + 1 by omega]; unfold hi_L; rw [if_pos (by omega)]; exact ⟨⟨R12, R14⟩, hQ.2.1, hQ.2.2.1, fun i hi => (hQ.2.2.2 i hi).fr f13 (by omega)⟩⟩, (f13.mono (by omega) (by omega))⟩)

