/-- a number's decimal digits -/
def S_dig (n : Nat) : List Int := if n < 10 then [48 + (n : Int)] else S_dig (n / 10) ++ [48 + (n : Int) % 10]
termination_by n
decreasing_by omega
theorem S_dig_lo {n : Nat} (h : n < 10) : S_dig n = [48 + (n : Int)] := by
  rw [S_dig, if_pos h]
theorem S_dig_hi {n : Nat} (h : 10 ≤ n) : S_dig n = S_dig (n / 10) ++ [48 + (n : Int) % 10] := by
  rw [S_dig, if_neg (by omega)]
theorem S_dig_hh {n : Nat} (h : 100 ≤ n) : S_dig n = S_dig (n / 100) ++ [48 + (n : Int) % 100 / 10, 48 + (n : Int) % 10] := by
  rw [S_dig_hi (by omega), S_dig_hi (show 10 ≤ n / 10 by omega), show n / 10 / 10 = n / 100 by omega, List.append_assoc]
  congr 1
  show [48 + ((n / 10 : Nat) : Int) % 10, 48 + (n : Int) % 10] = _
  rw [show ((n / 10 : Nat) : Int) % 10 = (n : Int) % 100 / 10 by omega]
theorem S_dig_len : ∀ (k n : Nat), 1 ≤ k → n < 10 ^ k → (k = 1 ∨ 10 ^ (k - 1) ≤ n) → (S_dig n).length = k := by
  intro k
  induction k with
  | zero => intro n h; omega
  | succ k ih =>
    intro n _ h1 h2
    by_cases hk : k = 0
    · subst hk
      rw [S_dig_lo (by simpa using h1)]
      rfl
    · have h3 : 10 ^ k ≤ n := by
        rcases h2 with h2 | h2
        · omega
        · exact h2
      have h4 : 10 ^ (k + 1) = 10 * 10 ^ k := by rw [Nat.pow_succ, Nat.mul_comm]
      have h5 : 10 ^ k = 10 * 10 ^ (k - 1) := by
        have : k = (k - 1) + 1 := by omega
        rw [this, Nat.pow_succ, Nat.mul_comm]
        rfl
      have h6 : 0 < 10 ^ (k - 1) := Nat.pow_pos (by decide)
      rw [S_dig_hi (by omega), List.length_append, ih (n / 10) (by omega) (by omega) (Or.inr (by omega))]
      rfl
theorem S_dig_pos (n : Nat) : 1 ≤ (S_dig n).length := by
  by_cases h : n < 10
  · rw [S_dig_lo h]; exact Nat.le_refl _
  · rw [S_dig_hi (by omega), List.length_append]; exact Nat.le_add_left _ _
theorem S_dig_pos2 {n : Nat} (h : 10 ≤ n) : 2 ≤ (S_dig n).length := by
  have := S_dig_pos (n / 10)
  rw [S_dig_hi h, List.length_append]
  show 2 ≤ _ + 1
  omega
theorem m_divn {y b : Int} (h : 0 ≤ y ∧ y < 2147483648 ∧ 0 < b ∧ b < 2147483648) : Int32.ofInt (-y) / Int32.ofInt b = Int32.ofInt (-(y / b)) := by
  have h1 : 0 ≤ y / b := Int.ediv_nonneg h.1 (by omega)
  have h2 : y / b ≤ y := Int.ediv_le_self _ h.1
  rw [← Int32.toInt_inj, Int32.toInt_div, m_ti (by omega), m_ti (by omega), m_ti (by omega), Int.neg_tdiv, Int.tdiv_eq_ediv_of_nonneg h.1]
  exact Int.bmod_eq_of_le (by omega) (by omega)
section
variable {D : va_G} {aC : Nat → ClassId} {s0 : State} {own : String} {cc : ByteArray} {nL : Nat} {p : Program} {l : Launch} {e : Env} {R : Room} {s : State} {m : MethodId} {args : Array Value} {below : List Frame} {meth : Method} {c : Code} {cells slots : Nat} {Q : State → Prop} {pc : Nat} {lv : List (Nat × Value)} {st : List Value} {M : m_M}
theorem m_idivn (C : m_C D aC s0 own cc nL l p s m args meth c) {x y b : Int} (hd : decode cc pc = .ok (.idiv, 1)) (hx : x = -y) (hr : 0 ≤ y ∧ y < 2147483648 ∧ 0 < b ∧ b < 2147483648) (k : m_W D aC s0 nL p l e R s m args below meth c cells slots Q (pc + 1) lv (VI (-(y / b)) :: st) M) : m_W D aC s0 nL p l e R s m args below meth c cells slots Q pc lv (VI b :: VI x :: st) M := by
  subst hx
  intro H locs ls h1 h2 h3
  exact lv_idiv C.1 C.2.1 hd (m_nz (by omega)) (by rw [m_divn hr]; exact k H locs ls h1 h2 h3)
end
def gcI (f f1 : Int → Int) (e q : Int) (T : List Int) : Prop := (T.length : Int) = e - q ∧ (∀ j : Nat, j < T.length → f1 (q + (j : Int)) = T.getD j 0) ∧ (∀ i : Int, i < q → f1 i = f i) ∧ hby f1
theorem gcI.cons {f f1 : Int → Int} {e q : Int} {T : List Int} (h : gcI f f1 e q T) {x : Int} (hx : 0 ≤ x ∧ x < 128) : gcI f (m_ug f1 (q + -1) x) e (q + -1) (x :: T) := by
  obtain ⟨h1, h2, h3, h4⟩ := h
  refine ⟨by rw [List.length_cons]; omega, fun j hj => ?_, fun i hi => ?_, h4.ug hx⟩
  · unfold m_ug
    cases j with
    | zero => rw [if_pos (by omega)]; rfl
    | succ j =>
      rw [if_neg (by omega), show q + -1 + ((j + 1 : Nat) : Int) = q + (j : Int) by omega, h2 j (by simpa using hj)]
      rfl
  · unfold m_ug
    rw [if_neg (by omega)]
    exact h3 i (by omega)

set_option maxHeartbeats 4000000 in
set_option maxRecDepth 100000 in
theorem t_J6_stringSize_0f7a4 {D : va_G} {aC : Nat → ClassId} {s0 : State} {l : Launch} (hF : m_F D aC s0) (hl : l.stackTraces = false) {z : Nat} {M : m_M} (hz : z < 1000000000) : m_Met D aC s0 l yJ6_stringSize_0f7a4 cJ6_stringSize_0f7a4 4 (some .int) 0 (0) (0) [VI (z : Int)] M (fun r M' => r = some (VI ((S_dig z).length : Int)) ∧ M' = M) m_nx := by
  refine m_entry (lv := [(0, VI (z : Int))]) (by decide +kernel) (Nat.le_of_ble_eq_true rfl) rfl hF hl ?_
  intro p e s m args below meth c hC hr hno hnm
  change m_C D aC s0 RJ6 _ _ _ _ _ _ _ _ _ at hC
  refine m_iconst hC dJ6_stringSize_0f7a4_0 ?_
  refine m_istore_n hC dJ6_stringSize_0f7a4_1 rfl (by decide) rfl ?_
  refine m_iload_n hC 1 dJ6_stringSize_0f7a4_2 rfl rfl ?_
  refine m_if_lt (tgt := 11) hC dJ6_stringSize_0f7a4_3 (by decide) (by first | omega | (simp [hs_at] <;> omega)) (fun c1 => by omega) (fun c1 => ?_)
  refine m_iconst hC dJ6_stringSize_0f7a4_6 ?_
  refine m_istore_n hC dJ6_stringSize_0f7a4_7 rfl (by decide) rfl ?_
  refine m_iload_n hC 1 dJ6_stringSize_0f7a4_8 rfl rfl ?_
  refine m_ineg hC dJ6_stringSize_0f7a4_9 ?_
  refine m_istore_n hC dJ6_stringSize_0f7a4_10 rfl (by decide) rfl ?_
  refine m_bipush hC dJ6_stringSize_0f7a4_11 (by decide) ?_
  refine m_istore_n hC dJ6_stringSize_0f7a4_13 rfl (by decide) rfl ?_
  refine m_iconst hC dJ6_stringSize_0f7a4_14 ?_
  refine m_istore_n hC dJ6_stringSize_0f7a4_15 rfl (by decide) rfl ?_
  have L : ∀ (n : Nat) (k P : Nat) (pp x : Int), 10 - k < n → 1 ≤ k → k ≤ 9 → P = 10 ^ k → pp = -(P : Int) → x = -(z : Int) → k = 1 ∨ 10 ^ (k - 1) ≤ z → m_W D aC s0 4 p l e (m_R 0 (0) (0)) s m args below meth c (0) (0) (m_Q D aC s0 below (fun r M' => r = some (VI ((S_dig z).length : Int)) ∧ M' = M) m_nx args s (0) (0)) 16 [(3, VI (k : Int)), (2, VI pp), (1, VI 0), (0, VI x)] [] M := by
    intro n
    induction n with
    | zero =>
      intro k P pp x hn h1 h9 hP hpp hx hlo
      omega
    | succ n ih =>
      intro k P pp x hn h1 h9 hP hpp hx hlo
      have hP1 : 10 * P = 10 ^ (k + 1) := by rw [Nat.pow_succ, Nat.mul_comm, hP]
      have hP9 : P ≤ 1000000000 := by
        rw [hP]
        exact Nat.pow_le_pow_right (n := 10) (by decide) h9
      have hk9 : k ≤ 8 ∨ P = 1000000000 := by
        rcases Nat.lt_or_ge k 9 with h | h
        · exact Or.inl (by omega)
        · exact Or.inr (by rw [hP, show k = 9 by omega])
      refine m_iload_n hC 0 dJ6_stringSize_0f7a4_16 rfl rfl ?_
      refine m_bipush hC dJ6_stringSize_0f7a4_17 (by decide) ?_
      refine m_icmp_ge (tgt := 42) hC dJ6_stringSize_0f7a4_19 (by decide) (by first | omega | (simp [hs_at] <;> omega)) (fun c2 => ?_) (fun c2 => ?_)
      · omega
      · refine m_iload_n hC 3 dJ6_stringSize_0f7a4_22 rfl rfl ?_
        refine m_iload_n hC 1 dJ6_stringSize_0f7a4_23 rfl rfl ?_
        refine m_icmp_le (tgt := 31) hC dJ6_stringSize_0f7a4_24 (by decide) (by first | omega | (simp [hs_at] <;> omega)) (fun c3 => ?_) (fun c3 => ?_)
        · refine m_bipush hC dJ6_stringSize_0f7a4_31 (by decide) ?_
          refine m_iload_n hC 1 dJ6_stringSize_0f7a4_33 rfl rfl ?_
          refine m_imul hC dJ6_stringSize_0f7a4_34 ?_
          refine m_istore_n hC dJ6_stringSize_0f7a4_35 rfl (by decide) rfl ?_
          refine m_iinc hC 1 dJ6_stringSize_0f7a4_36 rfl (by decide) rfl ?_
          refine m_goto (tgt := 16) hC dJ6_stringSize_0f7a4_39 (by decide) ?_
          refine m_lvs [0, 1, 2, 3] rfl (ih (k + 1) (10 * P) (10 * pp) x (by omega) (by omega) (by omega) hP1 (by omega) hx (Or.inr (by show 10 ^ k ≤ z; omega)))
        · refine m_iload_n hC 0 dJ6_stringSize_0f7a4_27 rfl rfl ?_
          refine m_iload_n hC 2 dJ6_stringSize_0f7a4_28 rfl rfl ?_
          refine m_iadd hC dJ6_stringSize_0f7a4_29 ?_
          exact m_iret hC dJ6_stringSize_0f7a4_30 hr (by decide) (by decide) (⟨by rw [S_dig_len k z h1 (by omega) hlo]; congr 2 <;> omega, rfl⟩)
  refine m_lvs [0, 1, 3, 2] rfl (L 10 1 10 _ _ (by omega) (by omega) (by omega) (by decide) rfl rfl (Or.inl rfl))

set_option maxHeartbeats 4000000 in
set_option maxRecDepth 100000 in
theorem t_J6_getChars_ba4f3 {D : va_G} {aC : Nat → ClassId} {s0 : State} {l : Launch} (hF : m_F D aC s0) (hl : l.stackTraces = false) {fo ks vs : Nat → Nat} {fA sA dO dT : Nat} (hJ : m_J s0 fo ks vs fA sA dO dT) {z v n : Nat} {e9 : Int} {f : Int → Int} {M : m_M} (hz : z < 1000000000) (hV : M.2 v = some (m_ia 2 n f)) (hv0 : s0.heap.size ≤ v) (hf : hby f) (hn : n ≤ 10000) (he : ((S_dig z).length : Int) ≤ e9 ∧ e9 ≤ (n : Int)) : m_Met D aC s0 l yJ6_getChars_ba4f3 cJ6_getChars_ba4f3 7 (some .int) 0 (0) (0) [VI (z : Int), VI e9, .ref v] M (fun r M' => r = some (VI (e9 - ((S_dig z).length : Int))) ∧ ∃ f2 : Int → Int, M'.2 v = some (m_ia 2 n f2) ∧ m_fr v 1 M M' ∧ gcI f f2 e9 (e9 - ((S_dig z).length : Int)) (S_dig z)) m_nx := by
  refine m_entry (lv := [(0, VI (z : Int)), (1, VI e9), (2, .ref v)]) (by decide +kernel) (Nat.le_of_ble_eq_true rfl) rfl hF hl ?_
  intro p e s m args below meth c hC hr hno hnm
  change m_C D aC s0 RJ6 _ _ _ _ _ _ _ _ _ at hC
  refine m_iload_n hC 1 dJ6_getChars_ba4f3_0 rfl rfl ?_
  refine m_istore hC dJ6_getChars_ba4f3_1 (by decide) rfl ?_
  refine m_iload_n hC 1 dJ6_getChars_ba4f3_3 rfl rfl ?_
  refine m_if_ge (tgt := 11) hC dJ6_getChars_ba4f3_4 (by decide) (by first | omega | (simp [hs_at] <;> omega)) (fun c1 => ?_) (fun c1 => by omega)
  refine m_iconst hC dJ6_getChars_ba4f3_11 ?_
  refine m_istore hC dJ6_getChars_ba4f3_12 (by decide) rfl ?_
  refine m_iload hC 0 dJ6_getChars_ba4f3_14 rfl ?_
  refine m_if_ne (tgt := 22) hC dJ6_getChars_ba4f3_16 (by decide) (by first | omega | (simp [hs_at] <;> omega)) (fun c2 => by omega) (fun c2 => ?_)
  refine m_iload_n hC 2 dJ6_getChars_ba4f3_19 rfl rfl ?_
  refine m_ineg hC dJ6_getChars_ba4f3_20 ?_
  refine m_istore_n hC dJ6_getChars_ba4f3_21 rfl (by decide) rfl ?_
  have L : ∀ (n9 : Nat) (y : Nat) (x q : Int) (f1 : Int → Int) (M1 : m_M) (T : List Int), y < n9 → y < 1000000000 → x = -(y : Int) → S_dig z = S_dig y ++ T → gcI f f1 e9 q T → M1.2 v = some (m_ia 2 n f1) → m_fr v 1 M M1 → m_W D aC s0 7 p l e (m_R 0 (0) (0)) s m args below meth c (0) (0) (m_Q D aC s0 below (fun r M' => r = some (VI (e9 - ((S_dig z).length : Int))) ∧ ∃ f2 : Int → Int, M'.2 v = some (m_ia 2 n f2) ∧ m_fr v 1 M M' ∧ gcI f f2 e9 (e9 - ((S_dig z).length : Int)) (S_dig z)) m_nx args s (0) (0)) 22 [(0, VI x), (5, VI q), (2, .ref v), (6, VI 0)] [] M1 := by
    intro n9
    induction n9 with
    | zero =>
      intro y x q f1 M1 T hn2 hy9 hx hS hG hV1 hf1
      omega
    | succ n9 ih =>
      intro y x q f1 M1 T hn2 hy9 hx hS hG hV1 hf1
      have hlen : ((S_dig z).length : Int) = ((S_dig y).length : Int) + (T.length : Int) := by rw [hS, List.length_append]; rfl
      have hG1 := hG.1
      have hpos := S_dig_pos y
      have hpos2 : 10 ≤ y → 2 ≤ (S_dig y).length := S_dig_pos2
      refine m_iload_n hC 0 dJ6_getChars_ba4f3_22 rfl rfl ?_
      refine m_bipush hC dJ6_getChars_ba4f3_23 (by decide) ?_
      refine m_icmp_gt (tgt := 72) hC dJ6_getChars_ba4f3_25 (by decide) (by first | omega | (simp [hs_at] <;> omega)) (fun c3 => ?_) (fun c3 => ?_)
      · refine m_aload_n hC 2 dJ6_getChars_ba4f3_72 rfl rfl ?_
        refine m_iinc hC 1 dJ6_getChars_ba4f3_73 rfl (by decide) rfl ?_
        refine m_iload hC 0 dJ6_getChars_ba4f3_76 rfl ?_
        refine m_gets hC hJ.oZ kg_J6_83 dJ6_getChars_ba4f3_78 ?_
        refine m_iload_n hC 1 dJ6_getChars_ba4f3_81 rfl rfl ?_
        refine m_ineg hC dJ6_getChars_ba4f3_82 ?_
        refine m_ctb hC hJ.oT dJ6_getChars_ba4f3_83 (by decide) (by omega) rfl ?_
        refine m_gbs hC dJ6_getChars_ba4f3_84 hV1 hv0 (by omega) (by first | omega | (simp [hs_at] <;> omega)) (by first | omega | (simp [hs_at] <;> omega)) (fun M4 R5 f6 => ?_)
        refine m_iload_n hC 1 dJ6_getChars_ba4f3_85 rfl rfl ?_
        refine m_bipush hC dJ6_getChars_ba4f3_86 (by decide) ?_
        refine m_icmp_ge (tgt := 104) hC dJ6_getChars_ba4f3_88 (by decide) (by first | omega | (simp [hs_at] <;> omega)) (fun c7 => ?_) (fun c7 => ?_)
        · refine m_iload hC 3 dJ6_getChars_ba4f3_104 rfl ?_
          refine m_if_eq (tgt := 118) hC dJ6_getChars_ba4f3_106 (by decide) (by first | omega | (simp [hs_at] <;> omega)) (fun c8 => ?_) (fun c8 => by omega)
          refine m_iload hC 0 dJ6_getChars_ba4f3_118 rfl ?_
          exact m_iret hC dJ6_getChars_ba4f3_120 hr (by decide) (by decide) ((by have hE : S_dig z = ((48 + ((-x).toNat : Int) % 10) :: T) := (by rw [hS, S_dig_lo (by omega), show (48 + ((-x).toNat : Int) % 10) = 48 + (y : Int) by omega] <;> rfl); have hG9 := (hG.cons (x := (48 + ((-x).toNat : Int) % 10)) (by omega)); have hq9 := hG9.1; rw [← hE] at hG9 hq9; have hq8 : (q + -1) = e9 - ((S_dig z).length : Int) := (by omega); exact ⟨by rw [hq8], _, R5, (hf1.tr f6), by rw [← hq8]; exact hG9⟩))
        · refine m_aload_n hC 2 dJ6_getChars_ba4f3_91 rfl rfl ?_
          refine m_iinc hC 0 dJ6_getChars_ba4f3_92 rfl (by decide) rfl ?_
          refine m_iload hC 0 dJ6_getChars_ba4f3_95 rfl ?_
          refine m_gets hC hJ.tZ kg_J6_87 dJ6_getChars_ba4f3_97 ?_
          refine m_iload_n hC 1 dJ6_getChars_ba4f3_100 rfl rfl ?_
          refine m_ineg hC dJ6_getChars_ba4f3_101 ?_
          refine m_ctb hC hJ.tT dJ6_getChars_ba4f3_102 (by decide) (by omega) rfl ?_
          refine m_gbs hC dJ6_getChars_ba4f3_103 R5 hv0 (by omega) (by first | omega | (simp [hs_at] <;> omega)) (by first | omega | (simp [hs_at] <;> omega)) (fun M9 R10 f11 => ?_)
          refine m_iload hC 3 dJ6_getChars_ba4f3_104 rfl ?_
          refine m_if_eq (tgt := 118) hC dJ6_getChars_ba4f3_106 (by decide) (by first | omega | (simp [hs_at] <;> omega)) (fun c12 => ?_) (fun c12 => by omega)
          refine m_iload hC 0 dJ6_getChars_ba4f3_118 rfl ?_
          exact m_iret hC dJ6_getChars_ba4f3_120 hr (by decide) (by decide) ((by have hE : S_dig z = ((48 + ((-x).toNat : Int) / 10) :: (48 + ((-x).toNat : Int) % 10) :: T) := (by rw [hS, S_dig_hi (by omega), S_dig_lo (by omega), show (48 + ((-x).toNat : Int) / 10) = 48 + ((y / 10 : Nat) : Int) by omega, show (48 + ((-x).toNat : Int) % 10) = 48 + (y : Int) % 10 by omega] <;> rfl); have hG9 := ((hG.cons (x := (48 + ((-x).toNat : Int) % 10)) (by omega)).cons (x := (48 + ((-x).toNat : Int) / 10)) (by omega)); have hq9 := hG9.1; rw [← hE] at hG9 hq9; have hq8 : (q + -1 + -1) = e9 - ((S_dig z).length : Int) := (by omega); exact ⟨by rw [hq8], _, R10, ((hf1.tr f6).tr f11), by rw [← hq8]; exact hG9⟩))
      · refine m_iload_n hC 0 dJ6_getChars_ba4f3_28 rfl rfl ?_
        refine m_bipush hC dJ6_getChars_ba4f3_29 (by decide) ?_
        refine m_idivn hC dJ6_getChars_ba4f3_31 hx (by omega) ?_
        refine m_istore_n hC dJ6_getChars_ba4f3_32 rfl (by decide) rfl ?_
        refine m_iload_n hC 0 dJ6_getChars_ba4f3_33 rfl rfl ?_
        refine m_bipush hC dJ6_getChars_ba4f3_34 (by decide) ?_
        refine m_imul hC dJ6_getChars_ba4f3_36 ?_
        refine m_iload_n hC 1 dJ6_getChars_ba4f3_37 rfl rfl ?_
        refine m_isub hC dJ6_getChars_ba4f3_38 ?_
        refine m_istore hC dJ6_getChars_ba4f3_39 (by decide) rfl ?_
        refine m_iload_n hC 1 dJ6_getChars_ba4f3_41 rfl rfl ?_
        refine m_istore_n hC dJ6_getChars_ba4f3_42 rfl (by decide) rfl ?_
        refine m_aload_n hC 4 dJ6_getChars_ba4f3_43 rfl rfl ?_
        refine m_iinc hC 3 dJ6_getChars_ba4f3_44 rfl (by decide) rfl ?_
        refine m_iload hC 0 dJ6_getChars_ba4f3_47 rfl ?_
        refine m_gets hC hJ.oZ kg_J6_83 dJ6_getChars_ba4f3_49 ?_
        refine m_iload hC 2 dJ6_getChars_ba4f3_52 rfl ?_
        refine m_ctb hC hJ.oT dJ6_getChars_ba4f3_54 (by decide) (by omega) rfl ?_
        refine m_gbs hC dJ6_getChars_ba4f3_55 hV1 hv0 (by omega) (by first | omega | (simp [hs_at] <;> omega)) (by first | omega | (simp [hs_at] <;> omega)) (fun M13 R14 f15 => ?_)
        refine m_aload_n hC 4 dJ6_getChars_ba4f3_56 rfl rfl ?_
        refine m_iinc hC 0 dJ6_getChars_ba4f3_57 rfl (by decide) rfl ?_
        refine m_iload hC 0 dJ6_getChars_ba4f3_60 rfl ?_
        refine m_gets hC hJ.tZ kg_J6_87 dJ6_getChars_ba4f3_62 ?_
        refine m_iload hC 2 dJ6_getChars_ba4f3_65 rfl ?_
        refine m_ctb hC hJ.tT dJ6_getChars_ba4f3_67 (by decide) (by omega) rfl ?_
        refine m_gbs hC dJ6_getChars_ba4f3_68 R14 hv0 (by omega) (by first | omega | (simp [hs_at] <;> omega)) (by first | omega | (simp [hs_at] <;> omega)) (fun M16 R17 f18 => ?_)
        refine m_goto (tgt := 22) hC dJ6_getChars_ba4f3_69 (by decide) ?_
        refine m_lvs [1, 0, 4, 5] rfl (ih (y / 100) (-((y : Int) / 100)) _ _ M16 ((48 + (((-((y : Int) / 100) * 100 - x)).toNat : Int) / 10) :: (48 + (((-((y : Int) / 100) * 100 - x)).toNat : Int) % 10) :: T) (by omega) (by omega) (by omega) (by rw [hS, S_dig_hh (by omega), List.append_assoc, show (48 + (((-((y : Int) / 100) * 100 - x)).toNat : Int) / 10) = 48 + (y : Int) % 100 / 10 by omega, show (48 + (((-((y : Int) / 100) * 100 - x)).toNat : Int) % 10) = 48 + (y : Int) % 10 by omega] <;> rfl) ((hG.cons (by omega)).cons (by omega)) R17 ((hf1.tr f15).tr f18))
  refine m_lvs [0, 2, 4, 1] rfl (L (z + 1) z _ e9 f M [] (by omega) hz rfl (by rw [List.append_nil]) ⟨by show (0 : Int) = e9 - e9; omega, fun j hj => absurd hj (Nat.not_lt_zero _), fun _ _ => rfl, hf⟩ hV m_fr.rf)

