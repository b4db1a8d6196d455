/-- the reference reads: place q, error wr (-1: none), over a base w that holds the text -/
def rW (w : h_T) (q wr : Int) : h_T := hs (hs w 0 16 q) 0 17 wr
def rX (w : h_T) (tx : List Int) : Prop := w 0 15 = (tx.length : Int) ∧ tx.length ≤ 60 ∧ (∀ i : Nat, i < tx.length → w 7 (i : Int) = tx.getD i 0) ∧ ∀ i : Nat, 0 ≤ tx.getD i 0 ∧ tx.getD i 0 < 128
def ltr (tx : List Int) (q : Int) : Int := if q < (tx.length : Int) then tx.getD q.toNat 0 else -1
theorem ltr_rg {w : h_T} {tx : List Int} (h : rX w tx) (q : Int) : -1 ≤ ltr tx q ∧ ltr tx q < 128 := by
  unfold ltr
  have := h.2.2.2 q.toNat
  split <;> omega
abbrev r_ok (tx : List Int) (q wr lo hi : Int) : Prop := wr = -1 ∧ lo ≤ ltr tx q ∧ ltr tx q ≤ hi
def r_q (tx : List Int) (q wr lo hi : Int) : Int := if r_ok tx q wr lo hi then q + 1 else q
def r_w (tx : List Int) (q wr lo hi : Int) : Int := if r_ok tx q wr lo hi then wr else if wr = -1 then q else wr
def r_v (tx : List Int) (q wr lo hi : Int) : Int := if r_ok tx q wr lo hi then ltr tx q - lo else 0
theorem rW_16 {w : h_T} {q wr q2 : Int} : hs (rW w q wr) 0 16 q2 = rW w q2 wr := by
  unfold rW
  rw [hs_cm (c := 0) (i := 17) (c' := 0) (i' := 16) (Or.inr (by decide)), hs_ss]
theorem rW_17 {w : h_T} {q wr wr2 : Int} : hs (rW w q wr) 0 17 wr2 = rW w q wr2 := by
  unfold rW
  rw [hs_ss]
def nu (tx : List Int) : Nat → Int → Int → Int → Int × Int × Int
  | 0, q, wr, n => (n, q, wr)
  | k + 1, q, wr, n => if r_ok tx q wr 48 57 then nu tx k (q + 1) wr (10 * n + (ltr tx q - 48)) else (n, q, wr)
def r_n (tx : List Int) (q wr : Int) : Int × Int × Int := nu tx 2 (r_q tx q wr 48 57) (r_w tx q wr 48 57) (r_v tx q wr 48 57)
theorem r_q_rg {tx : List Int} {q wr lo hi : Int} (h : 0 ≤ q ∧ q ≤ (tx.length : Int)) (hlo : 0 ≤ lo) : 0 ≤ r_q tx q wr lo hi ∧ r_q tx q wr lo hi ≤ (tx.length : Int) := by
  unfold r_q
  split
  · rename_i z
    unfold r_ok ltr at z
    split at z <;> omega
  · exact h
theorem r_w_rg {tx : List Int} {q wr lo hi : Int} (h : 0 ≤ q ∧ q ≤ (tx.length : Int)) (hw : -1 ≤ wr ∧ wr ≤ (tx.length : Int)) : -1 ≤ r_w tx q wr lo hi ∧ r_w tx q wr lo hi ≤ (tx.length : Int) := by
  unfold r_w
  split
  · exact hw
  · split <;> omega
theorem r_v_rg {w : h_T} {tx : List Int} (hX : rX w tx) {q wr lo hi : Int} (h : 0 ≤ hi - lo) : 0 ≤ r_v tx q wr lo hi ∧ r_v tx q wr lo hi ≤ hi - lo := by
  unfold r_v
  split
  · rename_i z
    unfold r_ok at z
    omega
  · omega
theorem X_lt1 {w : h_T} {tx : List Int} {q wr : Int} (hX : rX w tx) (hq : 0 ≤ q ∧ q ≤ (tx.length : Int)) (h : q < (tx.length : Int)) : some (VI (rW w q wr 7 (rW w q wr 0 16))) = some (VI (ltr tx q)) := by
  have e : rW w q wr 7 (rW w q wr 0 16) = w 7 q := rfl
  have := hX.2.2.1 q.toNat (by omega)
  rw [show ((q.toNat : Nat) : Int) = q by omega] at this
  rw [e, this]
  unfold ltr
  rw [if_pos h]
theorem X_lt0 {tx : List Int} {q : Int} (h : ¬ q < (tx.length : Int)) : some (VI (-1)) = some (VI (ltr tx q)) := by
  unfold ltr
  rw [if_neg h]
set_option maxHeartbeats 4000000 in
set_option maxRecDepth 100000 in
theorem t_X10_letterHere {D : va_G} {aC : Nat → ClassId} {s0 : State} {l : Launch} (hF : m_F D aC s0) (hl : l.stackTraces = false) {a : Nat} {w g : h_T} {tx : List Int} {q wr : Int} {M : m_M} (hV : mmV a (rW w q wr) g M) (ha : s0.heap.size ≤ a) (hX : rX w tx) (hq : 0 ≤ q ∧ q ≤ (tx.length : Int)) (hwr : -1 ≤ wr ∧ wr ≤ (tx.length : Int))   : m_Met D aC s0 l yX10_letterHere cX10_letterHere 1 (some .int) 0 (0) (0) [.ref a] M (fun v M' => v = some (VI (ltr tx q)) ∧ M' = M) m_nx := by
  refine m_entry (lv := [(0, .ref a)]) (by decide +kernel) (Nat.le_of_ble_eq_true rfl) rfl hF hl ?_
  intro p e s m args below meth c hC hr hno hnm
  change m_C D aC s0 RX10 _ _ _ _ _ _ _ _ _ at hC
  have hl6 := hX.2.1
  have e16 : rW w q wr 0 16 = q := rfl
  have e17 : rW w q wr 0 17 = wr := rfl
  have e15 : rW w q wr 0 15 = (tx.length : Int) := hX.1
  refine m_aload_n hC 0 dX10_letterHere_0 rfl rfl ?_
  refine m_getf hC dX10_letterHere_1 kf_X10_210 hV.ob rfl ?_
  refine m_aload_n hC 0 dX10_letterHere_4 rfl rfl ?_
  refine m_getf hC dX10_letterHere_5 kf_X10_213 hV.ob rfl ?_
  refine m_icmp_ge (tgt := 23) hC dX10_letterHere_8 (by decide) (by first | omega | (simp [hs_at] <;> omega)) (fun c8 => ?_) (fun c8 => ?_)
  · refine m_iconst hC dX10_letterHere_23 ?_
    exact m_iret hC dX10_letterHere_24 hr (by decide) (by decide) (⟨X_lt0 (by omega), rfl⟩)
  · refine m_aload_n hC 0 dX10_letterHere_11 rfl rfl ?_
    refine m_getf hC dX10_letterHere_12 kf_X10_35 hV.ob rfl ?_
    refine m_aload_n hC 0 dX10_letterHere_15 rfl rfl ?_
    refine m_getf hC dX10_letterHere_16 kf_X10_210 hV.ob rfl ?_
    refine m_iald hC dX10_letterHere_19 hV.c7 (by decide) (by omega) ?_
    refine m_goto (tgt := 24) hC dX10_letterHere_20 (by decide) ?_
    exact m_iret hC dX10_letterHere_24 hr (by decide) (by decide) (⟨X_lt1 hX hq (by omega), rfl⟩)

theorem ltr_in {tx : List Int} {q x : Int} (h : x ≤ ltr tx q) (h0 : 0 ≤ x) : q < (tx.length : Int) := by
  unfold ltr at h
  split at h <;> omega
theorem X_rd1 {w : h_T} {tx : List Int} {q wr x y : Int} (hX : rX w tx) (hq : 0 ≤ q ∧ q ≤ (tx.length : Int)) (hok : r_ok tx q wr x y) (h0 : 0 ≤ x) : some (VI (hs (rW w q wr) 0 16 (rW w q wr 0 16 + 1) 7 (hs (rW w q wr) 0 16 (rW w q wr 0 16 + 1) 0 16 - 1) - x)) = some (VI (r_v tx q wr x y)) := by
  have hlt := ltr_in hok.2.1 h0
  rw [show r_v tx q wr x y = ltr tx q - x from if_pos hok]
  have e : hs (rW w q wr) 0 16 (rW w q wr 0 16 + 1) 7 (hs (rW w q wr) 0 16 (rW w q wr 0 16 + 1) 0 16 - 1) = w 7 (q + 1 - 1) := rfl
  have := hX.2.2.1 q.toNat (by omega)
  rw [show ((q.toNat : Nat) : Int) = q by omega] at this
  rw [e, show q + 1 - 1 = q by omega, this]
  unfold ltr
  rw [if_pos hlt]
set_option maxHeartbeats 4000000 in
set_option maxRecDepth 100000 in
theorem t_X10_reads {D : va_G} {aC : Nat → ClassId} {s0 : State} {l : Launch} (hF : m_F D aC s0) (hl : l.stackTraces = false) {a : Nat} {w g : h_T} {tx : List Int} {q wr : Int} {M : m_M} (hV : mmV a (rW w q wr) g M) (ha : s0.heap.size ≤ a) (hX : rX w tx) (hq : 0 ≤ q ∧ q ≤ (tx.length : Int)) (hwr : -1 ≤ wr ∧ wr ≤ (tx.length : Int)) {x : Int} {y : Int} (hx : 0 ≤ x ∧ x < 128) (hy : 0 ≤ y ∧ y < 128) : m_Met D aC s0 l yX10_reads cX10_reads 3 (some .int) 1 (0) (0) [.ref a, VI x, VI y] M (fun v M' => v = some (VI (r_v tx q wr x y)) ∧ mmV a (rW w (r_q tx q wr x y) (r_w tx q wr x y)) g M' ∧ m_fr a 10 M M') m_nx := by
  refine m_entry (lv := [(0, .ref a), (1, VI x), (2, VI y)]) (by decide +kernel) (Nat.le_of_ble_eq_true rfl) rfl hF hl ?_
  intro p e s m args below meth c hC hr hno hnm
  change m_C D aC s0 RX10 _ _ _ _ _ _ _ _ _ at hC
  have hl6 := hX.2.1
  have e16 : rW w q wr 0 16 = q := rfl
  have e17 : rW w q wr 0 17 = wr := rfl
  have e15 : rW w q wr 0 15 = (tx.length : Int) := hX.1
  have hlr := ltr_rg hX q
  refine m_aload_n hC 0 dX10_reads_0 rfl rfl ?_
  refine m_getf hC dX10_reads_1 kf_X10_216 hV.ob rfl ?_
  refine m_iconst hC dX10_reads_4 ?_
  refine m_icmp_ne (tgt := 44) hC dX10_reads_5 (by decide) (by first | omega | (simp [hs_at] <;> omega)) (fun c5 => ?_) (fun c5 => ?_)
  · have hok : ¬ r_ok tx q wr x y := fun z => by obtain ⟨z1, z2, z3⟩ := z; first | omega | exact absurd ⟨z2, z3⟩ (b01_eq.mp c17)
    refine m_aload_n hC 0 dX10_reads_44 rfl rfl ?_
    refine m_aload_n hC 0 dX10_reads_45 rfl rfl ?_
    refine m_getf hC dX10_reads_46 kf_X10_216 hV.ob rfl ?_
    refine m_iconst hC dX10_reads_49 ?_
    refine m_icmp_ne (tgt := 60) hC dX10_reads_50 (by decide) (by first | omega | (simp [hs_at] <;> omega)) (fun c50 => ?_) (fun c50 => ?_)
    · refine m_aload_n hC 0 dX10_reads_60 rfl rfl ?_
      refine m_getf hC dX10_reads_61 kf_X10_216 hV.ob rfl ?_
      refine m_ws17 hC hV ha dX10_reads_64 kf_X10_216 (fun M1 R2 f3 => ?_)
      refine m_iconst hC dX10_reads_67 ?_
      exact m_iret hC dX10_reads_68 hr (by decide) (by decide) (⟨congrArg (fun z => some (VI z)) (if_neg hok).symm, by rw [show r_q tx q wr x y = q from if_neg hok, show r_w tx q wr x y = (if wr = -1 then q else wr) from if_neg hok]; first | (rw [if_pos (by omega), ← rW_17 (wr := wr)]; exact R2) | (rw [if_neg (by omega), ← rW_17 (wr := wr)]; exact R2), f3⟩)
    · refine m_aload_n hC 0 dX10_reads_53 rfl rfl ?_
      refine m_getf hC dX10_reads_54 kf_X10_210 hV.ob rfl ?_
      refine m_goto (tgt := 64) hC dX10_reads_57 (by decide) ?_
      refine m_ws17 hC hV ha dX10_reads_64 kf_X10_216 (fun M4 R5 f6 => ?_)
      refine m_iconst hC dX10_reads_67 ?_
      exact m_iret hC dX10_reads_68 hr (by decide) (by decide) (⟨congrArg (fun z => some (VI z)) (if_neg hok).symm, by rw [show r_q tx q wr x y = q from if_neg hok, show r_w tx q wr x y = (if wr = -1 then q else wr) from if_neg hok]; first | (rw [if_pos (by omega), ← rW_17 (wr := wr)]; exact R5) | (rw [if_neg (by omega), ← rW_17 (wr := wr)]; exact R5), f6⟩)
  · refine m_aload_n hC 0 dX10_reads_8 rfl rfl ?_
    refine m_callV hC (t_X10_letterHere hF hl hV ha hX hq hwr) dX10_reads_9 kc_X10_letterHere kV_X10_219 hV.ob rfl rfl rfl rfl (Nat.le_of_ble_eq_true rfl) (by decide) (by decide) m_nox (fun v9 M7 h9 => ?_)
    obtain ⟨rfl, h9⟩ := h9
    replace h9 := h9.symm
    subst h9
    refine m_iload_n hC 1 dX10_reads_12 rfl rfl ?_
    refine m_iload_n hC 2 dX10_reads_13 rfl rfl ?_
    refine m_callS hC (t_X10_isIn hF hl (z := ltr tx q) (lo := x) (hi := y) (by omega)) dX10_reads_14 kc_X10_isIn kS_X10_69 rfl rfl (Nat.le_of_ble_eq_true rfl) (by decide) (by decide) m_nox (fun v9 M8 h9 => ?_)
    obtain ⟨rfl, h9⟩ := h9
    replace h9 := h9.symm
    subst h9
    refine m_if_eq (tgt := 44) hC dX10_reads_17 (by decide) b01_r (fun c17 => ?_) (fun c17 => ?_)
    · have hok : ¬ r_ok tx q wr x y := fun z => by obtain ⟨z1, z2, z3⟩ := z; first | omega | exact absurd ⟨z2, z3⟩ (b01_eq.mp c17)
      refine m_aload_n hC 0 dX10_reads_44 rfl rfl ?_
      refine m_aload_n hC 0 dX10_reads_45 rfl rfl ?_
      refine m_getf hC dX10_reads_46 kf_X10_216 hV.ob rfl ?_
      refine m_iconst hC dX10_reads_49 ?_
      refine m_icmp_ne (tgt := 60) hC dX10_reads_50 (by decide) (by first | omega | (simp [hs_at] <;> omega)) (fun c50 => ?_) (fun c50 => ?_)
      · refine m_aload_n hC 0 dX10_reads_60 rfl rfl ?_
        refine m_getf hC dX10_reads_61 kf_X10_216 hV.ob rfl ?_
        refine m_ws17 hC hV ha dX10_reads_64 kf_X10_216 (fun M9 R10 f11 => ?_)
        refine m_iconst hC dX10_reads_67 ?_
        exact m_iret hC dX10_reads_68 hr (by decide) (by decide) (⟨congrArg (fun z => some (VI z)) (if_neg hok).symm, by rw [show r_q tx q wr x y = q from if_neg hok, show r_w tx q wr x y = (if wr = -1 then q else wr) from if_neg hok]; first | (rw [if_pos (by omega), ← rW_17 (wr := wr)]; exact R10) | (rw [if_neg (by omega), ← rW_17 (wr := wr)]; exact R10), f11⟩)
      · refine m_aload_n hC 0 dX10_reads_53 rfl rfl ?_
        refine m_getf hC dX10_reads_54 kf_X10_210 hV.ob rfl ?_
        refine m_goto (tgt := 64) hC dX10_reads_57 (by decide) ?_
        refine m_ws17 hC hV ha dX10_reads_64 kf_X10_216 (fun M12 R13 f14 => ?_)
        refine m_iconst hC dX10_reads_67 ?_
        exact m_iret hC dX10_reads_68 hr (by decide) (by decide) (⟨congrArg (fun z => some (VI z)) (if_neg hok).symm, by rw [show r_q tx q wr x y = q from if_neg hok, show r_w tx q wr x y = (if wr = -1 then q else wr) from if_neg hok]; first | (rw [if_pos (by omega), ← rW_17 (wr := wr)]; exact R13) | (rw [if_neg (by omega), ← rW_17 (wr := wr)]; exact R13), f14⟩)
    · have c17 := b01_ne.mp c17
      have hok : r_ok tx q wr x y := ⟨by omega, c17.1, c17.2⟩
      refine m_aload_n hC 0 dX10_reads_20 rfl rfl ?_
      refine m_dup hC dX10_reads_21 rfl ?_
      refine m_getf hC dX10_reads_22 kf_X10_210 hV.ob rfl ?_
      refine m_iconst hC dX10_reads_25 ?_
      refine m_iadd hC dX10_reads_26 ?_
      refine m_ws16 hC hV ha dX10_reads_27 kf_X10_210 (fun M15 R16 f17 => ?_)
      refine m_aload_n hC 0 dX10_reads_30 rfl rfl ?_
      refine m_getf hC dX10_reads_31 kf_X10_35 R16.ob rfl ?_
      refine m_aload_n hC 0 dX10_reads_34 rfl rfl ?_
      refine m_getf hC dX10_reads_35 kf_X10_210 R16.ob rfl ?_
      refine m_iconst hC dX10_reads_38 ?_
      refine m_isub hC dX10_reads_39 ?_
      refine m_iald hC dX10_reads_40 R16.c7 (by decide) (by have := ltr_in hok.2.1 hx.1; show 0 ≤ q + 1 - 1 ∧ q + 1 - 1 < 60; omega) ?_
      refine m_iload_n hC 1 dX10_reads_41 rfl rfl ?_
      refine m_isub hC dX10_reads_42 ?_
      exact m_iret hC dX10_reads_43 hr (by decide) (by decide) (⟨X_rd1 hX hq hok hx.1, by rw [show r_q tx q wr x y = q + 1 from if_pos hok, show r_w tx q wr x y = wr from if_pos hok, ← rW_16 (q := q)]; exact R16, f17⟩)

set_option maxHeartbeats 4000000 in
set_option maxRecDepth 100000 in
theorem t_X10_digit {D : va_G} {aC : Nat → ClassId} {s0 : State} {l : Launch} (hF : m_F D aC s0) (hl : l.stackTraces = false) {a : Nat} {w g : h_T} {tx : List Int} {q wr : Int} {M : m_M} (hV : mmV a (rW w q wr) g M) (ha : s0.heap.size ≤ a) (hX : rX w tx) (hq : 0 ≤ q ∧ q ≤ (tx.length : Int)) (hwr : -1 ≤ wr ∧ wr ≤ (tx.length : Int))   : m_Met D aC s0 l yX10_digit cX10_digit 1 (some .int) 2 (0) (0) [.ref a] M (fun v M' => v = some (VI (r_v tx q wr 48 57)) ∧ mmV a (rW w (r_q tx q wr 48 57) (r_w tx q wr 48 57)) g M' ∧ m_fr a 10 M M') m_nx := by
  refine m_entry (lv := [(0, .ref a)]) (by decide +kernel) (Nat.le_of_ble_eq_true rfl) rfl hF hl ?_
  intro p e s m args below meth c hC hr hno hnm
  change m_C D aC s0 RX10 _ _ _ _ _ _ _ _ _ at hC
  refine m_aload_n hC 0 dX10_digit_0 rfl rfl ?_
  refine m_bipush hC dX10_digit_1 (by decide) ?_
  refine m_bipush hC dX10_digit_3 (by decide) ?_
  refine m_callV hC (t_X10_reads hF hl hV ha hX hq hwr (x := 48) (y := 57) (by decide) (by decide)) dX10_digit_5 kc_X10_reads kV_X10_222 hV.ob rfl rfl rfl rfl (Nat.le_of_ble_eq_true rfl) (by decide) (by decide) m_nox (fun v9 M1 h9 => ?_)
  obtain ⟨rfl, R2, f3⟩ := h9
  exact m_iret hC dX10_digit_8 hr (by decide) (by decide) (⟨rfl, R2, f3⟩)

set_option maxHeartbeats 4000000 in
set_option maxRecDepth 100000 in
theorem t_X10_sign {D : va_G} {aC : Nat → ClassId} {s0 : State} {l : Launch} (hF : m_F D aC s0) (hl : l.stackTraces = false) {a : Nat} {w g : h_T} {tx : List Int} {q wr : Int} {M : m_M} (hV : mmV a (rW w q wr) g M) (ha : s0.heap.size ≤ a) (hX : rX w tx) (hq : 0 ≤ q ∧ q ≤ (tx.length : Int)) (hwr : -1 ≤ wr ∧ wr ≤ (tx.length : Int)) {x : Int} (hx : 0 ≤ x ∧ x < 128) : m_Met D aC s0 l yX10_sign cX10_sign 3 none 2 (0) (0) [.ref a, VI x] M (fun v M' => v = none ∧ mmV a (rW w (r_q tx q wr x x) (r_w tx q wr x x)) g M' ∧ m_fr a 10 M M') m_nx := by
  refine m_entry (lv := [(0, .ref a), (1, VI x)]) (by decide +kernel) (Nat.le_of_ble_eq_true rfl) rfl hF hl ?_
  intro p e s m args below meth c hC hr hno hnm
  change m_C D aC s0 RX10 _ _ _ _ _ _ _ _ _ at hC
  refine m_aload_n hC 0 dX10_sign_0 rfl rfl ?_
  refine m_iload_n hC 1 dX10_sign_1 rfl rfl ?_
  refine m_iload_n hC 1 dX10_sign_2 rfl rfl ?_
  refine m_callV hC (t_X10_reads hF hl hV ha hX hq hwr (x := x) (y := x) hx hx) dX10_sign_3 kc_X10_reads kV_X10_222 hV.ob rfl rfl rfl rfl (Nat.le_of_ble_eq_true rfl) (by decide) (by decide) m_nox (fun v9 M1 h9 => ?_)
  obtain ⟨rfl, R2, f3⟩ := h9
  refine m_istore_n hC dX10_sign_6 rfl (by decide) rfl ?_
  exact m_vret hC dX10_sign_7 hr (by decide) (by decide) (⟨rfl, R2, f3⟩)

theorem X_nu1 {tx : List Int} {k : Nat} {q wr n : Int} (hk : 1 ≤ k) (h : r_ok tx q wr 48 57) : nu tx k q wr n = nu tx (k - 1) (q + 1) wr (10 * n + (ltr tx q - 48)) := by
  cases k with
  | zero => omega
  | succ k => rw [nu, if_pos h]; rfl
theorem X_nu0 {tx : List Int} {k : Nat} {q wr n : Int} (h : k = 0 ∨ ¬ r_ok tx q wr 48 57) : nu tx k q wr n = (n, q, wr) := by
  cases k with
  | zero => rfl
  | succ k =>
    rcases h with h | h
    · omega
    · rw [nu, if_neg h]
set_option maxHeartbeats 4000000 in
set_option maxRecDepth 100000 in
theorem t_X10_number {D : va_G} {aC : Nat → ClassId} {s0 : State} {l : Launch} (hF : m_F D aC s0) (hl : l.stackTraces = false) {a : Nat} {w g : h_T} {tx : List Int} {q wr : Int} {M : m_M} (hV : mmV a (rW w q wr) g M) (ha : s0.heap.size ≤ a) (hX : rX w tx) (hq : 0 ≤ q ∧ q ≤ (tx.length : Int)) (hwr : -1 ≤ wr ∧ wr ≤ (tx.length : Int))   : m_Met D aC s0 l yX10_number cX10_number 3 (some .int) 3 (0) (0) [.ref a] M (fun v M' => v = some (VI (r_n tx q wr).1) ∧ mmV a (rW w (r_n tx q wr).2.1 (r_n tx q wr).2.2) g M' ∧ m_fr a 10 M M') m_nx := by
  refine m_entry (lv := [(0, .ref a)]) (by decide +kernel) (Nat.le_of_ble_eq_true rfl) rfl hF hl ?_
  intro p e s m args below meth c hC hr hno hnm
  change m_C D aC s0 RX10 _ _ _ _ _ _ _ _ _ at hC
  refine m_aload_n hC 0 dX10_number_0 rfl rfl ?_
  refine m_callV hC (t_X10_digit hF hl hV ha hX hq hwr) dX10_number_1 kc_X10_digit kV_X10_225 hV.ob rfl rfl rfl rfl (Nat.le_of_ble_eq_true rfl) (by decide) (by decide) m_nox (fun v9 M1 h9 => ?_)
  obtain ⟨rfl, R2, f3⟩ := h9
  refine m_istore_n hC dX10_number_4 rfl (by decide) rfl ?_
  refine m_iconst hC dX10_number_5 ?_
  refine m_istore_n hC dX10_number_6 rfl (by decide) rfl ?_
  have hfr0 : m_fr a 10 M M1 := f3
  have L : ∀ (n : Nat) (k : Nat) (q1 wr1 n1 d : Int) (M1 : m_M), (k : Int) < (n : Int) → k ≤ 2 → 0 ≤ q1 ∧ q1 ≤ (tx.length : Int) → -1 ≤ wr1 ∧ wr1 ≤ (tx.length : Int) → d + (k : Int) = 3 → mmV a (rW w q1 wr1) g M1 → m_fr a 10 M M1 → r_n tx q wr = nu tx k q1 wr1 n1 → m_W D aC s0 3 p l e (m_R 3 (0) (0)) s m args below meth c (0) (0) (m_Q D aC s0 below (fun v M' => v = some (VI (r_n tx q wr).1) ∧ mmV a (rW w (r_n tx q wr).2.1 (r_n tx q wr).2.2) g M' ∧ m_fr a 10 M M') m_nx args s (0) (0)) 7 [(2, VI d), (1, VI n1), (0, .ref a)] [] M1 := by
    intro n
    induction n with
    | zero =>
      intro k q1 wr1 n1 d M1 hn hk hq1 hw1 hd hV1 hfr hnu
      omega
    | succ n ih =>
      intro k q1 wr1 n1 d M1 hn hk hq1 hw1 hd hV1 hfr hnu
      have e17 : rW w q1 wr1 0 17 = wr1 := rfl
      have hl6 := hX.2.1
      have hlr := ltr_rg hX q1
      refine m_iload_n hC 0 dX10_number_7 rfl rfl ?_
      refine m_iconst hC dX10_number_8 ?_
      refine m_icmp_ge (tgt := 50) hC dX10_number_9 (by decide) (by first | omega | (simp [hs_at] <;> omega)) (fun c9 => ?_) (fun c9 => ?_)
      · have hend : nu tx k q1 wr1 n1 = (n1, q1, wr1) := X_nu0 (by first | (left; omega) | (right; intro z; obtain ⟨z1, z2, z3⟩ := z; first | omega | exact absurd ⟨z2, z3⟩ (b01_eq.mp c31)))
        refine m_iload_n hC 1 dX10_number_50 rfl rfl ?_
        exact m_iret hC dX10_number_51 hr (by decide) (by decide) (⟨by rw [hnu, hend], by rw [hnu, hend]; exact hV1, hfr.tr m_fr.rf⟩)
      · refine m_aload_n hC 2 dX10_number_12 rfl rfl ?_
        refine m_getf hC dX10_number_13 kf_X10_216 hV1.ob rfl ?_
        refine m_iconst hC dX10_number_16 ?_
        refine m_icmp_ne (tgt := 50) hC dX10_number_17 (by decide) (by first | omega | (simp [hs_at] <;> omega)) (fun c17 => ?_) (fun c17 => ?_)
        · have hend : nu tx k q1 wr1 n1 = (n1, q1, wr1) := X_nu0 (by first | (left; omega) | (right; intro z; obtain ⟨z1, z2, z3⟩ := z; first | omega | exact absurd ⟨z2, z3⟩ (b01_eq.mp c31)))
          refine m_iload_n hC 1 dX10_number_50 rfl rfl ?_
          exact m_iret hC dX10_number_51 hr (by decide) (by decide) (⟨by rw [hnu, hend], by rw [hnu, hend]; exact hV1, hfr.tr m_fr.rf⟩)
        · refine m_aload_n hC 2 dX10_number_20 rfl rfl ?_
          refine m_callV hC (t_X10_letterHere hF hl hV1 ha hX hq1 hw1) dX10_number_21 kc_X10_letterHere kV_X10_219 hV1.ob rfl rfl rfl rfl (Nat.le_of_ble_eq_true rfl) (by decide) (by decide) m_nox (fun v9 M4 h9 => ?_)
          obtain ⟨rfl, h9⟩ := h9
          replace h9 := h9.symm
          subst h9
          refine m_bipush hC dX10_number_24 (by decide) ?_
          refine m_bipush hC dX10_number_26 (by decide) ?_
          refine m_callS hC (t_X10_isIn hF hl (z := ltr tx q1) (lo := 48) (hi := 57) (by omega)) dX10_number_28 kc_X10_isIn kS_X10_69 rfl rfl (Nat.le_of_ble_eq_true rfl) (by decide) (by decide) m_nox (fun v9 M5 h9 => ?_)
          obtain ⟨rfl, h9⟩ := h9
          replace h9 := h9.symm
          subst h9
          refine m_if_eq (tgt := 50) hC dX10_number_31 (by decide) b01_r (fun c31 => ?_) (fun c31 => ?_)
          · have hend : nu tx k q1 wr1 n1 = (n1, q1, wr1) := X_nu0 (by first | (left; omega) | (right; intro z; obtain ⟨z1, z2, z3⟩ := z; first | omega | exact absurd ⟨z2, z3⟩ (b01_eq.mp c31)))
            refine m_iload_n hC 1 dX10_number_50 rfl rfl ?_
            exact m_iret hC dX10_number_51 hr (by decide) (by decide) (⟨by rw [hnu, hend], by rw [hnu, hend]; exact hV1, hfr.tr m_fr.rf⟩)
          · have c31 := b01_ne.mp c31
            have hok : r_ok tx q1 wr1 48 57 := ⟨by omega, c31.1, c31.2⟩
            refine m_bipush hC dX10_number_34 (by decide) ?_
            refine m_iload_n hC 1 dX10_number_36 rfl rfl ?_
            refine m_imul hC dX10_number_37 ?_
            refine m_aload_n hC 2 dX10_number_38 rfl rfl ?_
            refine m_callV hC (t_X10_digit hF hl hV1 ha hX hq1 hw1) dX10_number_39 kc_X10_digit kV_X10_225 hV1.ob rfl rfl rfl rfl (Nat.le_of_ble_eq_true rfl) (by decide) (by decide) m_nox (fun v9 M6 h9 => ?_)
            obtain ⟨rfl, R7, f8⟩ := h9
            rw [show r_v tx q1 wr1 48 57 = ltr tx q1 - 48 from if_pos hok]
            refine m_iadd hC dX10_number_42 ?_
            refine m_istore_n hC dX10_number_43 rfl (by decide) rfl ?_
            refine m_iinc hC 1 dX10_number_44 rfl (by decide) rfl ?_
            refine m_goto (tgt := 7) hC dX10_number_47 (by decide) ?_
            refine m_lvs [0, 1, 2] rfl (ih (k - 1) (q1 + 1) wr1 (10 * n1 + (ltr tx q1 - 48)) (d + 1) M6 (by omega) (by omega) (by have := ltr_in hok.2.1 (by decide); omega) hw1 (by omega) (by have e1 : r_q tx q1 wr1 48 57 = q1 + 1 := if_pos hok; have e2 : r_w tx q1 wr1 48 57 = wr1 := if_pos hok; rw [← e1]; have R9 := R7; rw [e2] at R9; exact R9) (hfr.tr f8) (hnu.trans (X_nu1 (by omega) hok)))
  refine m_lvs [0, 1, 2] rfl (L 3 2 (r_q tx q wr 48 57) (r_w tx q wr 48 57) (r_v tx q wr 48 57) 1 M1 (by omega) (by omega) (r_q_rg hq (by decide)) (r_w_rg hq hwr) (by omega) R2 hfr0 rfl)

