/-! numbers with a point: what the two methods make is no NaN -/
theorem f_mean : ∀ n : Fin 595, FP.ddiv (FP.i2d (Int32.ofInt ((n : Nat) : Int))) 4618441417868443648 &&& 0x7fffffffffffffff ≤ 0x7ff0000000000000 := by decide +kernel
theorem f_mean_ok {z : Int} (h : 0 ≤ z ∧ z ≤ 594) : vf_n64 (FP.ddiv (FP.i2d (Int32.ofInt z)) 4618441417868443648) := by
  have e := f_mean ⟨z.toNat, by omega⟩
  dsimp only at e
  rw [show ((z.toNat : Nat) : Int) = z by omega] at e
  exact e
theorem e32 {s : Bool} {c : Nat} {q : Int} (hc : c < 16777216) (hq : q ≤ 104) : FP.Core.encode FP.Core.b32 (.fin s c q) % 2147483648 < 2139095040 ∧ (1 ≤ c → 0 < FP.Core.encode FP.Core.b32 (.fin s c q) % 2147483648) := by
  have e : FP.Core.encode FP.Core.b32 (.fin s c q) = if c < 8388608 then (s.toNat * 256 + 0) * 8388608 + c else (s.toNat * 256 + ((q - (-149)).toNat + 1)) * 8388608 + (c - 8388608) := rfl
  have hs : s.toNat ≤ 1 := by cases s <;> decide
  rw [e]
  split <;> omega
theorem e64 {s : Bool} {c : Nat} {q : Int} (hc : c < 9007199254740992) (hq : q ≤ 971) : FP.Core.encode FP.Core.b64 (.fin s c q) % 9223372036854775808 ≤ 9218868437227405312 := by
  have e : FP.Core.encode FP.Core.b64 (.fin s c q) = if c < 4503599627370496 then (s.toNat * 2048 + 0) * 4503599627370496 + c else (s.toNat * 2048 + ((q - (-1074)).toNat + 1)) * 4503599627370496 + (c - 4503599627370496) := rfl
  have hs : s.toNat ≤ 1 := by cases s <;> decide
  rw [e]
  split <;> omega
theorem i32 (s : Bool) : FP.Core.encode FP.Core.b32 (.inf s) % 2147483648 ≤ 2139095040 := by cases s <;> decide +kernel
theorem i64 (s : Bool) : FP.Core.encode FP.Core.b64 (.inf s) % 9223372036854775808 ≤ 9218868437227405312 := by cases s <;> decide +kernel
theorem s32 (s : Bool) (n : Nat) (q : Int) : FP.Core.encode FP.Core.b32 (FP.Core.settle FP.Core.b32 s n q) % 2147483648 ≤ 2139095040 := by
  have e : FP.Core.settle FP.Core.b32 s n q = if n < 16777216 then (if q ≤ 104 then .fin s n q else .inf s) else (if q + 1 ≤ 104 then .fin s 8388608 (q + 1) else .inf s) := rfl
  rw [e]
  split
  · split
    · exact Nat.le_of_lt (e32 (by assumption) (by assumption)).1
    · exact i32 s
  · split
    · exact Nat.le_of_lt (e32 (by decide) (by assumption)).1
    · exact i32 s
theorem s64 (s : Bool) (n : Nat) (q : Int) : FP.Core.encode FP.Core.b64 (FP.Core.settle FP.Core.b64 s n q) % 9223372036854775808 ≤ 9218868437227405312 := by
  have e : FP.Core.settle FP.Core.b64 s n q = if n < 9007199254740992 then (if q ≤ 971 then .fin s n q else .inf s) else (if q + 1 ≤ 971 then .fin s 4503599627370496 (q + 1) else .inf s) := rfl
  rw [e]
  split
  · split
    · exact e64 (by assumption) (by assumption)
    · exact i64 s
  · split
    · exact e64 (by decide) (by assumption)
    · exact i64 s
theorem r32 (s : Bool) (n d : Nat) (x : Int) : FP.Core.encode FP.Core.b32 (FP.Core.roundRatio FP.Core.b32 s n d x) % 2147483648 ≤ 2139095040 := by
  unfold FP.Core.roundRatio
  split
  · have h0 := (e32 (s := s) (c := 0) (q := -149) (by decide) (by decide)).1
    have e : FP.Core.b32.qmin = -149 := rfl
    rw [e]
    exact Nat.le_of_lt h0
  · exact s32 _ _ _
theorem r64 (s : Bool) (n d : Nat) (x : Int) : FP.Core.encode FP.Core.b64 (FP.Core.roundRatio FP.Core.b64 s n d x) % 9223372036854775808 ≤ 9218868437227405312 := by
  unfold FP.Core.roundRatio
  split
  · have h0 := e64 (s := s) (c := 0) (q := -1074) (by decide) (by decide)
    have e : FP.Core.b64.qmin = -1074 := rfl
    rw [e]
    exact h0
  · exact s64 _ _ _
theorem d32 {n : Nat} (h : n % 2147483648 ≤ 2139095040) : FP.Core.decode FP.Core.b32 n ≠ .nan := by
  have e : FP.Core.decode FP.Core.b32 n = if n / 8388608 % 256 = 255 then (if n % 8388608 = 0 then .inf (FP.Core.fieldS FP.Core.b32 n) else .nan) else if n / 8388608 % 256 = 0 then .fin (FP.Core.fieldS FP.Core.b32 n) (n % 8388608) (-149) else .fin (FP.Core.fieldS FP.Core.b32 n) (8388608 + n % 8388608) (-149 + (((n / 8388608 % 256 : Nat) : Int) - 1)) := rfl
  rw [e]
  split
  · split
    · intro z; cases z
    · omega
  · split <;> (intro z; cases z)
theorem d32f {n : Nat} (h : n % 2147483648 < 2139095040) (h0 : 0 < n % 2147483648) : ∃ (s : Bool) (c : Nat) (q : Int), FP.Core.decode FP.Core.b32 n = .fin s c q ∧ c ≠ 0 := by
  have e : FP.Core.decode FP.Core.b32 n = if n / 8388608 % 256 = 255 then (if n % 8388608 = 0 then .inf (FP.Core.fieldS FP.Core.b32 n) else .nan) else if n / 8388608 % 256 = 0 then .fin (FP.Core.fieldS FP.Core.b32 n) (n % 8388608) (-149) else .fin (FP.Core.fieldS FP.Core.b32 n) (8388608 + n % 8388608) (-149 + (((n / 8388608 % 256 : Nat) : Int) - 1)) := rfl
  rw [e, if_neg (show ¬ n / 8388608 % 256 = 255 by omega)]
  split
  · exact ⟨_, _, _, rfl, by omega⟩
  · exact ⟨_, _, _, rfl, by omega⟩
theorem d64 {n : Nat} (h : n % 9223372036854775808 ≤ 9218868437227405312) : FP.Core.decode FP.Core.b64 n ≠ .nan := by
  have e : FP.Core.decode FP.Core.b64 n = if n / 4503599627370496 % 2048 = 2047 then (if n % 4503599627370496 = 0 then .inf (FP.Core.fieldS FP.Core.b64 n) else .nan) else if n / 4503599627370496 % 2048 = 0 then .fin (FP.Core.fieldS FP.Core.b64 n) (n % 4503599627370496) (-1074) else .fin (FP.Core.fieldS FP.Core.b64 n) (4503599627370496 + n % 4503599627370496) (-1074 + (((n / 4503599627370496 % 2048 : Nat) : Int) - 1)) := rfl
  rw [e]
  split
  · split
    · intro z; cases z
    · omega
  · split <;> (intro z; cases z)
theorem n_ge (a d : Nat) : a / d ≤ FP.Core.nearest a d := by
  unfold FP.Core.nearest
  split
  · exact Nat.le_refl _
  · split <;> omega
theorem lead_le {n : Nat} (h0 : n ≠ 0) : FP.Core.leading n 1 ≤ (n.log2 : Int) := by
  unfold FP.Core.leading
  rw [show Nat.log2 1 = 0 by decide]
  dsimp only
  split <;> omega
theorem i2f_fin {z : Int} (h : 0 < z ∧ z < 2147483648) : ∃ (s : Bool) (c : Nat) (q : Int), FP.Core.decode FP.Core.b32 (FP.i2f (Int32.ofInt z)).toNat = .fin s c q ∧ c ≠ 0 := by
  obtain ⟨n, rfl⟩ := Int.eq_ofNat_of_zero_le (show 0 ≤ z by omega)
  have hn : n ≠ 0 := by omega
  have e0 : (FP.i2f (Int32.ofInt (n : Int))).toNat = FP.Core.encode FP.Core.b32 (FP.Core.roundAt FP.Core.b32 false n 1 0 (FP.Core.quantum FP.Core.b32 n 1 0)) % 4294967296 := by
    show (UInt32.ofNat (FP.Core.fromInt FP.Core.b32 (Int32.ofInt (n : Int)).toInt)).toNat = _
    rw [m_ti (by omega)]
    have e1 : FP.Core.fromInt FP.Core.b32 (n : Int) = FP.Core.encode FP.Core.b32 (FP.Core.roundRatio FP.Core.b32 (decide ((n : Int) < 0)) (n : Int).natAbs 1 0) := rfl
    rw [e1, Int.natAbs_natCast, show decide ((n : Int) < 0) = false from decide_eq_false (by omega)]
    unfold FP.Core.roundRatio
    rw [if_neg hn]
    exact UInt32.toNat_ofNat'
  have hl := lead_le hn
  have hk : n.log2 < 31 := (Nat.log2_lt hn).mpr (by omega)
  have hp := Nat.log2_self_le hn
  obtain ⟨Q, hQ⟩ : ∃ Q, FP.Core.quantum FP.Core.b32 n 1 0 = Q := ⟨_, rfl⟩
  have hq : Q ≤ (n.log2 : Int) ∧ Q ≤ 31 := by
    rw [← hQ]
    show max (-149) (FP.Core.leading n 1 + 0 - (((24 : Nat) : Int) - 1)) ≤ _ ∧ max (-149) (FP.Core.leading n 1 + 0 - (((24 : Nat) : Int) - 1)) ≤ 31
    omega
  have hc : 1 ≤ FP.Core.nearest (FP.Core.unitsNum n 0 Q) (FP.Core.unitsDen 1 0 Q) := by
    refine Nat.le_trans ?_ (n_ge _ _)
    unfold FP.Core.unitsNum FP.Core.unitsDen
    have hle : 1 * 2 ^ (Q - 0).toNat ≤ n * 2 ^ (0 - Q).toNat := by
      by_cases c0 : 0 < Q
      · rw [show (0 - Q).toNat = 0 by omega, Nat.pow_zero, Nat.mul_one, Nat.one_mul]
        exact Nat.le_trans (Nat.pow_le_pow_right (by decide) (by omega)) hp
      · rw [show (Q - 0).toNat = 0 by omega, Nat.pow_zero, Nat.mul_one]
        exact Nat.le_trans (by omega : 1 ≤ n) (Nat.le_mul_of_pos_right _ (Nat.pow_pos (by decide)))
    exact Nat.div_pos hle (by rw [Nat.one_mul]; exact Nat.pow_pos (by decide))
  have hbits : ∀ N : Nat, 1 ≤ N → FP.Core.encode FP.Core.b32 (FP.Core.settle FP.Core.b32 false N Q) % 2147483648 < 2139095040 ∧ 0 < FP.Core.encode FP.Core.b32 (FP.Core.settle FP.Core.b32 false N Q) % 2147483648 := by
    intro N hN
    have e : FP.Core.settle FP.Core.b32 false N Q = if N < 16777216 then (if Q ≤ 104 then .fin false N Q else .inf false) else (if Q + 1 ≤ 104 then .fin false 8388608 (Q + 1) else .inf false) := rfl
    rw [e]
    split
    · rename_i hN2
      rw [if_pos (by omega)]
      have := e32 (s := false) (q := Q) hN2 (by omega)
      exact ⟨this.1, this.2 hN⟩
    · rw [if_pos (by omega)]
      have := e32 (s := false) (c := 8388608) (q := Q + 1) (by decide) (by omega)
      exact ⟨this.1, this.2 (by decide)⟩
  have hb := hbits _ hc
  have e2 : FP.Core.roundAt FP.Core.b32 false n 1 0 Q = FP.Core.settle FP.Core.b32 false (FP.Core.nearest (FP.Core.unitsNum n 0 Q) (FP.Core.unitsDen 1 0 Q)) Q := rfl
  rw [e0, hQ, e2]
  exact d32f (by omega) (by omega)
theorem i2f_nn (x : Int32) : FP.Core.decode FP.Core.b32 (FP.i2f x).toNat ≠ .nan := by
  have e0 : (FP.i2f x).toNat = FP.Core.encode FP.Core.b32 (FP.Core.roundRatio FP.Core.b32 (decide (x.toInt < 0)) x.toInt.natAbs 1 0) % 4294967296 := UInt32.toNat_ofNat'
  rw [e0]
  refine d32 ?_
  have := r32 (decide (x.toInt < 0)) x.toInt.natAbs 1 0
  omega
theorem vn32 {m : Nat} (h : m % 2147483648 ≤ 2139095040) : vf_n32 (UInt32.ofNat m) := by
  unfold vf_n32
  rw [UInt32.le_iff_toNat_le, UInt32.toNat_and, show (0x7fffffff : UInt32).toNat = 2 ^ 31 - 1 by decide, show (0x7f800000 : UInt32).toNat = 2139095040 by decide, Nat.and_two_pow_sub_one_eq_mod, UInt32.toNat_ofNat']
  omega
theorem vn64 {m : Nat} (h : m % 9223372036854775808 ≤ 9218868437227405312) : vf_n64 (UInt64.ofNat m) := by
  unfold vf_n64
  rw [UInt64.le_iff_toNat_le, UInt64.toNat_and, show (0x7fffffffffffffff : UInt64).toNat = 2 ^ 63 - 1 by decide, show (0x7ff0000000000000 : UInt64).toNat = 9218868437227405312 by decide, Nat.and_two_pow_sub_one_eq_mod, UInt64.toNat_ofNat']
  omega
theorem vn64_to {x : UInt64} (h : vf_n64 x) : x.toNat % 9223372036854775808 ≤ 9218868437227405312 := by
  unfold vf_n64 at h
  rw [UInt64.le_iff_toNat_le, UInt64.toNat_and, show (0x7fffffffffffffff : UInt64).toNat = 2 ^ 63 - 1 by decide, show (0x7ff0000000000000 : UInt64).toNat = 9218868437227405312 by decide, Nat.and_two_pow_sub_one_eq_mod] at h
  exact h
theorem q32 {a b : Int} (hb : 0 < b ∧ b < 2147483648) : FP.Core.div FP.Core.b32 (FP.i2f (Int32.ofInt a)).toNat (FP.i2f (Int32.ofInt b)).toNat % 2147483648 ≤ 2139095040 := by
  obtain ⟨t, d, r, hd, hd0⟩ := i2f_fin hb
  have ha := i2f_nn (Int32.ofInt a)
  unfold FP.Core.div
  rw [hd]
  generalize FP.Core.decode FP.Core.b32 (FP.i2f (Int32.ofInt a)).toNat = X at ha
  cases X with
  | nan => exact absurd rfl ha
  | inf s => exact i32 _
  | fin s c q =>
    show FP.Core.encode FP.Core.b32 (if d = 0 then _ else _) % 2147483648 ≤ 2139095040
    rw [if_neg hd0]
    exact r32 _ _ _ _
theorem fdiv_ok {a b : Int} (hb : 0 < b ∧ b < 2147483648) : vf_n32 (FP.fdiv (FP.i2f (Int32.ofInt a)) (FP.i2f (Int32.ofInt b))) := vn32 (q32 hb)
theorem f2d_ok {x : UInt32} (h : x.toNat % 2147483648 ≤ 2139095040) : vf_n64 (FP.f2d x) := by
  have hn := d32 h
  unfold FP.f2d FP.Core.fIsNaN FP.Core.isNaN
  rw [if_neg (by rw [decide_eq_true_eq]; exact hn)]
  refine vn64 ?_
  unfold FP.Core.convert
  generalize FP.Core.decode FP.Core.b32 x.toNat = X at hn
  cases X with
  | nan => exact absurd rfl hn
  | inf s => exact i64 _
  | fin s c q => exact r64 _ _ _ _
theorem rel_ok {a b : Int} (hb : 0 < b ∧ b < 2147483648) : vf_n64 (FP.f2d (FP.fdiv (FP.i2f (Int32.ofInt a)) (FP.i2f (Int32.ofInt b)))) := f2d_ok (by
  have h := q32 (a := a) hb
  show (UInt32.ofNat _).toNat % 2147483648 ≤ 2139095040
  rw [UInt32.toNat_ofNat']
  omega)
theorem order_self {d : FP.Core.Datum} (h : d ≠ .nan) : FP.Core.order d d = some .eq := by
  cases d with
  | nan => exact absurd rfl h
  | inf s => cases s <;> rfl
  | fin s c q =>
    show some (compare _ _) = some Ordering.eq
    simp [compare, compareOfLessAndEq]
theorem dcmp_self {x : UInt64} (h : vf_n64 x) : FP.dcmp x x = some .eq := order_self (d64 (vn64_to h))
theorem cmp0 {x : UInt64} (h : vf_n64 x) (op : CmpOp) : Op.cmpValue (FP.dcmp x x) op = 0 := by
  rw [dcmp_self h]
  rfl
