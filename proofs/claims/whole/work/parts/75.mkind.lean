def zN : List Int := [103, 111, 98, 108, 105, 110, 32, 98, 114, 111, 111, 109, 32, 98, 97, 110, 105, 115, 104, 32, 114, 101, 99, 97, 108, 108, 32, 104, 105, 114, 101, 32, 99, 97, 110, 99, 101, 108, 32, 114, 101, 115, 116, 32, 119, 97, 107, 101, 32, 108, 101, 110, 100, 32, 102, 117, 110, 100, 32, 115, 112, 101, 110, 100, 32, 110, 105, 103, 104, 116]
def m_NM (s0 : State) (sa va : Nat) : Prop := vk_R RX10 231 "goblin broom banish recall hire cancel rest wake lend fund spend night" sa s0 ∧ m_str s0 sa va zN
section m_LDS
variable {D : va_G} {aC : Nat → ClassId} {s0 : State} {own : String} {cc : ByteArray} {nL : Nat} {p : Program} {l : Launch} {e : Env} {R : Room} {s : State} {m : MethodId} {args : Array Value} {below : List Frame} {meth : Method} {c : Code} {cells slots : Nat} {Q : State → Prop} {pc : Nat} {lv : List (Nat × Value)} {st : List Value} {M : m_M}
theorem m_ldcs (C : m_C D aC s0 own cc nL l p s m args meth c) {idx q : Nat} {tx : String} (hd : decode cc pc = .ok (.ldc idx, 2)) (hR : vk_R own idx tx q s0) (kk : m_W D aC s0 nL p l e R s m args below meth c cells slots Q (pc + 2) lv (.ref q :: st) M) : m_W D aC s0 nL p l e R s m args below meth c cells slots Q pc lv st M := fun H locs ls h1 h2 h3 => va_ldcS C.1 C.2.1 C.2.2.2.1 (vk_R.warm C.2.2.2.2.2.2.1.1 hR) hd (kk H locs ls h1 h2 h3)
end m_LDS
/-- how far a word that begins at b goes on like the text at q -/
def k_mt (tx : List Int) (q b : Int) : Nat → Int → Int
  | 0, k => k
  | n + 1, k => if q + k < (tx.length : Int) ∧ tx.getD (q + k).toNat 0 = zN.getD (b + k).toNat 0 then k_mt tx q b n (k + 1) else k
def k_m (tx : List Int) (q x : Int) : Int := k_mt tx q (s_of x) (s_of (x + 1) - s_of x).toNat 0
def k_kw (tx : List Int) (q : Int) : Nat → Int → Int → Int × Int
  | 0, _, far => (-1, far)
  | n + 1, x, far => if k_m tx q x = s_of (x + 1) - s_of x then (x, max far (q + k_m tx q x)) else k_kw tx q n (x + 1) (max far (q + k_m tx q x))
theorem s_of_rg {x : Int} (hx : 0 ≤ x ∧ x ≤ 11) : 0 ≤ s_of x ∧ 4 ≤ s_of (x + 1) - s_of x ∧ s_of (x + 1) - s_of x ≤ 7 ∧ s_of (x + 1) ≤ 70 := by
  have h : x = 0 ∨ x = 1 ∨ x = 2 ∨ x = 3 ∨ x = 4 ∨ x = 5 ∨ x = 6 ∨ x = 7 ∨ x = 8 ∨ x = 9 ∨ x = 10 ∨ x = 11 := by omega
  rcases h with rfl | rfl | rfl | rfl | rfl | rfl | rfl | rfl | rfl | rfl | rfl | rfl <;> decide
theorem k_mt_rg {tx : List Int} {q b : Int} : ∀ (n : Nat) (k : Int), q + k ≤ (tx.length : Int) → k ≤ k_mt tx q b n k ∧ k_mt tx q b n k ≤ k + n ∧ q + k_mt tx q b n k ≤ (tx.length : Int) := by
  intro n
  induction n with
  | zero => intro k h; exact ⟨Int.le_refl _, by show k ≤ k + ((0 : Nat) : Int); omega, h⟩
  | succ n ih =>
    intro k h
    rw [k_mt]
    split
    · have := ih (k + 1) (by omega); omega
    · omega
theorem X_km1 {tx : List Int} {q b len k v : Int} (h : v = k_mt tx q b (len - k).toNat k) (hl : k < len) (hq : q + k < (tx.length : Int)) (c : tx.getD (q + k).toNat 0 = zN.getD (b + k).toNat 0) : v = k_mt tx q b (len - (k + 1)).toNat (k + 1) := by
  rw [show (len - k).toNat = (len - (k + 1)).toNat + 1 by omega, k_mt, if_pos ⟨hq, c⟩] at h
  exact h
theorem X_km0 {tx : List Int} {q b len k v : Int} (h : v = k_mt tx q b (len - k).toNat k) (hl : k ≤ len) (c : len ≤ k ∨ ¬ (q + k < (tx.length : Int) ∧ tx.getD (q + k).toNat 0 = zN.getD (b + k).toNat 0)) : v = k := by
  by_cases z : len ≤ k
  · rw [show (len - k).toNat = 0 by omega] at h
    exact h
  · rcases c with c | c
    · omega
    · rw [show (len - k).toNat = (len - (k + 1)).toNat + 1 by omega, k_mt, if_neg c] at h
      exact h
theorem X_kw1 {tx : List Int} {q x o1 far k : Int} (h0 : 0 ≤ x ∧ x ≤ 12) (c12 : ¬ 12 ≤ x) (c17 : o1 = -1) (hkw : ((o1 = -1 ∧ k_kw tx q 12 0 q = k_kw tx q (12 - x).toNat x far) ∨ (o1 ≠ -1 ∧ k_kw tx q 12 0 q = (o1, far)))) (hkm : k_m tx q x = k) (hk : k = s_of (x + 1) - s_of x) : k_kw tx q 12 0 q = (x, max far (q + k)) := by
  rcases hkw with h | h
  · rw [h.2, show (12 - x).toNat = (12 - (x + 1)).toNat + 1 by omega, k_kw, if_pos (hkm.trans hk), hkm]
  · exact absurd c17 h.1
theorem X_kw2 {tx : List Int} {q x o1 far k : Int} (h0 : 0 ≤ x ∧ x ≤ 12) (c12 : ¬ 12 ≤ x) (c17 : o1 = -1) (hkw : ((o1 = -1 ∧ k_kw tx q 12 0 q = k_kw tx q (12 - x).toNat x far) ∨ (o1 ≠ -1 ∧ k_kw tx q 12 0 q = (o1, far)))) (hkm : k_m tx q x = k) (hk : k ≠ s_of (x + 1) - s_of x) : k_kw tx q 12 0 q = k_kw tx q (12 - (x + 1)).toNat (x + 1) (max far (q + k)) := by
  rcases hkw with h | h
  · rw [h.2, show (12 - x).toNat = (12 - (x + 1)).toNat + 1 by omega, k_kw, if_neg (fun z => hk (hkm.symm.trans z)), hkm]
  · exact absurd c17 h.1
theorem X_kendA {a : Nat} {w g : h_T} {tx : List Int} {q wr x o1 far : Int} {M M2 : m_M} (ho : o1 = -1) (hkw : ((o1 = -1 ∧ k_kw tx q 12 0 q = k_kw tx q (12 - x).toNat x far) ∨ (o1 ≠ -1 ∧ k_kw tx q 12 0 q = (o1, far)))) (hx : 12 ≤ x) (hV : mmV a (hs (hs (rW w q wr) 0 17 far) 0 16 (hs (rW w q wr) 0 17 far 0 16 + 0)) g M2) (hf : m_fr a 10 M M2) : some (VI o1) = some (VI (k_kw tx q 12 0 q).1) ∧ mmV a (rW w (if (k_kw tx q 12 0 q).1 = -1 then q else q + (s_of ((k_kw tx q 12 0 q).1 + 1) - s_of (k_kw tx q 12 0 q).1)) (if (k_kw tx q 12 0 q).1 = -1 then (k_kw tx q 12 0 q).2 else wr)) g M2 ∧ m_fr a 10 M M2 := by
  have e : k_kw tx q 12 0 q = (-1, far) := by
    rcases hkw with h | h
    · rw [h.2, show (12 - x).toNat = 0 by omega]
      rfl
    · exact absurd ho h.1
  rw [rW_17, rW_16, show rW w q far 0 16 + 0 = q from Int.add_zero q] at hV
  rw [e]
  exact ⟨by rw [ho], hV, hf⟩
theorem X_kendB {a : Nat} {w g : h_T} {tx : List Int} {q wr x o1 far : Int} {M M2 : m_M} (ho : o1 ≠ -1) (hkw : ((o1 = -1 ∧ k_kw tx q 12 0 q = k_kw tx q (12 - x).toNat x far) ∨ (o1 ≠ -1 ∧ k_kw tx q 12 0 q = (o1, far)))) (hV : mmV a (hs (hs (rW w q wr) 0 17 (rW w q wr 0 17)) 0 16 (hs (rW w q wr) 0 17 (rW w q wr 0 17) 0 16 + (s_of (o1 + 1) - s_of o1))) g M2) (hf : m_fr a 10 M M2) : some (VI o1) = some (VI (k_kw tx q 12 0 q).1) ∧ mmV a (rW w (if (k_kw tx q 12 0 q).1 = -1 then q else q + (s_of ((k_kw tx q 12 0 q).1 + 1) - s_of (k_kw tx q 12 0 q).1)) (if (k_kw tx q 12 0 q).1 = -1 then (k_kw tx q 12 0 q).2 else wr)) g M2 ∧ m_fr a 10 M M2 := by
  have e : k_kw tx q 12 0 q = (o1, far) := by
    rcases hkw with h | h
    · exact absurd h.1 ho
    · exact h.2
  rw [rW_17, rW_16] at hV
  rw [e]
  dsimp only
  rw [if_neg ho, if_neg ho]
  exact ⟨rfl, hV, hf⟩
set_option maxHeartbeats 4000000 in
set_option maxRecDepth 100000 in
theorem t_X10_kindHere {D : va_G} {aC : Nat → ClassId} {s0 : State} {l : Launch} (hF : m_F D aC s0) (hl : l.stackTraces = false) {a : Nat} {w g : h_T} {tx : List Int} {q wr : Int} {M : m_M} (hV : mmV a (rW w q wr) g M) (ha : s0.heap.size ≤ a) (hX : rX w tx) (hq : 0 ≤ q ∧ q ≤ (tx.length : Int)) (hwr : -1 ≤ wr ∧ wr ≤ (tx.length : Int))  {fo ks vs : Nat → Nat} {fA sA dO dT : Nat} (hJ : m_J s0 fo ks vs fA sA dO dT) {sa va : Nat} (hN : m_NM s0 sa va) : m_Met D aC s0 l yX10_kindHere cX10_kindHere 6 (some .int) 4 (0) (0) [.ref a] M (fun v M' => v = some (VI (k_kw tx q 12 0 q).1) ∧ mmV a (rW w (if (k_kw tx q 12 0 q).1 = -1 then q else q + (s_of ((k_kw tx q 12 0 q).1 + 1) - s_of (k_kw tx q 12 0 q).1)) (if (k_kw tx q 12 0 q).1 = -1 then (k_kw tx q 12 0 q).2 else wr)) g M' ∧ m_fr a 10 M M') m_nx := by
  refine m_entry (lv := [(0, .ref a)]) (by decide +kernel) (Nat.le_of_ble_eq_true rfl) rfl hF hl ?_
  intro p e s m args below meth c hC hr hno hnm
  change m_C D aC s0 RX10 _ _ _ _ _ _ _ _ _ at hC
  have hl6 := hX.2.1
  have e16 : rW w q wr 0 16 = q := rfl
  have e17 : rW w q wr 0 17 = wr := rfl
  have e15 : rW w q wr 0 15 = (tx.length : Int) := hX.1
  refine m_aload_n hC 0 dX10_kindHere_0 rfl rfl ?_
  refine m_getf hC dX10_kindHere_1 kf_X10_210 hV.ob rfl ?_
  refine m_istore_n hC dX10_kindHere_4 rfl (by decide) rfl ?_
  refine m_iconst hC dX10_kindHere_5 ?_
  refine m_istore_n hC dX10_kindHere_6 rfl (by decide) rfl ?_
  refine m_iconst hC dX10_kindHere_7 ?_
  refine m_istore_n hC dX10_kindHere_8 rfl (by decide) rfl ?_
  have L : ∀ (n : Nat) (x o1 far : Int), 12 - x + (if o1 = -1 then 1 else 0) < (n : Int) → 0 ≤ x ∧ x ≤ 12 → 0 ≤ far ∧ far ≤ (tx.length : Int) → -1 ≤ o1 ∧ o1 ≤ 11 → ((o1 = -1 ∧ k_kw tx q 12 0 q = k_kw tx q (12 - x).toNat x far) ∨ (o1 ≠ -1 ∧ k_kw tx q 12 0 q = (o1, far))) → m_W D aC s0 6 p l e (m_R 4 (0) (0)) s m args below meth c (0) (0) (m_Q D aC s0 below (fun v M' => v = some (VI (k_kw tx q 12 0 q).1) ∧ mmV a (rW w (if (k_kw tx q 12 0 q).1 = -1 then q else q + (s_of ((k_kw tx q 12 0 q).1 + 1) - s_of (k_kw tx q 12 0 q).1)) (if (k_kw tx q 12 0 q).1 = -1 then (k_kw tx q 12 0 q).2 else wr)) g M' ∧ m_fr a 10 M M') m_nx args s (0) (0)) 9 [(3, VI x), (2, VI o1), (1, VI far), (0, .ref a)] [] M := by
    intro n
    induction n with
    | zero =>
      intro x o1 far hn h0 hfa ho hkw
      split at hn <;> omega
    | succ n ih =>
      intro x o1 far hn h0 hfa ho hkw
      refine m_iload_n hC 0 dX10_kindHere_9 rfl rfl ?_
      refine m_bipush hC dX10_kindHere_10 (by decide) ?_
      refine m_icmp_ge (tgt := 121) hC dX10_kindHere_12 (by decide) (by first | omega | (simp [hs_at] <;> omega)) (fun c12 => ?_) (fun c12 => ?_)
      · refine m_aload_n hC 3 dX10_kindHere_121 rfl rfl ?_
        refine m_iload_n hC 1 dX10_kindHere_122 rfl rfl ?_
        refine m_iconst hC dX10_kindHere_123 ?_
        refine m_icmp_ne (tgt := 131) hC dX10_kindHere_124 (by decide) (by first | omega | (simp [hs_at] <;> omega)) (fun c124 => ?_) (fun c124 => ?_)
        · refine m_aload_n hC 3 dX10_kindHere_131 rfl rfl ?_
          refine m_getf hC dX10_kindHere_132 kf_X10_216 hV.ob rfl ?_
          refine m_ws17 hC hV ha dX10_kindHere_135 kf_X10_216 (fun M1 R2 f3 => ?_)
          refine m_aload_n hC 3 dX10_kindHere_138 rfl rfl ?_
          refine m_dup hC dX10_kindHere_139 rfl ?_
          refine m_getf hC dX10_kindHere_140 kf_X10_210 R2.ob rfl ?_
          refine m_iload_n hC 1 dX10_kindHere_143 rfl rfl ?_
          refine m_iconst hC dX10_kindHere_144 ?_
          refine m_icmp_ne (tgt := 152) hC dX10_kindHere_145 (by decide) (by first | omega | (simp [hs_at] <;> omega)) (fun c145 => ?_) (fun c145 => ?_)
          · refine m_iload_n hC 1 dX10_kindHere_152 rfl rfl ?_
            refine m_iconst hC dX10_kindHere_153 ?_
            refine m_iadd hC dX10_kindHere_154 ?_
            refine m_callS hC (t_X10_startOf hF hl (x := (o1 + 1)) (by omega)) dX10_kindHere_155 kc_X10_startOf kS_X10_228 rfl rfl (Nat.le_of_ble_eq_true rfl) (by decide) (by decide) m_nox (fun v9 M4 h9 => ?_)
            obtain ⟨rfl, h9⟩ := h9
            replace h9 := h9.symm
            subst h9
            refine m_iload_n hC 1 dX10_kindHere_158 rfl rfl ?_
            refine m_callS hC (t_X10_startOf hF hl (x := o1) (by omega)) dX10_kindHere_159 kc_X10_startOf kS_X10_228 rfl rfl (Nat.le_of_ble_eq_true rfl) (by decide) (by decide) m_nox (fun v9 M5 h9 => ?_)
            obtain ⟨rfl, h9⟩ := h9
            replace h9 := h9.symm
            subst h9
            refine m_isub hC dX10_kindHere_162 ?_
            refine m_iadd hC dX10_kindHere_163 ?_
            refine m_ws16 hC R2 ha dX10_kindHere_164 kf_X10_210 (fun M6 R7 f8 => ?_)
            refine m_iload_n hC 1 dX10_kindHere_167 rfl rfl ?_
            exact m_iret hC dX10_kindHere_168 hr (by decide) (by decide) (X_kendB c124 hkw R7 (f3.tr f8))
          · exact absurd c145 c124
        · refine m_iload_n hC 2 dX10_kindHere_127 rfl rfl ?_
          refine m_goto (tgt := 135) hC dX10_kindHere_128 (by decide) ?_
          refine m_ws17 hC hV ha dX10_kindHere_135 kf_X10_216 (fun M9 R10 f11 => ?_)
          refine m_aload_n hC 3 dX10_kindHere_138 rfl rfl ?_
          refine m_dup hC dX10_kindHere_139 rfl ?_
          refine m_getf hC dX10_kindHere_140 kf_X10_210 R10.ob rfl ?_
          refine m_iload_n hC 1 dX10_kindHere_143 rfl rfl ?_
          refine m_iconst hC dX10_kindHere_144 ?_
          refine m_icmp_ne (tgt := 152) hC dX10_kindHere_145 (by decide) (by first | omega | (simp [hs_at] <;> omega)) (fun c145 => ?_) (fun c145 => ?_)
          · exact absurd c124 c145
          · refine m_iconst hC dX10_kindHere_148 ?_
            refine m_goto (tgt := 163) hC dX10_kindHere_149 (by decide) ?_
            refine m_iadd hC dX10_kindHere_163 ?_
            refine m_ws16 hC R10 ha dX10_kindHere_164 kf_X10_210 (fun M12 R13 f14 => ?_)
            refine m_iload_n hC 1 dX10_kindHere_167 rfl rfl ?_
            exact m_iret hC dX10_kindHere_168 hr (by decide) (by decide) (X_kendA c124 hkw (by omega) R13 (f11.tr f14))
      · refine m_iload_n hC 1 dX10_kindHere_15 rfl rfl ?_
        refine m_iconst hC dX10_kindHere_16 ?_
        refine m_icmp_ne (tgt := 121) hC dX10_kindHere_17 (by decide) (by first | omega | (simp [hs_at] <;> omega)) (fun c17 => ?_) (fun c17 => ?_)
        · refine m_aload_n hC 3 dX10_kindHere_121 rfl rfl ?_
          refine m_iload_n hC 1 dX10_kindHere_122 rfl rfl ?_
          refine m_iconst hC dX10_kindHere_123 ?_
          refine m_icmp_ne (tgt := 131) hC dX10_kindHere_124 (by decide) (by first | omega | (simp [hs_at] <;> omega)) (fun c124 => ?_) (fun c124 => ?_)
          · refine m_aload_n hC 3 dX10_kindHere_131 rfl rfl ?_
            refine m_getf hC dX10_kindHere_132 kf_X10_216 hV.ob rfl ?_
            refine m_ws17 hC hV ha dX10_kindHere_135 kf_X10_216 (fun M15 R16 f17 => ?_)
            refine m_aload_n hC 3 dX10_kindHere_138 rfl rfl ?_
            refine m_dup hC dX10_kindHere_139 rfl ?_
            refine m_getf hC dX10_kindHere_140 kf_X10_210 R16.ob rfl ?_
            refine m_iload_n hC 1 dX10_kindHere_143 rfl rfl ?_
            refine m_iconst hC dX10_kindHere_144 ?_
            refine m_icmp_ne (tgt := 152) hC dX10_kindHere_145 (by decide) (by first | omega | (simp [hs_at] <;> omega)) (fun c145 => ?_) (fun c145 => ?_)
            · refine m_iload_n hC 1 dX10_kindHere_152 rfl rfl ?_
              refine m_iconst hC dX10_kindHere_153 ?_
              refine m_iadd hC dX10_kindHere_154 ?_
              refine m_callS hC (t_X10_startOf hF hl (x := (o1 + 1)) (by omega)) dX10_kindHere_155 kc_X10_startOf kS_X10_228 rfl rfl (Nat.le_of_ble_eq_true rfl) (by decide) (by decide) m_nox (fun v9 M18 h9 => ?_)
              obtain ⟨rfl, h9⟩ := h9
              replace h9 := h9.symm
              subst h9
              refine m_iload_n hC 1 dX10_kindHere_158 rfl rfl ?_
              refine m_callS hC (t_X10_startOf hF hl (x := o1) (by omega)) dX10_kindHere_159 kc_X10_startOf kS_X10_228 rfl rfl (Nat.le_of_ble_eq_true rfl) (by decide) (by decide) m_nox (fun v9 M19 h9 => ?_)
              obtain ⟨rfl, h9⟩ := h9
              replace h9 := h9.symm
              subst h9
              refine m_isub hC dX10_kindHere_162 ?_
              refine m_iadd hC dX10_kindHere_163 ?_
              refine m_ws16 hC R16 ha dX10_kindHere_164 kf_X10_210 (fun M20 R21 f22 => ?_)
              refine m_iload_n hC 1 dX10_kindHere_167 rfl rfl ?_
              exact m_iret hC dX10_kindHere_168 hr (by decide) (by decide) (X_kendB c124 hkw R21 (f17.tr f22))
            · exact absurd c145 c124
          · refine m_iload_n hC 2 dX10_kindHere_127 rfl rfl ?_
            refine m_goto (tgt := 135) hC dX10_kindHere_128 (by decide) ?_
            refine m_ws17 hC hV ha dX10_kindHere_135 kf_X10_216 (fun M23 R24 f25 => ?_)
            refine m_aload_n hC 3 dX10_kindHere_138 rfl rfl ?_
            refine m_dup hC dX10_kindHere_139 rfl ?_
            refine m_getf hC dX10_kindHere_140 kf_X10_210 R24.ob rfl ?_
            refine m_iload_n hC 1 dX10_kindHere_143 rfl rfl ?_
            refine m_iconst hC dX10_kindHere_144 ?_
            refine m_icmp_ne (tgt := 152) hC dX10_kindHere_145 (by decide) (by first | omega | (simp [hs_at] <;> omega)) (fun c145 => ?_) (fun c145 => ?_)
            · exact absurd c124 c145
            · refine m_iconst hC dX10_kindHere_148 ?_
              refine m_goto (tgt := 163) hC dX10_kindHere_149 (by decide) ?_
              refine m_iadd hC dX10_kindHere_163 ?_
              refine m_ws16 hC R24 ha dX10_kindHere_164 kf_X10_210 (fun M26 R27 f28 => ?_)
              refine m_iload_n hC 1 dX10_kindHere_167 rfl rfl ?_
              exact m_iret hC dX10_kindHere_168 hr (by decide) (by decide) (X_kendA c124 hkw (by omega) R27 (f25.tr f28))
        · have hs := s_of_rg (x := x) (by omega)
          refine m_iload_n hC 0 dX10_kindHere_20 rfl rfl ?_
          refine m_iconst hC dX10_kindHere_21 ?_
          refine m_iadd hC dX10_kindHere_22 ?_
          refine m_callS hC (t_X10_startOf hF hl (x := (x + 1)) (by omega)) dX10_kindHere_23 kc_X10_startOf kS_X10_228 rfl rfl (Nat.le_of_ble_eq_true rfl) (by decide) (by decide) m_nox (fun v9 M29 h9 => ?_)
          obtain ⟨rfl, h9⟩ := h9
          replace h9 := h9.symm
          subst h9
          refine m_iload_n hC 0 dX10_kindHere_26 rfl rfl ?_
          refine m_callS hC (t_X10_startOf hF hl (x := x) (by omega)) dX10_kindHere_27 kc_X10_startOf kS_X10_228 rfl rfl (Nat.le_of_ble_eq_true rfl) (by decide) (by decide) m_nox (fun v9 M30 h9 => ?_)
          obtain ⟨rfl, h9⟩ := h9
          replace h9 := h9.symm
          subst h9
          refine m_isub hC dX10_kindHere_30 ?_
          refine m_istore hC dX10_kindHere_31 (by decide) rfl ?_
          refine m_iconst hC dX10_kindHere_33 ?_
          refine m_istore hC dX10_kindHere_34 (by decide) rfl ?_
          have L2 : ∀ (n2 : Nat) (k : Int), 8 - k < (n2 : Int) → 0 ≤ k → k ≤ s_of (x + 1) - s_of x → q + k ≤ (tx.length : Int) → k_m tx q x = k_mt tx q (s_of x) (s_of (x + 1) - s_of x - k).toNat k → m_W D aC s0 6 p l e (m_R 4 (0) (0)) s m args below meth c (0) (0) (m_Q D aC s0 below (fun v M' => v = some (VI (k_kw tx q 12 0 q).1) ∧ mmV a (rW w (if (k_kw tx q 12 0 q).1 = -1 then q else q + (s_of ((k_kw tx q 12 0 q).1 + 1) - s_of (k_kw tx q 12 0 q).1)) (if (k_kw tx q 12 0 q).1 = -1 then (k_kw tx q 12 0 q).2 else wr)) g M' ∧ m_fr a 10 M M') m_nx args s (0) (0)) 36 [(5, VI k), (4, VI (s_of (x + 1) - s_of x)), (3, VI x), (2, VI o1), (1, VI far), (0, .ref a)] [] M := by
            intro n2
            induction n2 with
            | zero =>
              intro k hn2 k0 k1 k2 hkm2
              omega
            | succ n2 ih2 =>
              intro k hn2 k0 k1 k2 hkm2
              refine m_iload hC 0 dX10_kindHere_36 rfl ?_
              refine m_iload hC 1 dX10_kindHere_38 rfl ?_
              refine m_icmp_ge (tgt := 90) hC dX10_kindHere_40 (by decide) (by first | omega | (simp [hs_at] <;> omega)) (fun c40 => ?_) (fun c40 => ?_)
              · have hk0 : 0 ≤ k ∧ q + k ≤ (tx.length : Int) := ⟨k0, k2⟩
                have hkm : k_m tx q x = k := X_km0 hkm2 (by omega) (by first | (left; omega) | (right; intro zz; obtain ⟨z1, z2⟩ := zz; first | omega | exact absurd z2 c81))
                refine m_iload_n hC 4 dX10_kindHere_90 rfl rfl ?_
                refine m_aload_n hC 5 dX10_kindHere_91 rfl rfl ?_
                refine m_getf hC dX10_kindHere_92 kf_X10_210 hV.ob rfl ?_
                refine m_iload hC 0 dX10_kindHere_95 rfl ?_
                refine m_iadd hC dX10_kindHere_97 ?_
                refine m_mmax hC dX10_kindHere_98 kM_X10_90 (by first | omega | (simp [hs_at] <;> omega)) (by decide) (Nat.le_of_ble_eq_true rfl) (by decide) (by decide) ?_
                refine m_istore_n hC dX10_kindHere_101 rfl (by decide) rfl ?_
                refine m_iload hC 1 dX10_kindHere_102 rfl ?_
                refine m_iload hC 2 dX10_kindHere_104 rfl ?_
                refine m_icmp_ne (tgt := 113) hC dX10_kindHere_106 (by decide) (by first | omega | (simp [hs_at] <;> omega)) (fun c106 => ?_) (fun c106 => ?_)
                · refine m_iload_n hC 4 dX10_kindHere_113 rfl rfl ?_
                  refine m_istore_n hC dX10_kindHere_114 rfl (by decide) rfl ?_
                  refine m_iinc hC 4 dX10_kindHere_115 rfl (by decide) rfl ?_
                  refine m_goto (tgt := 9) hC dX10_kindHere_118 (by decide) ?_
                  refine m_lvs [0, 1, 2, 5] rfl (ih (x + 1) o1 (max far (q + k)) (by omega) (by omega) (by omega) ho (Or.inl ⟨c17, X_kw2 h0 (by omega) c17 hkw hkm (by omega)⟩))
                · refine m_iload_n hC 3 dX10_kindHere_109 rfl rfl ?_
                  refine m_goto (tgt := 114) hC dX10_kindHere_110 (by decide) ?_
                  refine m_istore_n hC dX10_kindHere_114 rfl (by decide) rfl ?_
                  refine m_iinc hC 4 dX10_kindHere_115 rfl (by decide) rfl ?_
                  refine m_goto (tgt := 9) hC dX10_kindHere_118 (by decide) ?_
                  refine m_lvs [0, 1, 2, 5] rfl (ih (x + 1) x (max far (q + k)) (by rw [if_neg (by omega)]; have := hn; rw [if_pos c17] at this; omega) (by omega) (by omega) (by omega) (Or.inr ⟨by omega, X_kw1 h0 (by omega) c17 hkw hkm (by omega)⟩))
              · refine m_aload_n hC 5 dX10_kindHere_43 rfl rfl ?_
                refine m_getf hC dX10_kindHere_44 kf_X10_210 hV.ob rfl ?_
                refine m_iload hC 0 dX10_kindHere_47 rfl ?_
                refine m_iadd hC dX10_kindHere_49 ?_
                refine m_aload_n hC 5 dX10_kindHere_50 rfl rfl ?_
                refine m_getf hC dX10_kindHere_51 kf_X10_213 hV.ob rfl ?_
                refine m_icmp_ge (tgt := 90) hC dX10_kindHere_54 (by decide) (by first | omega | (simp [hs_at] <;> omega)) (fun c54 => ?_) (fun c54 => ?_)
                · have hk0 : 0 ≤ k ∧ q + k ≤ (tx.length : Int) := ⟨k0, k2⟩
                  have hkm : k_m tx q x = k := X_km0 hkm2 (by omega) (by first | (left; omega) | (right; intro zz; obtain ⟨z1, z2⟩ := zz; first | omega | exact absurd z2 c81))
                  refine m_iload_n hC 4 dX10_kindHere_90 rfl rfl ?_
                  refine m_aload_n hC 5 dX10_kindHere_91 rfl rfl ?_
                  refine m_getf hC dX10_kindHere_92 kf_X10_210 hV.ob rfl ?_
                  refine m_iload hC 0 dX10_kindHere_95 rfl ?_
                  refine m_iadd hC dX10_kindHere_97 ?_
                  refine m_mmax hC dX10_kindHere_98 kM_X10_90 (by first | omega | (simp [hs_at] <;> omega)) (by decide) (Nat.le_of_ble_eq_true rfl) (by decide) (by decide) ?_
                  refine m_istore_n hC dX10_kindHere_101 rfl (by decide) rfl ?_
                  refine m_iload hC 1 dX10_kindHere_102 rfl ?_
                  refine m_iload hC 2 dX10_kindHere_104 rfl ?_
                  refine m_icmp_ne (tgt := 113) hC dX10_kindHere_106 (by decide) (by first | omega | (simp [hs_at] <;> omega)) (fun c106 => ?_) (fun c106 => ?_)
                  · refine m_iload_n hC 4 dX10_kindHere_113 rfl rfl ?_
                    refine m_istore_n hC dX10_kindHere_114 rfl (by decide) rfl ?_
                    refine m_iinc hC 4 dX10_kindHere_115 rfl (by decide) rfl ?_
                    refine m_goto (tgt := 9) hC dX10_kindHere_118 (by decide) ?_
                    refine m_lvs [0, 1, 2, 5] rfl (ih (x + 1) o1 (max far (q + k)) (by omega) (by omega) (by omega) ho (Or.inl ⟨c17, X_kw2 h0 (by omega) c17 hkw hkm (by omega)⟩))
                  · refine m_iload_n hC 3 dX10_kindHere_109 rfl rfl ?_
                    refine m_goto (tgt := 114) hC dX10_kindHere_110 (by decide) ?_
                    refine m_istore_n hC dX10_kindHere_114 rfl (by decide) rfl ?_
                    refine m_iinc hC 4 dX10_kindHere_115 rfl (by decide) rfl ?_
                    refine m_goto (tgt := 9) hC dX10_kindHere_118 (by decide) ?_
                    refine m_lvs [0, 1, 2, 5] rfl (ih (x + 1) x (max far (q + k)) (by rw [if_neg (by omega)]; have := hn; rw [if_pos c17] at this; omega) (by omega) (by omega) (by omega) (Or.inr ⟨by omega, X_kw1 h0 (by omega) c17 hkw hkm (by omega)⟩))
                · have ht : rW w q wr 7 (q + k) = tx.getD (q + k).toNat 0 := by have := hX.2.2.1 (q + k).toNat (by omega); rw [show (((q + k).toNat : Nat) : Int) = q + k by omega] at this; exact this
                  have htr := hX.2.2.2 (q + k).toNat
                  have hzr := hN.2.2.2.2.2.1 (s_of x + k).toNat
                  refine m_aload_n hC 5 dX10_kindHere_57 rfl rfl ?_
                  refine m_getf hC dX10_kindHere_58 kf_X10_35 hV.ob rfl ?_
                  refine m_aload_n hC 5 dX10_kindHere_61 rfl rfl ?_
                  refine m_getf hC dX10_kindHere_62 kf_X10_210 hV.ob rfl ?_
                  refine m_iload hC 0 dX10_kindHere_65 rfl ?_
                  refine m_iadd hC dX10_kindHere_67 ?_
                  refine m_iald hC dX10_kindHere_68 hV.c7 (by decide) (by show 0 ≤ q + k ∧ q + k < 60; omega) ?_
                  rw [show rW w q wr 7 (rW w q wr 0 16 + k) = tx.getD (q + k).toNat 0 from ht]
                  refine m_ldcs hC dX10_kindHere_69 hN.1 ?_
                  refine m_iload_n hC 2 dX10_kindHere_71 rfl rfl ?_
                  refine m_callS hC (t_X10_startOf hF hl (x := x) (by omega)) dX10_kindHere_72 kc_X10_startOf kS_X10_228 rfl rfl (Nat.le_of_ble_eq_true rfl) (by decide) (by decide) m_nox (fun v9 M31 h9 => ?_)
                  obtain ⟨rfl, h9⟩ := h9
                  replace h9 := h9.symm
                  subst h9
                  refine m_iload hC 0 dX10_kindHere_75 rfl ?_
                  refine m_iadd hC dX10_kindHere_77 ?_
                  refine m_callVr hC (t_J0_charAt_5068e hF hl hJ hN.2 (i := s_of x + k) (by show 0 ≤ s_of x + k ∧ s_of x + k < 70; omega)) dX10_kindHere_78 kc_J0_charAt_5068e kV_X10_233 rfl (m_old hC hN.2.1) rfl rfl (Nat.le_of_ble_eq_true rfl) (by decide) (by decide) m_nox (fun v9 M9 h9 => ?_)
                  obtain ⟨rfl, h9⟩ := h9
                  replace h9 := h9.symm
                  subst h9
                  refine m_icmp_ne (tgt := 90) hC dX10_kindHere_81 (by decide) (by first | omega | (simp [hs_at] <;> omega)) (fun c81 => ?_) (fun c81 => ?_)
                  · have hk0 : 0 ≤ k ∧ q + k ≤ (tx.length : Int) := ⟨k0, k2⟩
                    have hkm : k_m tx q x = k := X_km0 hkm2 (by omega) (by first | (left; omega) | (right; intro zz; obtain ⟨z1, z2⟩ := zz; first | omega | exact absurd z2 c81))
                    refine m_iload_n hC 4 dX10_kindHere_90 rfl rfl ?_
                    refine m_aload_n hC 5 dX10_kindHere_91 rfl rfl ?_
                    refine m_getf hC dX10_kindHere_92 kf_X10_210 hV.ob rfl ?_
                    refine m_iload hC 0 dX10_kindHere_95 rfl ?_
                    refine m_iadd hC dX10_kindHere_97 ?_
                    refine m_mmax hC dX10_kindHere_98 kM_X10_90 (by first | omega | (simp [hs_at] <;> omega)) (by decide) (Nat.le_of_ble_eq_true rfl) (by decide) (by decide) ?_
                    refine m_istore_n hC dX10_kindHere_101 rfl (by decide) rfl ?_
                    refine m_iload hC 1 dX10_kindHere_102 rfl ?_
                    refine m_iload hC 2 dX10_kindHere_104 rfl ?_
                    refine m_icmp_ne (tgt := 113) hC dX10_kindHere_106 (by decide) (by first | omega | (simp [hs_at] <;> omega)) (fun c106 => ?_) (fun c106 => ?_)
                    · refine m_iload_n hC 4 dX10_kindHere_113 rfl rfl ?_
                      refine m_istore_n hC dX10_kindHere_114 rfl (by decide) rfl ?_
                      refine m_iinc hC 4 dX10_kindHere_115 rfl (by decide) rfl ?_
                      refine m_goto (tgt := 9) hC dX10_kindHere_118 (by decide) ?_
                      refine m_lvs [0, 1, 2, 5] rfl (ih (x + 1) o1 (max far (q + k)) (by omega) (by omega) (by omega) ho (Or.inl ⟨c17, X_kw2 h0 (by omega) c17 hkw hkm (by omega)⟩))
                    · refine m_iload_n hC 3 dX10_kindHere_109 rfl rfl ?_
                      refine m_goto (tgt := 114) hC dX10_kindHere_110 (by decide) ?_
                      refine m_istore_n hC dX10_kindHere_114 rfl (by decide) rfl ?_
                      refine m_iinc hC 4 dX10_kindHere_115 rfl (by decide) rfl ?_
                      refine m_goto (tgt := 9) hC dX10_kindHere_118 (by decide) ?_
                      refine m_lvs [0, 1, 2, 5] rfl (ih (x + 1) x (max far (q + k)) (by rw [if_neg (by omega)]; have := hn; rw [if_pos c17] at this; omega) (by omega) (by omega) (by omega) (Or.inr ⟨by omega, X_kw1 h0 (by omega) c17 hkw hkm (by omega)⟩))
                  · refine m_iinc hC 0 dX10_kindHere_84 rfl (by decide) rfl ?_
                    refine m_goto (tgt := 36) hC dX10_kindHere_87 (by decide) ?_
                    refine m_lvs [0, 1, 2, 3, 4, 5] rfl (ih2 (k + 1) (by omega) (by omega) (by omega) (by omega) (X_km1 hkm2 (by omega) (by omega) c81))
          refine m_lvs [0, 1, 2, 3, 4, 5] rfl (L2 9 0 (by omega) (by omega) (by omega) (by omega) (by rw [Int.sub_zero]; rfl))
  refine m_lvs [0, 1, 2, 3] rfl (L 14 0 (-1) q (by decide) (by decide) hq (by decide) (Or.inl ⟨rfl, rfl⟩))

