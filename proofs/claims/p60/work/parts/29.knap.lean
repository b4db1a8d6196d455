section
variable {D : va_G} {aC : Nat → ClassId} {s0 : State} {own : String} {cc : ByteArray} {nL : Nat} {p : Program} {l : Launch} {e : Env} {R : Room} {s : State} {m : MethodId} {args : Array Value} {below : List Frame} {meth : Method} {c : Code} {cells slots : Nat} {Q : State → Prop} {pc : Nat} {lv : List (Nat × Value)} {st : List Value} {M : m_M}
theorem m_ishl (C : m_C D aC s0 own cc nL l p s m args meth c) {a b z : Int} (hd : decode cc pc = .ok (.ishl, 1)) (hz : Int32.ofInt a <<< (Int32.ofInt b &&& 31) = Int32.ofInt z) (k : m_W D aC s0 nL p l e R s m args below meth c cells slots Q (pc + 1) lv (VI z :: st) M) : m_W D aC s0 nL p l e R s m args below meth c cells slots Q pc lv (VI b :: VI a :: st) M := fun H locs ls h1 h2 h3 => lv_ishl C.1 C.2.1 hd (by rw [hz]; exact k H locs ls h1 h2 h3)
theorem m_ishr (C : m_C D aC s0 own cc nL l p s m args meth c) {a b z : Int} (hd : decode cc pc = .ok (.ishr, 1)) (hz : Int32.ofInt a >>> (Int32.ofInt b &&& 31) = Int32.ofInt z) (k : m_W D aC s0 nL p l e R s m args below meth c cells slots Q (pc + 1) lv (VI z :: st) M) : m_W D aC s0 nL p l e R s m args below meth c cells slots Q pc lv (VI b :: VI a :: st) M := fun H locs ls h1 h2 h3 => lv_ishr C.1 C.2.1 hd (by rw [hz]; exact k H locs ls h1 h2 h3)
theorem m_iand (C : m_C D aC s0 own cc nL l p s m args meth c) {a b z : Int} (hd : decode cc pc = .ok (.iand, 1)) (hz : Int32.ofInt a &&& Int32.ofInt b = Int32.ofInt z) (k : m_W D aC s0 nL p l e R s m args below meth c cells slots Q (pc + 1) lv (VI z :: st) M) : m_W D aC s0 nL p l e R s m args below meth c cells slots Q pc lv (VI b :: VI a :: st) M := fun H locs ls h1 h2 h3 => lv_iand C.1 C.2.1 hd (by rw [hz]; exact k H locs ls h1 h2 h3)
theorem m_gst (C : m_C D aC s0 own cc nL l p s m args meth c) {a n : Nat} {g : Int → Int} {i z : Int} (hd : decode cc pc = .ok (.iastore, 1)) (hM : M.2 a = some (m_ia 0 n g)) (ha : s0.heap.size ≤ a) (hn : n < 2147483648) (h : 0 ≤ i ∧ i < (n : Int)) (kk : ∀ M1 : m_M, M1.2 a = some (m_ia 0 n (m_ug g i z)) → m_fr a 1 M M1 → m_W D aC s0 nL p l e R s m args below meth c cells slots Q (pc + 1) lv st M1) : m_W D aC s0 nL p l e R s m args below meth c cells slots Q pc lv (VI z :: VI i :: .ref a :: st) M := m_iast C hd hM ha hn h (kk _ m_up_eq (m_fr.up (by omega) (by omega)))
end
theorem k_shl {n : Int} (h : 0 ≤ n ∧ n ≤ 8) : Int32.ofInt 1 <<< (Int32.ofInt n &&& 31) = Int32.ofInt (2 ^ n.toNat) := by
  have key : ∀ k : Fin 9, Int32.ofInt 1 <<< (Int32.ofInt ((k : Nat) : Int) &&& 31) = Int32.ofInt (2 ^ (k : Nat)) := by decide +kernel
  have := key ⟨n.toNat, by omega⟩
  rw [show (((⟨n.toNat, by omega⟩ : Fin 9) : Nat) : Int) = n by show ((n.toNat : Nat) : Int) = n; omega] at this
  exact this
theorem k_shr {a n : Int} (ha : 0 ≤ a ∧ a < 256) (h : 0 ≤ n ∧ n < 8) : Int32.ofInt a >>> (Int32.ofInt n &&& 31) = Int32.ofInt ((a.toNat / 2 ^ n.toNat : Nat) : Int) := by
  have key : ∀ k : Fin 8, ∀ q : Fin 256, Int32.ofInt ((q : Nat) : Int) >>> (Int32.ofInt ((k : Nat) : Int) &&& 31) = Int32.ofInt (((q : Nat) / 2 ^ (k : Nat) : Nat) : Int) := by decide +kernel
  have := key ⟨n.toNat, by omega⟩ ⟨a.toNat, by omega⟩
  rw [show (((⟨n.toNat, by omega⟩ : Fin 8) : Nat) : Int) = n by show ((n.toNat : Nat) : Int) = n; omega, show (((⟨a.toNat, by omega⟩ : Fin 256) : Nat) : Int) = a by show ((a.toNat : Nat) : Int) = a; omega] at this
  exact this
theorem k_and {a : Nat} (ha : a < 256) : Int32.ofInt (a : Int) &&& Int32.ofInt 1 = Int32.ofInt ((a % 2 : Nat) : Int) := by
  have key : ∀ q : Fin 256, Int32.ofInt ((q : Nat) : Int) &&& Int32.ofInt 1 = Int32.ofInt (((q : Nat) % 2 : Nat) : Int) := by decide +kernel
  exact key ⟨a, ha⟩
theorem k_divlt {a n : Nat} (ha : a < 256) : a / 2 ^ n < 256 := Nat.lt_of_le_of_lt (Nat.div_le_self _ _) ha
/-- a set of contracts, by its bits, as a walk over it answers -/
def k_w (g : h_T) (x : Int) (s : Nat) : Nat → Int → Int → Int → Int
  | 0, _, _, sm => sm
  | n + 1, i, lft, sm => if s / 2 ^ i.toNat % 2 = 1 then (if g 10 i ≠ x ∨ lft < g 13 i then 0 else k_w g x s n (i + 1) (lft - g 13 i) (sm + g 12 i)) else k_w g x s n (i + 1) lft sm
def k_e (g : h_T) (s : Nat) : Nat → Int
  | 0 => 0
  | n + 1 => k_e g s n + (if s / 2 ^ n % 2 = 1 then g 13 (n : Int) else 0)
def k_v (g : h_T) (s : Nat) : Nat → Int
  | 0 => 0
  | n + 1 => k_v g s n + (if s / 2 ^ n % 2 = 1 then g 12 (n : Int) else 0)
def k_g (g : h_T) (x : Int) (s : Nat) : Nat → Prop
  | 0 => True
  | n + 1 => k_g g x s n ∧ (s / 2 ^ n % 2 = 1 → g 10 (n : Int) = x)
/-- the most wages of the first k contracts, with so much energy -/
def h_ks (g : h_T) (x : Int) : Nat → Int → Int
  | 0, _ => 0
  | k + 1, e => if g 10 (k : Int) = x ∧ g 13 (k : Int) ≤ e then max (h_ks g x k e) (h_ks g x k (e - g 13 (k : Int)) + g 12 (k : Int)) else h_ks g x k e
theorem h_ks_bd {g : h_T} {x : Int} (h : h_B g) : ∀ (k : Nat) (e : Int), (k : Int) ≤ g 0 11 → 0 ≤ h_ks g x k e ∧ h_ks g x k e ≤ 50 * k := by
  intro k
  induction k with
  | zero => intro e _; exact ⟨Int.le_refl _, Int.le_refl _⟩
  | succ k ih =>
    intro e hk
    have c := h.co (i := (k : Int)) (by omega)
    have i1 := ih e (by omega)
    have i2 := ih (e - g 13 (k : Int)) (by omega)
    rw [h_ks]
    split <;> omega
theorem k_e0 {g : h_T} (h : h_B g) (s : Nat) : ∀ (n : Nat), (n : Int) ≤ g 0 11 → 0 ≤ k_e g s n ∧ 0 ≤ k_v g s n := by
  intro n
  induction n with
  | zero => intro _; exact ⟨Int.le_refl _, Int.le_refl _⟩
  | succ n ih =>
    intro hn
    have c := h.co (i := (n : Int)) (by omega)
    have i1 := ih (by omega)
    rw [k_e, k_v]
    split <;> omega
theorem k_mono {g : h_T} {x : Int} (h : h_B g) (s i : Nat) : ∀ (m : Nat), ((i + m : Nat) : Int) ≤ g 0 11 → k_e g s i ≤ k_e g s (i + m) ∧ (k_g g x s (i + m) → k_g g x s i) := by
  intro m
  induction m with
  | zero => intro _; exact ⟨Int.le_refl _, id⟩
  | succ m ih =>
    intro hn
    have c := h.co (i := ((i + m : Nat) : Int)) (by omega)
    have i1 := ih (by omega)
    rw [show i + (m + 1) = (i + m) + 1 from rfl, k_e, k_g]
    refine ⟨?_, fun q => i1.2 q.1⟩
    split <;> omega
theorem k_w_eq {g : h_T} {x : Int} (h : h_B g) (s : Nat) (e : Int) : ∀ (m i : Nat), ((i + m : Nat) : Int) ≤ g 0 11 → k_g g x s i → k_e g s i ≤ e → (k_w g x s m (i : Int) (e - k_e g s i) (k_v g s i) = k_v g s (i + m) ∧ k_g g x s (i + m) ∧ k_e g s (i + m) ≤ e) ∨ (k_w g x s m (i : Int) (e - k_e g s i) (k_v g s i) = 0 ∧ ¬ (k_g g x s (i + m) ∧ k_e g s (i + m) ≤ e)) := by
  intro m
  induction m with
  | zero => intro i _ hg he; exact Or.inl ⟨rfl, hg, he⟩
  | succ m ih =>
    intro i hn hg he
    have c := h.co (i := (i : Int)) (by omega)
    have mo := k_mono (x := x) h s (i + 1) m (by omega)
    have i1 := ih (i + 1) (by omega)
    rw [show i + 1 + m = i + (m + 1) by omega] at mo i1
    rw [k_w, show ((i : Int)).toNat = i from rfl]
    rw [k_e, k_v, k_g] at i1
    rw [k_e, k_g] at mo
    by_cases hb : s / 2 ^ i % 2 = 1
    · rw [if_pos hb] at mo ⊢
      rw [if_pos hb, if_pos hb] at i1
      by_cases hq : g 10 (i : Int) ≠ x ∨ e - k_e g s i < g 13 (i : Int)
      · rw [if_pos hq]
        refine Or.inr ⟨rfl, fun q => ?_⟩
        have q1 := (mo.2 q.1).2 hb
        rcases hq with z | z
        · exact z q1
        · omega
      · rw [if_neg hq]
        have hx : g 10 (i : Int) = x := by omega
        have i2 := i1 ⟨hg, fun _ => hx⟩ (by omega)
        rw [show e - (k_e g s i + g 13 (i : Int)) = e - k_e g s i - g 13 (i : Int) by omega] at i2
        exact i2
    · rw [if_neg hb]
      rw [if_neg hb, if_neg hb, Int.add_zero, Int.add_zero] at i1
      exact i1 ⟨hg, fun z => absurd z hb⟩ he
theorem k_ub {g : h_T} {x : Int} (h : h_B g) (s : Nat) : ∀ (n : Nat) (e : Int), (n : Int) ≤ g 0 11 → k_g g x s n → k_e g s n ≤ e → k_v g s n ≤ h_ks g x n e := by
  intro n
  induction n with
  | zero => intro e _ _ _; exact Int.le_refl _
  | succ n ih =>
    intro e hn hg he
    rw [k_g] at hg
    rw [k_e] at he
    have e0 := k_e0 h s n (by omega)
    rw [k_v, h_ks]
    by_cases hb : s / 2 ^ n % 2 = 1
    · rw [if_pos hb] at he ⊢
      have i2 := ih (e - g 13 (n : Int)) (by omega) hg.1 (by omega)
      rw [if_pos ⟨hg.2 hb, by omega⟩]
      omega
    · rw [if_neg hb] at he ⊢
      have i1 := ih e (by omega) hg.1 (by omega)
      split <;> omega
theorem k_cong {g : h_T} {x : Int} {s s2 : Nat} : ∀ (n : Nat), (∀ i, i < n → s / 2 ^ i % 2 = s2 / 2 ^ i % 2) → k_e g s n = k_e g s2 n ∧ k_v g s n = k_v g s2 n ∧ (k_g g x s n ↔ k_g g x s2 n) := by
  intro n
  induction n with
  | zero => intro _; exact ⟨rfl, rfl, Iff.rfl⟩
  | succ n ih =>
    intro hq
    have i1 := ih (fun i hi => hq i (by omega))
    rw [k_e, k_e, k_v, k_v, k_g, k_g, hq n (by omega), i1.1, i1.2.1, i1.2.2]
    exact ⟨rfl, rfl, Iff.rfl⟩
theorem k_bit_hi {s n : Nat} (h : s < 2 ^ n) : (s + 2 ^ n) / 2 ^ n % 2 = 1 ∧ s / 2 ^ n % 2 = 0 ∧ ∀ i, i < n → (s + 2 ^ n) / 2 ^ i % 2 = s / 2 ^ i % 2 := by
  have hp : 0 < 2 ^ n := Nat.pow_pos (by decide)
  refine ⟨?_, ?_, fun i hi => ?_⟩
  · rw [Nat.add_div_right _ hp, Nat.div_eq_of_lt h]
  · rw [Nat.div_eq_of_lt h]
  · have e1 : 2 ^ n = 2 ^ i * (2 * 2 ^ (n - i - 1)) := by
      rw [← Nat.pow_succ', ← Nat.pow_add]
      congr 1
      omega
    rw [e1, Nat.add_mul_div_left _ _ (Nat.pow_pos (by decide)), Nat.add_mul_mod_self_left]
theorem k_lb {g : h_T} {x : Int} (h : h_B g) : ∀ (n : Nat) (e : Int), 0 ≤ e → (n : Int) ≤ g 0 11 → ∃ s : Nat, s < 2 ^ n ∧ k_g g x s n ∧ k_e g s n ≤ e ∧ k_v g s n = h_ks g x n e := by
  intro n
  induction n with
  | zero => intro e he _; exact ⟨0, by decide, trivial, he, rfl⟩
  | succ n ih =>
    intro e he hn
    have c := h.co (i := (n : Int)) (by omega)
    obtain ⟨s1, a1, a2, a3, a4⟩ := ih e he (by omega)
    have b1 := k_bit_hi a1
    have hp : 2 ^ (n + 1) = 2 ^ n + 2 ^ n := by rw [Nat.pow_succ]; omega
    by_cases hq : (g 10 (n : Int) = x ∧ g 13 (n : Int) ≤ e) ∧ h_ks g x n e < h_ks g x n (e - g 13 (n : Int)) + g 12 (n : Int)
    · obtain ⟨s2, c1, c2, c3, c4⟩ := ih (e - g 13 (n : Int)) (by omega) (by omega)
      have b2 := k_bit_hi c1
      have cg := k_cong (g := g) (x := x) n b2.2.2
      refine ⟨s2 + 2 ^ n, by omega, ?_, ?_, ?_⟩
      · rw [k_g]
        exact ⟨cg.2.2.mpr c2, fun _ => hq.1.1⟩
      · rw [k_e, if_pos b2.1, cg.1]; omega
      · rw [k_v, if_pos b2.1, cg.2.1, c4, h_ks, if_pos hq.1]; omega
    · refine ⟨s1, by omega, ?_, ?_, ?_⟩
      · rw [k_g]
        exact ⟨a2, fun z => absurd z (by omega)⟩
      · rw [k_e, if_neg (by omega)]; omega
      · rw [k_v, if_neg (by omega), a4, h_ks]
        split
        · rename_i z
          have : ¬ h_ks g x n e < h_ks g x n (e - g 13 (n : Int)) + g 12 (n : Int) := fun w => hq ⟨z, w⟩
          omega
        · omega
theorem h_max_ge {f : Int → Int} : ∀ (n : Nat) (j : Int), 0 ≤ j ∧ j < (n : Int) → f j ≤ h_max f n := by
  intro n
  induction n with
  | zero => intro j hj; omega
  | succ n ih =>
    intro j hj
    rw [h_max]
    by_cases hq : j = (n : Int)
    · subst hq; omega
    · have := ih j (by omega); omega
def k_all (g : h_T) (x e : Int) : Int → Int := fun j => k_w g x j.toNat (g 0 11).toNat 0 e 0
theorem k_all_rg {g : h_T} {x e : Int} (h : h_B g) (he : 0 ≤ e) (j : Int) : 0 ≤ k_all g x e j ∧ k_all g x e j ≤ 400 ∧ k_all g x e j ≤ h_ks g x (g 0 11).toNat e := by
  have n11 := h.n11
  have bd := h_ks_bd (x := x) h (g 0 11).toNat e (by omega)
  have q := k_w_eq (x := x) h j.toNat e (g 0 11).toNat 0 (by omega) trivial he
  have e0 := (k_e0 h j.toNat (g 0 11).toNat (by omega)).2
  rw [show ((0 : Nat) : Int) = 0 from rfl, show e - k_e g j.toNat 0 = e from Int.sub_zero e, show k_v g j.toNat 0 = 0 from rfl, Nat.zero_add] at q
  unfold k_all
  rcases q with ⟨q1, q2, q3⟩ | ⟨q1, q2⟩
  · have := k_ub h j.toNat (g 0 11).toNat e (by omega) q2 q3
    rw [q1]; omega
  · rw [q1]; omega
theorem k_best {g : h_T} {x e : Int} (h : h_B g) (he : 0 ≤ e) : h_max (k_all g x e) ((2 : Int) ^ (g 0 11).toNat).toNat = h_ks g x (g 0 11).toNat e := by
  have n11 := h.n11
  have bd := h_ks_bd (x := x) h (g 0 11).toNat e (by omega)
  have hp : (((2 : Int) ^ (g 0 11).toNat).toNat : Int) = 2 ^ (g 0 11).toNat := Int.toNat_of_nonneg (Int.pow_nonneg (by decide))
  have up := h_max_bd (f := k_all g x e) (B := h_ks g x (g 0 11).toNat e) (n := (2 : Int) ^ (g 0 11).toNat) bd.1 (fun j _ => (k_all_rg h he j).2.2)
  obtain ⟨s, a1, a2, a3, a4⟩ := k_lb (x := x) h (g 0 11).toNat e he (by omega)
  have lo := h_max_ge (f := k_all g x e) ((2 : Int) ^ (g 0 11).toNat).toNat (s : Int) ⟨by omega, by rw [hp]; exact_mod_cast a1⟩
  have q := k_w_eq (x := x) h s e (g 0 11).toNat 0 (by omega) trivial he
  rw [show ((0 : Nat) : Int) = 0 from rfl, show e - k_e g s 0 = e from Int.sub_zero e, show k_v g s 0 = 0 from rfl, Nat.zero_add] at q
  have q1 : k_all g x e (s : Int) = k_v g s (g 0 11).toNat := by
    rcases q with q | q
    · exact q.1
    · exact absurd ⟨a2, a3⟩ q.2
  omega

set_option maxHeartbeats 4000000 in
set_option maxRecDepth 100000 in
theorem t_X3_wagesOfSet {D : va_G} {aC : Nat → ClassId} {s0 : State} {l : Launch} (hF : m_F D aC s0) (hl : l.stackTraces = false) {b : Nat} {g : h_T} {M : m_M} (hR : hhR b g M) (hB : h_B g) {z x e9 : Int} (hz : 0 ≤ z ∧ z < 256) (hx : -2147483648 ≤ x ∧ x < 2147483648) (he9 : 0 ≤ e9 ∧ e9 ≤ 1000) : m_Met D aC s0 l yX3_wagesOfSet cX3_wagesOfSet 7 (some .int) 0 (0) (0) [.ref (b + 11), VI z, VI x, VI e9] M (fun v M' => v = some (VI (k_w g x z.toNat (g 0 11).toNat 0 e9 0)) ∧ M' = M) m_nx := by
  refine m_entry (lv := [(0, .ref (b + 11)), (1, VI z), (2, VI x), (3, VI e9)]) (by decide +kernel) (Nat.le_of_ble_eq_true rfl) rfl hF hl ?_
  intro p e s m args below meth c hC hr hno hnm
  change m_C D aC s0 RX3 _ _ _ _ _ _ _ _ _ at hC
  have h11 := hB.n11
  have h9n := hB.n9
  refine m_iconst hC dX3_wagesOfSet_0 ?_
  refine m_istore hC dX3_wagesOfSet_1 (by decide) rfl ?_
  refine m_iload_n hC 4 dX3_wagesOfSet_3 rfl rfl ?_
  refine m_istore hC dX3_wagesOfSet_4 (by decide) rfl ?_
  refine m_iconst hC dX3_wagesOfSet_6 ?_
  refine m_istore hC dX3_wagesOfSet_7 (by decide) rfl ?_
  have L : ∀ (n : Nat) (i lf sm : Int), g 0 11 - i < (n : Int) → 0 ≤ i → i ≤ g 0 11 → 0 ≤ lf ∧ lf ≤ 1000 → 0 ≤ sm ∧ sm ≤ 50 * i → k_w g x z.toNat (g 0 11).toNat 0 e9 0 = k_w g x z.toNat (g 0 11 - i).toNat i lf sm → m_W D aC s0 7 p l e (m_R 0 (0) (0)) s m args below meth c (0) (0) (m_Q D aC s0 below (fun v M' => v = some (VI (k_w g x z.toNat (g 0 11).toNat 0 e9 0)) ∧ M' = M) m_nx args s (0) (0)) 9 [(6, VI i), (5, VI lf), (4, VI sm), (3, VI e9), (2, VI x), (1, VI z), (0, .ref (b + 11))] [] M := by
    intro n
    induction n with
    | zero =>
      intro i lf sm hn h0 h1 hl9 hs9 hS
      omega
    | succ n ih =>
      intro i lf sm hn h0 h1 hl9 hs9 hS
      refine m_iload hC 0 dX3_wagesOfSet_9 rfl ?_
      refine m_aload_n hC 6 dX3_wagesOfSet_11 rfl rfl ?_
      refine m_getf hC dX3_wagesOfSet_12 kf_X3_27 hR.co rfl ?_
      refine m_icmp_ge (tgt := 83) hC dX3_wagesOfSet_15 (by decide) (by first | omega | (simp [hs_at] <;> omega)) (fun c1 => ?_) (fun c1 => ?_)
      · refine m_iload hC 2 dX3_wagesOfSet_83 rfl ?_
        exact m_iret hC dX3_wagesOfSet_85 hr (by decide) (by decide) (⟨by rw [hS, show (g 0 11 - i).toNat = 0 by omega, k_w], rfl⟩)
      · refine m_iload_n hC 5 dX3_wagesOfSet_18 rfl rfl ?_
        refine m_iload hC 0 dX3_wagesOfSet_19 rfl ?_
        refine m_ishr hC dX3_wagesOfSet_21 (z := ((z.toNat / 2 ^ i.toNat : Nat) : Int)) (k_shr (by omega) (by omega)) ?_
        refine m_iconst hC dX3_wagesOfSet_22 ?_
        refine m_iand hC dX3_wagesOfSet_23 (z := ((z.toNat / 2 ^ i.toNat % 2 : Nat) : Int)) (k_and (k_divlt (by omega))) ?_
        refine m_iconst hC dX3_wagesOfSet_24 ?_
        have hq2 : z.toNat / 2 ^ i.toNat % 2 < 2 := Nat.mod_lt _ (by decide)
        generalize hq9 : z.toNat / 2 ^ i.toNat % 2 = q9 at *
        refine m_icmp_ne (tgt := 77) hC dX3_wagesOfSet_25 (by decide) (by first | omega | (simp [hs_at] <;> omega)) (fun c2 => ?_) (fun c2 => ?_)
        · refine m_iinc hC 0 dX3_wagesOfSet_77 rfl (by decide) rfl ?_
          refine m_goto (tgt := 9) hC dX3_wagesOfSet_80 (by decide) ?_
          refine m_lvs [0, 1, 2, 3, 4, 5, 6] rfl (ih (i + 1) _ _ (by omega) (by omega) (by omega) (by omega) (by omega) (by rw [hS, show (g 0 11 - i).toNat = (g 0 11 - (i + 1)).toNat + 1 by omega, k_w, if_neg (by rw [hq9]; omega)]))
        · have hco := hB.co (i := i) (by omega)
          refine m_aload_n hC 6 dX3_wagesOfSet_28 rfl rfl ?_
          refine m_getf hC dX3_wagesOfSet_29 kf_X3_15 hR.co rfl ?_
          refine m_iload hC 0 dX3_wagesOfSet_32 rfl ?_
          refine m_ld10 hC hR dX3_wagesOfSet_34 (by first | omega | (simp [hs_at] <;> omega)) (by first | omega | (simp [hs_at] <;> omega)) ?_
          refine m_iload_n hC 4 dX3_wagesOfSet_35 rfl rfl ?_
          refine m_icmp_ne (tgt := 51) hC dX3_wagesOfSet_36 (by decide) (by first | omega | (simp [hs_at] <;> omega)) (fun c3 => ?_) (fun c3 => ?_)
          · refine m_iconst hC dX3_wagesOfSet_51 ?_
            exact m_iret hC dX3_wagesOfSet_52 hr (by decide) (by decide) (⟨by rw [hS, show (g 0 11 - i).toNat = (g 0 11 - (i + 1)).toNat + 1 by omega, k_w, if_pos (by rw [hq9]; omega), if_pos (by omega)], rfl⟩)
          · refine m_aload_n hC 6 dX3_wagesOfSet_39 rfl rfl ?_
            refine m_getf hC dX3_wagesOfSet_40 kf_X3_24 hR.co rfl ?_
            refine m_iload hC 0 dX3_wagesOfSet_43 rfl ?_
            refine m_ld13 hC hR dX3_wagesOfSet_45 (by first | omega | (simp [hs_at] <;> omega)) (by first | omega | (simp [hs_at] <;> omega)) ?_
            refine m_iload hC 1 dX3_wagesOfSet_46 rfl ?_
            refine m_icmp_le (tgt := 53) hC dX3_wagesOfSet_48 (by decide) (by first | omega | (simp [hs_at] <;> omega)) (fun c4 => ?_) (fun c4 => ?_)
            · refine m_iload hC 1 dX3_wagesOfSet_53 rfl ?_
              refine m_aload_n hC 6 dX3_wagesOfSet_55 rfl rfl ?_
              refine m_getf hC dX3_wagesOfSet_56 kf_X3_24 hR.co rfl ?_
              refine m_iload hC 0 dX3_wagesOfSet_59 rfl ?_
              refine m_ld13 hC hR dX3_wagesOfSet_61 (by first | omega | (simp [hs_at] <;> omega)) (by first | omega | (simp [hs_at] <;> omega)) ?_
              refine m_isub hC dX3_wagesOfSet_62 ?_
              refine m_istore hC dX3_wagesOfSet_63 (by decide) rfl ?_
              refine m_iload hC 2 dX3_wagesOfSet_65 rfl ?_
              refine m_aload_n hC 6 dX3_wagesOfSet_67 rfl rfl ?_
              refine m_getf hC dX3_wagesOfSet_68 kf_X3_21 hR.co rfl ?_
              refine m_iload hC 1 dX3_wagesOfSet_71 rfl ?_
              refine m_ld12 hC hR dX3_wagesOfSet_73 (by first | omega | (simp [hs_at] <;> omega)) (by first | omega | (simp [hs_at] <;> omega)) ?_
              refine m_iadd hC dX3_wagesOfSet_74 ?_
              refine m_istore hC dX3_wagesOfSet_75 (by decide) rfl ?_
              refine m_iinc hC 2 dX3_wagesOfSet_77 rfl (by decide) rfl ?_
              refine m_goto (tgt := 9) hC dX3_wagesOfSet_80 (by decide) ?_
              refine m_lvs [0, 2, 1, 3, 4, 5, 6] rfl (ih (i + 1) _ _ (by omega) (by omega) (by omega) (by omega) (by omega) (by rw [hS, show (g 0 11 - i).toNat = (g 0 11 - (i + 1)).toNat + 1 by omega, k_w, if_pos (by rw [hq9]; omega), if_neg (by omega)]))
            · refine m_iconst hC dX3_wagesOfSet_51 ?_
              exact m_iret hC dX3_wagesOfSet_52 hr (by decide) (by decide) (⟨by rw [hS, show (g 0 11 - i).toNat = (g 0 11 - (i + 1)).toNat + 1 by omega, k_w, if_pos (by rw [hq9]; omega), if_pos (by omega)], rfl⟩)
  refine m_lvs [0, 1, 2, 6, 5, 4, 3] rfl (L ((g 0 11 - 0).toNat + 1) 0 e9 0 (by omega) (by omega) (by omega) (by omega) (by omega) (by rw [Int.sub_zero]))

set_option maxHeartbeats 4000000 in
set_option maxRecDepth 100000 in
theorem t_X3_bestOfAllSets {D : va_G} {aC : Nat → ClassId} {s0 : State} {l : Launch} (hF : m_F D aC s0) (hl : l.stackTraces = false) {b : Nat} {g : h_T} {M : m_M} (hR : hhR b g M) (hB : h_B g) {x e9 : Int} (hx : -2147483648 ≤ x ∧ x < 2147483648) (he9 : 0 ≤ e9 ∧ e9 ≤ 1000) : m_Met D aC s0 l yX3_bestOfAllSets cX3_bestOfAllSets 5 (some .int) 1 (0) (0) [.ref (b + 11), VI x, VI e9] M (fun v M' => v = some (VI (h_ks g x (g 0 11).toNat e9)) ∧ M' = M) m_nx := by
  refine m_entry (lv := [(0, .ref (b + 11)), (1, VI x), (2, VI e9)]) (by decide +kernel) (Nat.le_of_ble_eq_true rfl) rfl hF hl ?_
  intro p e s m args below meth c hC hr hno hnm
  change m_C D aC s0 RX3 _ _ _ _ _ _ _ _ _ at hC
  have h11 := hB.n11
  have h9n := hB.n9
  have hP9 : (1 : Int) ≤ 2 ^ (g 0 11).toNat ∧ (2 : Int) ^ (g 0 11).toNat ≤ 256 := by
    have key : ∀ k : Fin 9, (1 : Int) ≤ 2 ^ (k : Nat) ∧ (2 : Int) ^ (k : Nat) ≤ 256 := by decide
    exact key ⟨(g 0 11).toNat, by omega⟩
  refine m_iconst hC dX3_bestOfAllSets_0 ?_
  refine m_istore_n hC dX3_bestOfAllSets_1 rfl (by decide) rfl ?_
  refine m_iconst hC dX3_bestOfAllSets_2 ?_
  refine m_istore hC dX3_bestOfAllSets_3 (by decide) rfl ?_
  have L : ∀ (n : Nat) (z : Int), 2 ^ (g 0 11).toNat - z < (n : Int) → 0 ≤ z → z ≤ 2 ^ (g 0 11).toNat → m_W D aC s0 5 p l e (m_R 1 (0) (0)) s m args below meth c (0) (0) (m_Q D aC s0 below (fun v M' => v = some (VI (h_ks g x (g 0 11).toNat e9)) ∧ M' = M) m_nx args s (0) (0)) 5 [(4, VI z), (3, VI (h_max (k_all g x e9) z.toNat)), (2, VI e9), (1, VI x), (0, .ref (b + 11))] [] M := by
    intro n
    induction n with
    | zero =>
      intro z hn h0 h1
      omega
    | succ n ih =>
      intro z hn h0 h1
      refine m_iload hC 0 dX3_bestOfAllSets_5 rfl ?_
      refine m_iconst hC dX3_bestOfAllSets_7 ?_
      refine m_aload_n hC 4 dX3_bestOfAllSets_8 rfl rfl ?_
      refine m_getf hC dX3_bestOfAllSets_9 kf_X3_27 hR.co rfl ?_
      refine m_ishl hC dX3_bestOfAllSets_12 (z := (2 ^ (g 0 11).toNat)) (k_shl (by omega)) ?_
      refine m_icmp_ge (tgt := 35) hC dX3_bestOfAllSets_13 (by decide) (by first | omega | (simp [hs_at] <;> omega)) (fun c1 => ?_) (fun c1 => ?_)
      · refine m_iload_n hC 1 dX3_bestOfAllSets_35 rfl rfl ?_
        exact m_iret hC dX3_bestOfAllSets_36 hr (by decide) (by decide) (⟨by rw [← k_best hB he9.1, show z = 2 ^ (g 0 11).toNat by omega], rfl⟩)
      · refine m_iload_n hC 1 dX3_bestOfAllSets_16 rfl rfl ?_
        refine m_aload_n hC 4 dX3_bestOfAllSets_17 rfl rfl ?_
        refine m_iload hC 0 dX3_bestOfAllSets_18 rfl ?_
        refine m_iload_n hC 3 dX3_bestOfAllSets_20 rfl rfl ?_
        refine m_iload_n hC 2 dX3_bestOfAllSets_21 rfl rfl ?_
        refine m_callV hC (t_X3_wagesOfSet hF hl hR hB (z := z) (x := x) (e9 := e9) (by omega) (by omega) (by omega)) dX3_bestOfAllSets_22 kc_X3_wagesOfSet kV_X3_38 hR.co rfl rfl rfl rfl (Nat.le_of_ble_eq_true rfl) (by decide) (by decide) m_nox (fun v9 M2 h9 => ?_)
        obtain ⟨rfl, h9⟩ := h9
        replace h9 := h9.symm
        subst h9
        change m_W _ _ _ _ _ _ _ _ _ _ _ _ _ _ _ _ _ _ _ (VI (k_all g x e9 z) :: _) _
        have hka := k_all_rg (x := x) hB he9.1 z
        have hmx := h_max_bd (f := k_all g x e9) (B := 400) (n := z) (by omega) (fun j _ => (k_all_rg hB he9.1 j).2.1)
        refine m_mmax hC dX3_bestOfAllSets_25 kM_X3_42 (by first | omega | (simp [hs_at] <;> omega)) (by decide) (Nat.le_of_ble_eq_true rfl) (by decide) (by decide) ?_
        rw [← h_max_succ _ h0]
        refine m_istore_n hC dX3_bestOfAllSets_28 rfl (by decide) rfl ?_
        refine m_iinc hC 1 dX3_bestOfAllSets_29 rfl (by decide) rfl ?_
        refine m_goto (tgt := 5) hC dX3_bestOfAllSets_32 (by decide) ?_
        refine m_lvs [0, 1, 2, 3, 4] rfl (ih (z + 1) (by omega) (by omega) (by omega))
  refine m_lvs [0, 1, 4, 3, 2] rfl (L ((2 ^ (g 0 11).toNat : Int).toNat + 1) 0 (by omega) (by omega) (by omega))

def k_enj (f : Int → Int) (w ef j : Int) : Int → Int := fun e => if (j < e ∧ ef ≤ e) ∧ e ≤ 45 then max (f e) (f (e - ef) + w) else f e
def k_en (f : Int → Int) (w ef : Int) : Int → Int := fun e => if ef ≤ e ∧ e ≤ 45 then max (f e) (f (e - ef) + w) else f e
theorem k_enj_le {f : Int → Int} {w ef j e : Int} (h : e ≤ j) : k_enj f w ef j e = f e := if_neg (fun q => by omega)
theorem k_enj_1 {f : Int → Int} {w ef j : Int} (h : ef ≤ j ∧ j ≤ 45) : m_ug (k_enj f w ef j) j (max (f j) (f (j - ef) + w)) = k_enj f w ef (j + -1) := by
  funext e
  unfold m_ug k_enj
  by_cases hq : e = j
  · subst hq; rw [if_pos rfl, if_pos (by omega)]
  · rw [if_neg hq]
    by_cases hz : (j < e ∧ ef ≤ e) ∧ e ≤ 45
    · rw [if_pos hz, if_pos (by omega)]
    · rw [if_neg hz, if_neg (by omega)]
theorem k_enj_0 {f : Int → Int} {w ef : Int} : k_enj f w ef 45 = f := by
  funext e
  exact if_neg (fun q => by omega)
theorem k_enj_n {f : Int → Int} {w ef j : Int} (h : j < ef) : k_enj f w ef j = k_en f w ef := by
  funext e
  unfold k_enj k_en
  by_cases hz : ef ≤ e ∧ e ≤ 45
  · rw [if_pos hz, if_pos (by omega)]
  · rw [if_neg hz, if_neg (by omega)]
def k_z (f : Int → Int) (i : Int) : Int → Int := fun e => if 0 ≤ e ∧ e < i then 0 else f e
theorem k_z_0 {f : Int → Int} : k_z f 0 = f := by
  funext e
  exact if_neg (fun q => by omega)
theorem k_z_1 {f : Int → Int} {i : Int} (h : 0 ≤ i) : m_ug (k_z f i) i 0 = k_z f (i + 1) := by
  funext e
  unfold m_ug k_z
  by_cases hq : e = i
  · subst hq; rw [if_pos rfl, if_pos (by omega)]
  · rw [if_neg hq]
    by_cases hz : 0 ≤ e ∧ e < i
    · rw [if_pos hz, if_pos (by omega)]
    · rw [if_neg hz, if_neg (by omega)]
def k_tab (g : h_T) (x : Int) (f : Int → Int) : Nat → Int → Int
  | 0 => k_z f 46
  | k + 1 => if g 10 (k : Int) = x then k_en (k_tab g x f k) (g 12 (k : Int)) (g 13 (k : Int)) else k_tab g x f k
theorem k_tab_ks {g : h_T} {x : Int} {f : Int → Int} (h : h_B g) : ∀ (k : Nat) (e : Int), (k : Int) ≤ g 0 11 → 0 ≤ e ∧ e ≤ 45 → k_tab g x f k e = h_ks g x k e := by
  intro k
  induction k with
  | zero => intro e _ he; exact if_pos (by omega)
  | succ k ih =>
    intro e hk he
    have c := h.co (i := (k : Int)) (by omega)
    rw [k_tab, h_ks]
    by_cases hx : g 10 (k : Int) = x
    · rw [if_pos hx]
      unfold k_en
      by_cases hq : g 13 (k : Int) ≤ e
      · rw [if_pos ⟨hq, he.2⟩, if_pos ⟨hx, hq⟩, ih e (by omega) he, ih _ (by omega) (by omega)]
      · rw [if_neg (fun z => hq z.1), if_neg (fun z => hq z.2), ih e (by omega) he]
    · rw [if_neg hx, if_neg (fun z => hx z.1), ih e (by omega) he]
theorem k_tab_bd {g : h_T} {x : Int} {f : Int → Int} (h : h_B g) {k : Int} (hk : 0 ≤ k ∧ k ≤ g 0 11) (e : Int) (he : 0 ≤ e ∧ e < 46) : 0 ≤ k_tab g x f k.toNat e ∧ k_tab g x f k.toNat e ≤ 1000 := by
  have n11 := h.n11
  rw [k_tab_ks h k.toNat e (by omega) (by omega)]
  have := h_ks_bd (x := x) h k.toNat e (by omega)
  omega

set_option maxHeartbeats 4000000 in
set_option maxRecDepth 100000 in
theorem t_X3_enterInTable {D : va_G} {aC : Nat → ClassId} {s0 : State} {l : Launch} (hF : m_F D aC s0) (hl : l.stackTraces = false) {M : m_M} {a9 : Nat} {f : Int → Int} (hM9 : M.2 a9 = some (m_ia 0 46 f)) (ha9 : s0.heap.size ≤ a9) (hfb : ∀ j, 0 ≤ j ∧ j < 46 → 0 ≤ f j ∧ f j ≤ 1000) {w ef : Int} (hw : 1 ≤ w ∧ w ≤ 50) (hef : 1 ≤ ef ∧ ef ≤ 20) : m_Met D aC s0 l yX3_enterInTable cX3_enterInTable 5 none 1 (0) (0) [VI w, VI ef, .ref a9] M (fun v M' => v = none ∧ M'.2 a9 = some (m_ia 0 46 (k_en f w ef)) ∧ m_fr a9 1 M M') m_nx := by
  refine m_entry (lv := [(0, VI w), (1, VI ef), (2, .ref a9)]) (by decide +kernel) (Nat.le_of_ble_eq_true rfl) rfl hF hl ?_
  intro p e s m args below meth c hC hr hno hnm
  change m_C D aC s0 RX3 _ _ _ _ _ _ _ _ _ at hC
  refine m_aload_n hC 2 dX3_enterInTable_0 rfl rfl ?_
  refine m_alen hC dX3_enterInTable_1 hM9 (by decide) ?_
  refine m_iconst hC dX3_enterInTable_2 ?_
  refine m_isub hC dX3_enterInTable_3 ?_
  refine m_istore_n hC dX3_enterInTable_4 rfl (by decide) rfl ?_
  have L : ∀ (n : Nat) (j : Int) (M1 : m_M), j + 1 < (n : Int) → 0 ≤ j → j ≤ 45 → M1.2 a9 = some (m_ia 0 46 (k_enj f w ef j)) → m_fr a9 1 M M1 → m_W D aC s0 5 p l e (m_R 1 (0) (0)) s m args below meth c (0) (0) (m_Q D aC s0 below (fun v M' => v = none ∧ M'.2 a9 = some (m_ia 0 46 (k_en f w ef)) ∧ m_fr a9 1 M M') m_nx args s (0) (0)) 5 [(3, VI j), (2, .ref a9), (1, VI ef), (0, VI w)] [] M1 := by
    intro n
    induction n with
    | zero =>
      intro j M1 hn h0 h1 hT hf1
      omega
    | succ n ih =>
      intro j M1 hn h0 h1 hT hf1
      refine m_iload_n hC 0 dX3_enterInTable_5 rfl rfl ?_
      refine m_iload_n hC 2 dX3_enterInTable_6 rfl rfl ?_
      refine m_icmp_lt (tgt := 36) hC dX3_enterInTable_7 (by decide) (by first | omega | (simp [hs_at] <;> omega)) (fun c1 => ?_) (fun c1 => ?_)
      · exact m_vret hC dX3_enterInTable_36 hr (by decide) (by decide) (⟨rfl, by rw [← k_enj_n (j := j) (by omega)]; exact hT, hf1⟩)
      · have hfj := hfb j (by omega)
        have hfj2 := hfb (j - ef) (by omega)
        refine m_aload_n hC 1 dX3_enterInTable_10 rfl rfl ?_
        refine m_iload_n hC 0 dX3_enterInTable_11 rfl rfl ?_
        refine m_iload_n hC 2 dX3_enterInTable_12 rfl rfl ?_
        refine m_isub hC dX3_enterInTable_13 ?_
        refine m_iald hC dX3_enterInTable_14 hT (by decide) (by first | omega | (simp [hs_at] <;> omega)) ?_
        refine m_iload_n hC 3 dX3_enterInTable_15 rfl rfl ?_
        refine m_iadd hC dX3_enterInTable_16 ?_
        rw [k_enj_le (show j - ef ≤ j by omega)]
        refine m_istore hC dX3_enterInTable_17 (by decide) rfl ?_
        refine m_aload_n hC 2 dX3_enterInTable_19 rfl rfl ?_
        refine m_iload_n hC 1 dX3_enterInTable_20 rfl rfl ?_
        refine m_aload_n hC 2 dX3_enterInTable_21 rfl rfl ?_
        refine m_iload_n hC 1 dX3_enterInTable_22 rfl rfl ?_
        refine m_iald hC dX3_enterInTable_23 hT (by decide) (by first | omega | (simp [hs_at] <;> omega)) ?_
        rw [k_enj_le (Int.le_refl j)]
        refine m_iload hC 0 dX3_enterInTable_24 rfl ?_
        refine m_mmax hC dX3_enterInTable_26 kM_X3_42 (by first | omega | (simp [hs_at] <;> omega)) (by decide) (Nat.le_of_ble_eq_true rfl) (by decide) (by decide) ?_
        refine m_gst hC dX3_enterInTable_29 hT ha9 (by decide) (by first | omega | (simp [hs_at] <;> omega)) (fun M2 R3 f4 => ?_)
        refine m_iinc hC 1 dX3_enterInTable_30 rfl (by decide) rfl ?_
        refine m_goto (tgt := 5) hC dX3_enterInTable_33 (by decide) ?_
        refine m_lvs [0, 2, 3, 4] rfl (ih (j + -1) M2 (by omega) (by omega) (by omega) (by rw [← k_enj_1 (by omega)]; exact R3) (hf1.tr f4))
  refine m_lvs [0, 3, 2, 1] rfl (L 50 45 M (by omega) (by omega) (by omega) (by rw [k_enj_0]; exact hM9) m_fr.rf)

set_option maxHeartbeats 4000000 in
set_option maxRecDepth 100000 in
theorem t_X3_bestOfTable {D : va_G} {aC : Nat → ClassId} {s0 : State} {l : Launch} (hF : m_F D aC s0) (hl : l.stackTraces = false) {b : Nat} {g : h_T} {M : m_M} (hR : hhR b g M) (hB : h_B g) {a9 : Nat} {f : Int → Int} (hM9 : M.2 a9 = some (m_ia 0 46 f)) (ha9 : s0.heap.size ≤ a9) (hd9 : a9 < b ∨ b + 17 ≤ a9) {x e9 : Int} (hx : -2147483648 ≤ x ∧ x < 2147483648) (he9 : 0 ≤ e9 ∧ e9 ≤ 45) : m_Met D aC s0 l yX3_bestOfTable cX3_bestOfTable 5 (some .int) 2 (0) (0) [.ref (b + 11), VI x, VI e9, .ref a9] M (fun v M' => v = some (VI (h_ks g x (g 0 11).toNat e9)) ∧ (∃ f2 : Int → Int, M'.2 a9 = some (m_ia 0 46 f2)) ∧ m_fr a9 1 M M') m_nx := by
  refine m_entry (lv := [(0, .ref (b + 11)), (1, VI x), (2, VI e9), (3, .ref a9)]) (by decide +kernel) (Nat.le_of_ble_eq_true rfl) rfl hF hl ?_
  intro p e s m args below meth c hC hr hno hnm
  change m_C D aC s0 RX3 _ _ _ _ _ _ _ _ _ at hC
  have h11 := hB.n11
  have h9n := hB.n9
  refine m_iconst hC dX3_bestOfTable_0 ?_
  refine m_istore hC dX3_bestOfTable_1 (by decide) rfl ?_
  have L1 : ∀ (n1 : Nat) (i : Int) (M1 : m_M), 46 - i < (n1 : Int) → 0 ≤ i → i ≤ 46 → M1.2 a9 = some (m_ia 0 46 (k_z f i)) → hhR b g M1 → m_fr a9 1 M M1 → m_W D aC s0 5 p l e (m_R 2 (0) (0)) s m args below meth c (0) (0) (m_Q D aC s0 below (fun v M' => v = some (VI (h_ks g x (g 0 11).toNat e9)) ∧ (∃ f2 : Int → Int, M'.2 a9 = some (m_ia 0 46 f2)) ∧ m_fr a9 1 M M') m_nx args s (0) (0)) 3 [(4, VI i), (3, .ref a9), (2, VI e9), (1, VI x), (0, .ref (b + 11))] [] M1 := by
    intro n1
    induction n1 with
    | zero =>
      intro i M1 hn h0 h1 hT hR1 hf1
      omega
    | succ n1 ih1 =>
      intro i M1 hn h0 h1 hT hR1 hf1
      refine m_iload hC 0 dX3_bestOfTable_3 rfl ?_
      refine m_aload_n hC 1 dX3_bestOfTable_5 rfl rfl ?_
      refine m_alen hC dX3_bestOfTable_6 hT (by decide) ?_
      refine m_icmp_ge (tgt := 21) hC dX3_bestOfTable_7 (by decide) (by first | omega | (simp [hs_at] <;> omega)) (fun c1 => ?_) (fun c1 => ?_)
      · refine m_iconst hC dX3_bestOfTable_21 ?_
        refine m_istore hC dX3_bestOfTable_22 (by decide) rfl ?_
        have hT0 : M1.2 a9 = some (m_ia 0 46 (k_tab g x f (0 : Int).toNat)) := by show _ = some (m_ia 0 46 (k_z f 46)); rw [show (46 : Int) = i by omega]; exact hT
        have L2 : ∀ (n2 : Nat) (i : Int) (M1 : m_M), g 0 11 - i < (n2 : Int) → 0 ≤ i → i ≤ g 0 11 → M1.2 a9 = some (m_ia 0 46 (k_tab g x f i.toNat)) → hhR b g M1 → m_fr a9 1 M M1 → m_W D aC s0 5 p l e (m_R 2 (0) (0)) s m args below meth c (0) (0) (m_Q D aC s0 below (fun v M' => v = some (VI (h_ks g x (g 0 11).toNat e9)) ∧ (∃ f2 : Int → Int, M'.2 a9 = some (m_ia 0 46 f2)) ∧ m_fr a9 1 M M') m_nx args s (0) (0)) 24 [(4, VI i), (3, .ref a9), (2, VI e9), (1, VI x), (0, .ref (b + 11))] [] M1 := by
          intro n2
          induction n2 with
          | zero =>
            intro i M1 hn h0 h1 hT hR1 hf1
            omega
          | succ n2 ih2 =>
            intro i M1 hn h0 h1 hT hR1 hf1
            refine m_iload hC 0 dX3_bestOfTable_24 rfl ?_
            refine m_aload_n hC 4 dX3_bestOfTable_26 rfl rfl ?_
            refine m_getf hC dX3_bestOfTable_27 kf_X3_27 hR1.co rfl ?_
            refine m_icmp_ge (tgt := 68) hC dX3_bestOfTable_30 (by decide) (by first | omega | (simp [hs_at] <;> omega)) (fun c2 => ?_) (fun c2 => ?_)
            · refine m_iload_n hC 2 dX3_bestOfTable_68 rfl rfl ?_
              refine m_if_lt (tgt := 84) hC dX3_bestOfTable_69 (by decide) (by first | omega | (simp [hs_at] <;> omega)) (fun c3 => ?_) (fun c3 => ?_)
              · omega
              · refine m_iload_n hC 2 dX3_bestOfTable_72 rfl rfl ?_
                refine m_aload_n hC 1 dX3_bestOfTable_73 rfl rfl ?_
                refine m_alen hC dX3_bestOfTable_74 hT (by decide) ?_
                refine m_icmp_ge (tgt := 84) hC dX3_bestOfTable_75 (by decide) (by first | omega | (simp [hs_at] <;> omega)) (fun c4 => ?_) (fun c4 => ?_)
                · omega
                · refine m_aload_n hC 1 dX3_bestOfTable_78 rfl rfl ?_
                  refine m_iload_n hC 2 dX3_bestOfTable_79 rfl rfl ?_
                  refine m_iald hC dX3_bestOfTable_80 hT (by decide) (by first | omega | (simp [hs_at] <;> omega)) ?_
                  rw [k_tab_ks hB i.toNat e9 (by omega) (by omega), show i.toNat = (g 0 11).toNat by omega]
                  refine m_goto (tgt := 85) hC dX3_bestOfTable_81 (by decide) ?_
                  exact m_iret hC dX3_bestOfTable_85 hr (by decide) (by decide) (⟨rfl, ⟨_, hT⟩, hf1⟩)
            · have hco := hB.co (i := i) (by omega)
              refine m_aload_n hC 4 dX3_bestOfTable_33 rfl rfl ?_
              refine m_getf hC dX3_bestOfTable_34 kf_X3_15 hR1.co rfl ?_
              refine m_iload hC 0 dX3_bestOfTable_37 rfl ?_
              refine m_ld10 hC hR1 dX3_bestOfTable_39 (by first | omega | (simp [hs_at] <;> omega)) (by first | omega | (simp [hs_at] <;> omega)) ?_
              refine m_iload_n hC 3 dX3_bestOfTable_40 rfl rfl ?_
              refine m_icmp_ne (tgt := 62) hC dX3_bestOfTable_41 (by decide) (by first | omega | (simp [hs_at] <;> omega)) (fun c5 => ?_) (fun c5 => ?_)
              · refine m_iinc hC 0 dX3_bestOfTable_62 rfl (by decide) rfl ?_
                refine m_goto (tgt := 24) hC dX3_bestOfTable_65 (by decide) ?_
                refine m_lvs [0, 1, 2, 3, 4] rfl (ih2 (i + 1) M1 (by omega) (by omega) (by omega) (by rw [show (i + 1).toNat = i.toNat + 1 by omega, k_tab, show ((i.toNat : Nat) : Int) = i by omega, if_neg (by omega)]; exact hT) hR1 hf1)
              · refine m_aload_n hC 4 dX3_bestOfTable_44 rfl rfl ?_
                refine m_getf hC dX3_bestOfTable_45 kf_X3_21 hR1.co rfl ?_
                refine m_iload hC 0 dX3_bestOfTable_48 rfl ?_
                refine m_ld12 hC hR1 dX3_bestOfTable_50 (by first | omega | (simp [hs_at] <;> omega)) (by first | omega | (simp [hs_at] <;> omega)) ?_
                refine m_aload_n hC 4 dX3_bestOfTable_51 rfl rfl ?_
                refine m_getf hC dX3_bestOfTable_52 kf_X3_24 hR1.co rfl ?_
                refine m_iload hC 0 dX3_bestOfTable_55 rfl ?_
                refine m_ld13 hC hR1 dX3_bestOfTable_57 (by first | omega | (simp [hs_at] <;> omega)) (by first | omega | (simp [hs_at] <;> omega)) ?_
                refine m_aload_n hC 1 dX3_bestOfTable_58 rfl rfl ?_
                refine m_callS hC (t_X3_enterInTable hF hl hT ha9 (fun j hj => k_tab_bd hB (by omega) j hj) (w := g 12 i) (ef := g 13 i) (by omega) (by omega)) dX3_bestOfTable_59 kc_X3_enterInTable kS_X3_48 rfl rfl (Nat.le_of_ble_eq_true rfl) (by decide) (by decide) m_nox (fun v9 M6 h9 => ?_)
                obtain ⟨rfl, R7, f8⟩ := h9
                have R9 := hR1.keep (fun q h1 h2 => f8.2 q (by omega))
                refine m_iinc hC 0 dX3_bestOfTable_62 rfl (by decide) rfl ?_
                refine m_goto (tgt := 24) hC dX3_bestOfTable_65 (by decide) ?_
                refine m_lvs [0, 1, 2, 3, 4] rfl (ih2 (i + 1) M6 (by omega) (by omega) (by omega) (by rw [show (i + 1).toNat = i.toNat + 1 by omega, k_tab, show ((i.toNat : Nat) : Int) = i by omega, if_pos (by omega)]; exact R7) R9 (hf1.tr f8))
        refine m_lvs [0, 1, 2, 3, 4] rfl (L2 ((g 0 11 - 0).toNat + 1) 0 M1 (by omega) (by omega) (by omega) hT0 hR1 hf1)
      · refine m_aload_n hC 1 dX3_bestOfTable_10 rfl rfl ?_
        refine m_iload hC 0 dX3_bestOfTable_11 rfl ?_
        refine m_iconst hC dX3_bestOfTable_13 ?_
        refine m_gst hC dX3_bestOfTable_14 hT ha9 (by decide) (by first | omega | (simp [hs_at] <;> omega)) (fun M10 R11 f12 => ?_)
        have R13 := hR1.keep (fun q h1 h2 => f12.2 q (by omega))
        refine m_iinc hC 0 dX3_bestOfTable_15 rfl (by decide) rfl ?_
        refine m_goto (tgt := 3) hC dX3_bestOfTable_18 (by decide) ?_
        refine m_lvs [0, 1, 2, 3, 4] rfl (ih1 (i + 1) M10 (by omega) (by omega) (by omega) (by rw [← k_z_1 h0]; exact R11) R13 (hf1.tr f12))
  refine m_lvs [0, 4, 3, 2, 1] rfl (L1 50 0 M (by omega) (by omega) (by omega) (by rw [k_z_0]; exact hM9) hR m_fr.rf)

