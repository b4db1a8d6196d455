theorem h_sum_le {f f2 : Int → Int} : ∀ n : Nat, (∀ j : Int, 0 ≤ j → j < (n : Int) → f j ≤ f2 j) → h_sum f n ≤ h_sum f2 n := by
  intro n
  induction n with
  | zero => intro _; exact Int.le_refl _
  | succ n ih =>
    intro h
    rw [h_sum, h_sum]
    have h1 := ih (fun j h0 h1 => h j h0 (by omega))
    have h2 := h (n : Int) (by omega) (by omega)
    omega
theorem h_sum_lt {f f2 : Int → Int} {k : Int} : ∀ n : Nat, (∀ j : Int, 0 ≤ j → j < (n : Int) → f j ≤ f2 j) → 0 ≤ k → k < (n : Int) → f k < f2 k → h_sum f n < h_sum f2 n := by
  intro n
  induction n with
  | zero => intro _ h0 h1; omega
  | succ n ih =>
    intro h h0 h1 h2
    rw [h_sum, h_sum]
    by_cases q : k = (n : Int)
    · subst q
      have h3 := h_sum_le (f := f) (f2 := f2) n (fun j h0 h1 => h j h0 (by omega))
      omega
    · have h3 := ih (fun j h0 h1 => h j h0 (by omega)) h0 (by omega) h2
      have h4 := h (n : Int) (by omega) (by omega)
      omega
theorem X_gn {p : Int → Bool} {i n : Int} (hU : ∀ j k : Int, 0 ≤ j → j < k → k < n → p j = true → p k = true → False) (h0 : 0 ≤ i) (h1 : i < n) (h : p i = true) : i = h_find p (i + 1).toNat 0 := by
  rw [h_find_up h0]
  rcases h_find_rg (p := p) i.toNat 0 (by omega) with q | ⟨q1, q2, q3, -⟩
  · rw [q, if_pos rfl, if_pos h]
  · exact (hU _ i q1 (by omega) h1 q3 h).elim
theorem X_gk {p : Int → Bool} {i q : Int} (h0 : 0 ≤ i) (hq : q = h_find p i.toNat 0) (h : p i = false) : q = h_find p (i + 1).toNat 0 := by
  rw [h_find_up h0, ← hq]
  by_cases hz : q = -1
  · rw [if_pos hz, h]
    exact hz
  · rw [if_neg hz]
def X_dl0 (g : h_T) (x : Int) : Int → Int := fun o => if g 1 o > g 1 x ∨ (g 1 o = g 1 x ∧ o < x) then 1 else 0
def X_wl0 (g : h_T) (x : Int) : Int → Int := fun o => if g 5 o - g 6 o > g 5 x - g 6 x ∨ (g 5 o - g 6 o = g 5 x - g 6 x ∧ (g 4 o > g 4 x ∨ (g 4 o = g 4 x ∧ o < x))) then 1 else 0
theorem X_wl {g : h_T} {x : Int} : S_rwealth g x = h_sum (X_wl0 g x) (g 0 9).toNat := by
  unfold S_rwealth S_ahead X_wl0
  simp only [decide_eq_true_eq]
theorem X_dlu {g : h_T} {r j k : Int} (h0 : 0 ≤ j) (h1 : j < k) (h2 : k < 6) (a : decide (S_rdust g j = r) = true) (b : decide (S_rdust g k = r) = true) : False := by
  have a := of_decide_eq_true a
  have b := of_decide_eq_true b
  have e : ∀ x, S_rdust g x = h_sum (X_dl0 g x) 6 := fun _ => rfl
  rw [e] at a b
  by_cases q : g 1 j > g 1 k ∨ (g 1 j = g 1 k ∧ j < k)
  · have := h_sum_lt (f := X_dl0 g j) (f2 := X_dl0 g k) (k := j) 6 (fun o _ _ => by unfold X_dl0; (repeat' split) <;> omega) h0 (by omega) (by unfold X_dl0; (repeat' split) <;> omega)
    omega
  · have := h_sum_lt (f := X_dl0 g k) (f2 := X_dl0 g j) (k := k) 6 (fun o _ _ => by unfold X_dl0; (repeat' split) <;> omega) (by omega) (by omega) (by unfold X_dl0; (repeat' split) <;> omega)
    omega
theorem X_wlu {g : h_T} (hn : 0 ≤ g 0 9) {r j k : Int} (h0 : 0 ≤ j) (h1 : j < k) (h2 : k < g 0 9) (a : decide (S_rwealth g j = r) = true) (b : decide (S_rwealth g k = r) = true) : False := by
  have a := of_decide_eq_true a
  have b := of_decide_eq_true b
  rw [X_wl] at a b
  by_cases q : g 5 j - g 6 j > g 5 k - g 6 k ∨ (g 5 j - g 6 j = g 5 k - g 6 k ∧ (g 4 j > g 4 k ∨ (g 4 j = g 4 k ∧ j < k)))
  · have := h_sum_lt (f := X_wl0 g j) (f2 := X_wl0 g k) (k := j) (g 0 9).toNat (fun o _ _ => by unfold X_wl0; (repeat' split) <;> omega) h0 (by omega) (by unfold X_wl0; (repeat' split) <;> omega)
    omega
  · have := h_sum_lt (f := X_wl0 g k) (f2 := X_wl0 g j) (k := k) (g 0 9).toNat (fun o _ _ => by unfold X_wl0; (repeat' split) <;> omega) (by omega) (by omega) (by unfold X_wl0; (repeat' split) <;> omega)
    omega
theorem X_frg {p : Int → Bool} (n : Nat) : h_find p n 0 = -1 ∨ (0 ≤ h_find p n 0 ∧ h_find p n 0 < n) := by
  rcases h_find_rg (p := p) n 0 (by omega) with h | ⟨h1, h2, -⟩
  · exact Or.inl h
  · exact Or.inr ⟨h1, by omega⟩
set_option maxHeartbeats 4000000 in
set_option maxRecDepth 100000 in
theorem t_X10_roomByDust {D : va_G} {aC : Nat → ClassId} {s0 : State} {l : Launch} (hF : m_F D aC s0) (hl : l.stackTraces = false) {a : Nat} {w g : h_T} {M : m_M} (hV : mmV a w g M) (ha : s0.heap.size ≤ a) (hB : h_B g) {x : Int} (hx : -2147483648 ≤ x ∧ x < 2147483648) : m_Met D aC s0 l yX10_roomByDust cX10_roomByDust 7 (some .int) 4 (0) (0) [.ref a, VI x] M (m_qu a w g (G_rbd g x) M) m_nx := by
  refine m_entry (lv := [(0, .ref a), (1, VI x)]) (by decide +kernel) (Nat.le_of_ble_eq_true rfl) rfl hF hl ?_
  intro p e s m args below meth c hC hr hno hnm
  change m_C D aC s0 RX10 _ _ _ _ _ _ _ _ _ at hC
  refine m_iconst hC dX10_roomByDust_0 ?_
  refine m_istore_n hC dX10_roomByDust_1 rfl (by decide) rfl ?_
  refine m_iconst hC dX10_roomByDust_2 ?_
  refine m_istore_n hC dX10_roomByDust_3 rfl (by decide) rfl ?_
  have L : ∀ (n : Nat) (i q : Int), (6 : Int) - i < (n : Int) → 0 ≤ i → i ≤ (6 : Int) → q = h_find (fun a => decide (S_rdust g a = x)) i.toNat 0 → m_W D aC s0 7 p l e (m_R 4 (0) (0)) s m args below meth c (0) (0) (m_Q D aC s0 below (m_qu a w g (G_rbd g x) M) m_nx args s (0) (0)) 4 [(3, VI i), (2, VI q), (1, VI x), (0, .ref a)] [] M := by
    intro n
    induction n with
    | zero =>
      intro i q hn h0 h1 hq
      omega
    | succ n ih =>
      intro i q hn h0 h1 hq
      refine m_iload_n hC 0 dX10_roomByDust_4 rfl rfl ?_
      refine m_bipush hC dX10_roomByDust_5 (by decide) ?_
      refine m_icmp_ge (tgt := 95) hC dX10_roomByDust_7 (by decide) (by first | omega | (simp [hs_at] <;> omega)) (fun co => ?_) (fun co => ?_)
      · have X_q6 : S_rbd g x = q := by rw [hq]; unfold S_rbd; rw [show i.toNat = 6 by omega]
        refine m_aload_n hC 3 dX10_roomByDust_95 rfl rfl ?_
        refine m_iload_n hC 1 dX10_roomByDust_96 rfl rfl ?_
        refine m_iconst hC dX10_roomByDust_97 ?_
        refine m_dia_icmp_eq hC dX10_roomByDust_98 dX10_roomByDust_101 dX10_roomByDust_102 dX10_roomByDust_105 rfl rfl (by have := X_frg (p := fun a => decide (S_rdust g a = x)) i.toNat; omega) ?_
        refine m_callV hC (t_X10_goes hF hl hV ha hB (z := b01 (q ≠ -1)) (by first | exact b01_r | omega)) dX10_roomByDust_106 kc_X10_goes kV_X10_61 hV.ob rfl rfl rfl rfl (Nat.le_of_ble_eq_true rfl) (by decide) (by decide) m_nox (fun v9 M1 h9 => ?_)
        obtain ⟨rfl, R2, f3⟩ := h9
        refine m_if_eq (tgt := 116) hC dX10_roomByDust_109 (by decide) b01_r (fun ch => ?_) (fun ch => ?_)
        · refine m_iconst hC dX10_roomByDust_116 ?_
          exact m_iret hC dX10_roomByDust_117 hr (by decide) (by decide) (m_qn ch (fun h => if_neg (by show ¬ S_rbd g x ≠ -1; rw [show S_rbd g x = q from X_q6]; exact h)) R2 f3)
        · refine m_iload_n hC 1 dX10_roomByDust_112 rfl rfl ?_
          refine m_goto (tgt := 117) hC dX10_roomByDust_113 (by decide) ?_
          exact m_iret hC dX10_roomByDust_117 hr (by decide) (by decide) (m_qy ch (fun h => (if_pos (by show S_rbd g x ≠ -1; rw [show S_rbd g x = q from X_q6]; exact h)).trans (by rw [show S_rbd g x = q from X_q6])) R2 f3)
      · refine m_iconst hC dX10_roomByDust_10 ?_
        refine m_istore hC dX10_roomByDust_11 (by decide) rfl ?_
        refine m_iconst hC dX10_roomByDust_13 ?_
        refine m_istore hC dX10_roomByDust_14 (by decide) rfl ?_
        have L2 : ∀ (n2 : Nat) (j q2 : Int), (6 : Int) - j < (n2 : Int) → 0 ≤ j → j ≤ (6 : Int) → q2 = h_sum (X_dl0 g i) j.toNat → m_W D aC s0 7 p l e (m_R 4 (0) (0)) s m args below meth c (0) (0) (m_Q D aC s0 below (m_qu a w g (G_rbd g x) M) m_nx args s (0) (0)) 16 [(5, VI j), (4, VI q2), (3, VI i), (2, VI q), (1, VI x), (0, .ref a)] [] M := by
          intro n2
          induction n2 with
          | zero =>
            intro j q2 hn2 k0 k1 hq2
            omega
          | succ n2 ih2 =>
            intro j q2 hn2 k0 k1 hq2
            refine m_iload hC 0 dX10_roomByDust_16 rfl ?_
            refine m_bipush hC dX10_roomByDust_18 (by decide) ?_
            refine m_icmp_ge (tgt := 77) hC dX10_roomByDust_20 (by decide) (by first | omega | (simp [hs_at] <;> omega)) (fun ci => ?_) (fun ci => ?_)
            · refine m_iload hC 1 dX10_roomByDust_77 rfl ?_
              refine m_iload_n hC 4 dX10_roomByDust_79 rfl rfl ?_
              refine m_icmp_ne (tgt := 87) hC dX10_roomByDust_80 (by decide) (by have := h_sum_bd (f := X_dl0 g i) (B := 1) (n := j) (by omega) (fun o ho => by unfold X_dl0; split <;> omega); omega) (fun cr => ?_) (fun cr => ?_)
              · refine m_iload_n hC 3 dX10_roomByDust_87 rfl rfl ?_
                refine m_istore_n hC dX10_roomByDust_88 rfl (by decide) rfl ?_
                refine m_iinc hC 3 dX10_roomByDust_89 rfl (by decide) rfl ?_
                refine m_goto (tgt := 4) hC dX10_roomByDust_92 (by decide) ?_
                refine m_lvs [0, 1, 4, 5] rfl (ih (i + 1) _ (by omega) (by omega) (by omega) (by first | exact X_gn (p := (fun a => decide (S_rdust g a = x))) (fun a b => X_dlu) h0 (by omega) (decide_eq_true (by rw [show S_rdust g i = h_sum (X_dl0 g i) 6 from rfl, show (6 : Nat) = j.toNat by omega]; omega)) | exact X_gk (p := (fun a => decide (S_rdust g a = x))) h0 hq (decide_eq_false (by rw [show S_rdust g i = h_sum (X_dl0 g i) 6 from rfl, show (6 : Nat) = j.toNat by omega]; omega))))
              · refine m_iload_n hC 2 dX10_roomByDust_83 rfl rfl ?_
                refine m_goto (tgt := 88) hC dX10_roomByDust_84 (by decide) ?_
                refine m_istore_n hC dX10_roomByDust_88 rfl (by decide) rfl ?_
                refine m_iinc hC 3 dX10_roomByDust_89 rfl (by decide) rfl ?_
                refine m_goto (tgt := 4) hC dX10_roomByDust_92 (by decide) ?_
                refine m_lvs [0, 1, 4, 5] rfl (ih (i + 1) _ (by omega) (by omega) (by omega) (by first | exact X_gn (p := (fun a => decide (S_rdust g a = x))) (fun a b => X_dlu) h0 (by omega) (decide_eq_true (by rw [show S_rdust g i = h_sum (X_dl0 g i) 6 from rfl, show (6 : Nat) = j.toNat by omega]; omega)) | exact X_gk (p := (fun a => decide (S_rdust g a = x))) h0 hq (decide_eq_false (by rw [show S_rdust g i = h_sum (X_dl0 g i) 6 from rfl, show (6 : Nat) = j.toNat by omega]; omega))))
            · have hdi := hB.du (i := i) (by omega)
              have hdj := hB.du (i := j) (by omega)
              refine m_aload_n hC 5 dX10_roomByDust_23 rfl rfl ?_
              refine m_getf hC dX10_roomByDust_24 kf_X10_9 hV.ob rfl ?_
              refine m_bipush hC dX10_roomByDust_27 (by decide) ?_
              refine m_iload hC 0 dX10_roomByDust_29 rfl ?_
              refine m_iadd hC dX10_roomByDust_31 ?_
              refine m_n1 hC (j) hV dX10_roomByDust_32 (by omega) (by omega) (by decide) ?_
              refine m_aload_n hC 5 dX10_roomByDust_33 rfl rfl ?_
              refine m_getf hC dX10_roomByDust_34 kf_X10_9 hV.ob rfl ?_
              refine m_bipush hC dX10_roomByDust_37 (by decide) ?_
              refine m_iload_n hC 2 dX10_roomByDust_39 rfl rfl ?_
              refine m_iadd hC dX10_roomByDust_40 ?_
              refine m_n1 hC (i) hV dX10_roomByDust_41 (by omega) (by omega) (by decide) ?_
              refine m_isub hC dX10_roomByDust_42 ?_
              refine m_istore hC dX10_roomByDust_43 (by decide) rfl ?_
              refine m_iload hC 2 dX10_roomByDust_45 rfl ?_
              refine m_iload hC 0 dX10_roomByDust_47 rfl ?_
              refine m_if_gt (tgt := 63) hC dX10_roomByDust_49 (by decide) (by first | omega | (simp [hs_at] <;> omega)) (fun c49 => ?_) (fun c49 => ?_)
              · refine m_iconst hC dX10_roomByDust_63 ?_
                refine m_goto (tgt := 68) hC dX10_roomByDust_64 (by decide) ?_
                refine m_iadd hC dX10_roomByDust_68 ?_
                refine m_istore hC dX10_roomByDust_69 (by decide) rfl ?_
                refine m_iinc hC 2 dX10_roomByDust_71 rfl (by decide) rfl ?_
                refine m_goto (tgt := 16) hC dX10_roomByDust_74 (by decide) ?_
                refine m_lvs [0, 1, 3, 4, 5, 6] rfl (ih2 (j + 1) _ (by omega) (by omega) (by omega) (by rw [h_sum_succ _ k0, ← hq2]; unfold X_dl0; first | (rw [if_pos (by omega)]) | (rw [if_neg (by omega)]) | (unfold b01; (repeat' split) <;> omega)))
              · refine m_iload hC 0 dX10_roomByDust_52 rfl ?_
                refine m_if_ne (tgt := 67) hC dX10_roomByDust_54 (by decide) (by first | omega | (simp [hs_at] <;> omega)) (fun c54 => ?_) (fun c54 => ?_)
                · refine m_iconst hC dX10_roomByDust_67 ?_
                  refine m_iadd hC dX10_roomByDust_68 ?_
                  refine m_istore hC dX10_roomByDust_69 (by decide) rfl ?_
                  refine m_iinc hC 2 dX10_roomByDust_71 rfl (by decide) rfl ?_
                  refine m_goto (tgt := 16) hC dX10_roomByDust_74 (by decide) ?_
                  refine m_lvs [0, 1, 3, 4, 5, 6] rfl (ih2 (j + 1) _ (by omega) (by omega) (by omega) (by rw [h_sum_succ _ k0, ← hq2]; unfold X_dl0; first | (rw [if_pos (by omega)]) | (rw [if_neg (by omega)]) | (unfold b01; (repeat' split) <;> omega)))
                · refine m_iload hC 1 dX10_roomByDust_57 rfl ?_
                  refine m_iload_n hC 3 dX10_roomByDust_59 rfl rfl ?_
                  refine m_dia_icmp_ge hC dX10_roomByDust_60 dX10_roomByDust_63 dX10_roomByDust_64 dX10_roomByDust_67 rfl rfl (by first | omega | (simp [hs_at] <;> omega)) ?_
                  refine m_iadd hC dX10_roomByDust_68 ?_
                  refine m_istore hC dX10_roomByDust_69 (by decide) rfl ?_
                  refine m_iinc hC 2 dX10_roomByDust_71 rfl (by decide) rfl ?_
                  refine m_goto (tgt := 16) hC dX10_roomByDust_74 (by decide) ?_
                  refine m_lvs [0, 1, 3, 4, 5, 6] rfl (ih2 (j + 1) _ (by omega) (by omega) (by omega) (by rw [h_sum_succ _ k0, ← hq2]; unfold X_dl0; first | (rw [if_pos (by omega)]) | (rw [if_neg (by omega)]) | (unfold b01; (repeat' split) <;> omega)))
        refine m_lvs [0, 1, 2, 3, 4, 5] rfl (L2 (((6 : Int)).toNat + 1) 0 0 (by omega) (by omega) (by omega) rfl)
  refine m_lvs [0, 1, 3, 2] rfl (L (((6 : Int)).toNat + 1) 0 (-1) (by omega) (by omega) (by omega) rfl)

set_option maxHeartbeats 4000000 in
set_option maxRecDepth 100000 in
theorem t_X10_goblinByWealth {D : va_G} {aC : Nat → ClassId} {s0 : State} {l : Launch} (hF : m_F D aC s0) (hl : l.stackTraces = false) {a : Nat} {w g : h_T} {M : m_M} (hV : mmV a w g M) (ha : s0.heap.size ≤ a) (hB : h_B g) {x : Int} (hx : -2147483648 ≤ x ∧ x < 2147483648) : m_Met D aC s0 l yX10_goblinByWealth cX10_goblinByWealth 8 (some .int) 4 (0) (0) [.ref a, VI x] M (m_qu a w g (G_gbw g x) M) m_nx := by
  refine m_entry (lv := [(0, .ref a), (1, VI x)]) (by decide +kernel) (Nat.le_of_ble_eq_true rfl) rfl hF hl ?_
  intro p e s m args below meth c hC hr hno hnm
  change m_C D aC s0 RX10 _ _ _ _ _ _ _ _ _ at hC
  have hn9 := hB.n9
  refine m_iconst hC dX10_goblinByWealth_0 ?_
  refine m_istore_n hC dX10_goblinByWealth_1 rfl (by decide) rfl ?_
  refine m_iconst hC dX10_goblinByWealth_2 ?_
  refine m_istore_n hC dX10_goblinByWealth_3 rfl (by decide) rfl ?_
  have L : ∀ (n : Nat) (i q : Int), g 0 9 - i < (n : Int) → 0 ≤ i → i ≤ g 0 9 → q = h_find (fun a => decide (S_rwealth g a = x)) i.toNat 0 → m_W D aC s0 8 p l e (m_R 4 (0) (0)) s m args below meth c (0) (0) (m_Q D aC s0 below (m_qu a w g (G_gbw g x) M) m_nx args s (0) (0)) 4 [(3, VI i), (2, VI q), (1, VI x), (0, .ref a)] [] M := by
    intro n
    induction n with
    | zero =>
      intro i q hn h0 h1 hq
      omega
    | succ n ih =>
      intro i q hn h0 h1 hq
      refine m_iload_n hC 0 dX10_goblinByWealth_4 rfl rfl ?_
      refine m_aload_n hC 3 dX10_goblinByWealth_5 rfl rfl ?_
      refine m_getf hC dX10_goblinByWealth_6 kf_X10_9 hV.ob rfl ?_
      refine m_bipush hC dX10_goblinByWealth_9 (by decide) ?_
      refine m_n0 hC hV dX10_goblinByWealth_11 (by decide) ?_
      refine m_icmp_ge (tgt := 140) hC dX10_goblinByWealth_12 (by decide) (by first | omega | (simp [hs_at] <;> omega)) (fun co => ?_) (fun co => ?_)
      · have X_q6 : S_gbw g x = q := by rw [hq]; unfold S_gbw; rw [show i.toNat = (g 0 9).toNat by omega]
        refine m_aload_n hC 3 dX10_goblinByWealth_140 rfl rfl ?_
        refine m_iload_n hC 1 dX10_goblinByWealth_141 rfl rfl ?_
        refine m_iconst hC dX10_goblinByWealth_142 ?_
        refine m_dia_icmp_eq hC dX10_goblinByWealth_143 dX10_goblinByWealth_146 dX10_goblinByWealth_147 dX10_goblinByWealth_150 rfl rfl (by have := X_frg (p := fun a => decide (S_rwealth g a = x)) i.toNat; omega) ?_
        refine m_callV hC (t_X10_goes hF hl hV ha hB (z := b01 (q ≠ -1)) (by first | exact b01_r | omega)) dX10_goblinByWealth_151 kc_X10_goes kV_X10_61 hV.ob rfl rfl rfl rfl (Nat.le_of_ble_eq_true rfl) (by decide) (by decide) m_nox (fun v9 M1 h9 => ?_)
        obtain ⟨rfl, R2, f3⟩ := h9
        refine m_if_eq (tgt := 161) hC dX10_goblinByWealth_154 (by decide) b01_r (fun ch => ?_) (fun ch => ?_)
        · refine m_iconst hC dX10_goblinByWealth_161 ?_
          exact m_iret hC dX10_goblinByWealth_162 hr (by decide) (by decide) (m_qn ch (fun h => if_neg (by rw [X_q6]; exact h)) R2 f3)
        · refine m_iload_n hC 1 dX10_goblinByWealth_157 rfl rfl ?_
          refine m_goto (tgt := 162) hC dX10_goblinByWealth_158 (by decide) ?_
          exact m_iret hC dX10_goblinByWealth_162 hr (by decide) (by decide) (m_qy ch (fun h => (if_pos (by rw [X_q6]; exact h)).trans (by rw [X_q6])) R2 f3)
      · refine m_iconst hC dX10_goblinByWealth_15 ?_
        refine m_istore hC dX10_goblinByWealth_16 (by decide) rfl ?_
        refine m_iconst hC dX10_goblinByWealth_18 ?_
        refine m_istore hC dX10_goblinByWealth_19 (by decide) rfl ?_
        have L2 : ∀ (n2 : Nat) (j q2 : Int), g 0 9 - j < (n2 : Int) → 0 ≤ j → j ≤ g 0 9 → q2 = h_sum (X_wl0 g i) j.toNat → m_W D aC s0 8 p l e (m_R 4 (0) (0)) s m args below meth c (0) (0) (m_Q D aC s0 below (m_qu a w g (G_gbw g x) M) m_nx args s (0) (0)) 21 [(5, VI j), (4, VI q2), (3, VI i), (2, VI q), (1, VI x), (0, .ref a)] [] M := by
          intro n2
          induction n2 with
          | zero =>
            intro j q2 hn2 k0 k1 hq2
            omega
          | succ n2 ih2 =>
            intro j q2 hn2 k0 k1 hq2
            refine m_iload hC 0 dX10_goblinByWealth_21 rfl ?_
            refine m_aload_n hC 5 dX10_goblinByWealth_23 rfl rfl ?_
            refine m_getf hC dX10_goblinByWealth_24 kf_X10_9 hV.ob rfl ?_
            refine m_bipush hC dX10_goblinByWealth_27 (by decide) ?_
            refine m_n0 hC hV dX10_goblinByWealth_29 (by decide) ?_
            refine m_icmp_ge (tgt := 122) hC dX10_goblinByWealth_30 (by decide) (by first | omega | (simp [hs_at] <;> omega)) (fun ci => ?_) (fun ci => ?_)
            · refine m_iload hC 1 dX10_goblinByWealth_122 rfl ?_
              refine m_iload_n hC 4 dX10_goblinByWealth_124 rfl rfl ?_
              refine m_icmp_ne (tgt := 132) hC dX10_goblinByWealth_125 (by decide) (by have := h_sum_bd (f := X_wl0 g i) (B := 1) (n := j) (by omega) (fun o ho => by unfold X_wl0; split <;> omega); omega) (fun cr => ?_) (fun cr => ?_)
              · refine m_iload_n hC 3 dX10_goblinByWealth_132 rfl rfl ?_
                refine m_istore_n hC dX10_goblinByWealth_133 rfl (by decide) rfl ?_
                refine m_iinc hC 3 dX10_goblinByWealth_134 rfl (by decide) rfl ?_
                refine m_goto (tgt := 4) hC dX10_goblinByWealth_137 (by decide) ?_
                refine m_lvs [0, 1, 4, 5] rfl (ih (i + 1) _ (by omega) (by omega) (by omega) (by first | exact X_gn (p := (fun a => decide (S_rwealth g a = x))) (fun a b => X_wlu hn9.1) h0 (by omega) (decide_eq_true (by rw [X_wl, show (g 0 9).toNat = j.toNat by omega]; omega)) | exact X_gk (p := (fun a => decide (S_rwealth g a = x))) h0 hq (decide_eq_false (by rw [X_wl, show (g 0 9).toNat = j.toNat by omega]; omega))))
              · refine m_iload_n hC 2 dX10_goblinByWealth_128 rfl rfl ?_
                refine m_goto (tgt := 133) hC dX10_goblinByWealth_129 (by decide) ?_
                refine m_istore_n hC dX10_goblinByWealth_133 rfl (by decide) rfl ?_
                refine m_iinc hC 3 dX10_goblinByWealth_134 rfl (by decide) rfl ?_
                refine m_goto (tgt := 4) hC dX10_goblinByWealth_137 (by decide) ?_
                refine m_lvs [0, 1, 4, 5] rfl (ih (i + 1) _ (by omega) (by omega) (by omega) (by first | exact X_gn (p := (fun a => decide (S_rwealth g a = x))) (fun a b => X_wlu hn9.1) h0 (by omega) (decide_eq_true (by rw [X_wl, show (g 0 9).toNat = j.toNat by omega]; omega)) | exact X_gk (p := (fun a => decide (S_rwealth g a = x))) h0 hq (decide_eq_false (by rw [X_wl, show (g 0 9).toNat = j.toNat by omega]; omega))))
            · have hgi := hB.go (i := i) (by omega)
              have hgj := hB.go (i := j) (by omega)
              refine m_aload_n hC 5 dX10_goblinByWealth_33 rfl rfl ?_
              refine m_iload hC 0 dX10_goblinByWealth_34 rfl ?_
              refine m_iconst hC dX10_goblinByWealth_36 ?_
              refine m_callV hC (t_X10_of hF hl hV ha hB (x := j) (y := 1) 5 rfl (by decide) (by omega)) dX10_goblinByWealth_37 kc_X10_of kV_X10_95 hV.ob rfl rfl rfl rfl (Nat.le_of_ble_eq_true rfl) (by decide) (by decide) m_nox (fun v9 M4 h9 => ?_)
              obtain ⟨rfl, h9⟩ := h9
              replace h9 := h9.symm
              subst h9
              refine m_aload_n hC 5 dX10_goblinByWealth_40 rfl rfl ?_
              refine m_iload hC 0 dX10_goblinByWealth_41 rfl ?_
              refine m_iconst hC dX10_goblinByWealth_43 ?_
              refine m_callV hC (t_X10_of hF hl hV ha hB (x := j) (y := 2) 6 rfl (by decide) (by omega)) dX10_goblinByWealth_44 kc_X10_of kV_X10_95 hV.ob rfl rfl rfl rfl (Nat.le_of_ble_eq_true rfl) (by decide) (by decide) m_nox (fun v9 M5 h9 => ?_)
              obtain ⟨rfl, h9⟩ := h9
              replace h9 := h9.symm
              subst h9
              refine m_isub hC dX10_goblinByWealth_47 ?_
              refine m_aload_n hC 5 dX10_goblinByWealth_48 rfl rfl ?_
              refine m_iload_n hC 2 dX10_goblinByWealth_49 rfl rfl ?_
              refine m_iconst hC dX10_goblinByWealth_50 ?_
              refine m_callV hC (t_X10_of hF hl hV ha hB (x := i) (y := 1) 5 rfl (by decide) (by omega)) dX10_goblinByWealth_51 kc_X10_of kV_X10_95 hV.ob rfl rfl rfl rfl (Nat.le_of_ble_eq_true rfl) (by decide) (by decide) m_nox (fun v9 M6 h9 => ?_)
              obtain ⟨rfl, h9⟩ := h9
              replace h9 := h9.symm
              subst h9
              refine m_isub hC dX10_goblinByWealth_54 ?_
              refine m_aload_n hC 5 dX10_goblinByWealth_55 rfl rfl ?_
              refine m_iload_n hC 2 dX10_goblinByWealth_56 rfl rfl ?_
              refine m_iconst hC dX10_goblinByWealth_57 ?_
              refine m_callV hC (t_X10_of hF hl hV ha hB (x := i) (y := 2) 6 rfl (by decide) (by omega)) dX10_goblinByWealth_58 kc_X10_of kV_X10_95 hV.ob rfl rfl rfl rfl (Nat.le_of_ble_eq_true rfl) (by decide) (by decide) m_nox (fun v9 M7 h9 => ?_)
              obtain ⟨rfl, h9⟩ := h9
              replace h9 := h9.symm
              subst h9
              refine m_iadd hC dX10_goblinByWealth_61 ?_
              refine m_istore hC dX10_goblinByWealth_62 (by decide) rfl ?_
              refine m_aload_n hC 6 dX10_goblinByWealth_64 rfl rfl ?_
              refine m_iload hC 1 dX10_goblinByWealth_65 rfl ?_
              refine m_iconst hC dX10_goblinByWealth_67 ?_
              refine m_callV hC (t_X10_of hF hl hV ha hB (x := j) (y := 0) 4 rfl (by decide) (by omega)) dX10_goblinByWealth_68 kc_X10_of kV_X10_95 hV.ob rfl rfl rfl rfl (Nat.le_of_ble_eq_true rfl) (by decide) (by decide) m_nox (fun v9 M8 h9 => ?_)
              obtain ⟨rfl, h9⟩ := h9
              replace h9 := h9.symm
              subst h9
              refine m_aload_n hC 6 dX10_goblinByWealth_71 rfl rfl ?_
              refine m_iload_n hC 3 dX10_goblinByWealth_72 rfl rfl ?_
              refine m_iconst hC dX10_goblinByWealth_73 ?_
              refine m_callV hC (t_X10_of hF hl hV ha hB (x := i) (y := 0) 4 rfl (by decide) (by omega)) dX10_goblinByWealth_74 kc_X10_of kV_X10_95 hV.ob rfl rfl rfl rfl (Nat.le_of_ble_eq_true rfl) (by decide) (by decide) m_nox (fun v9 M9 h9 => ?_)
              obtain ⟨rfl, h9⟩ := h9
              replace h9 := h9.symm
              subst h9
              refine m_isub hC dX10_goblinByWealth_77 ?_
              refine m_istore hC dX10_goblinByWealth_78 (by decide) rfl ?_
              refine m_iload hC 3 dX10_goblinByWealth_80 rfl ?_
              refine m_iload hC 1 dX10_goblinByWealth_82 rfl ?_
              refine m_if_gt (tgt := 108) hC dX10_goblinByWealth_84 (by decide) (by first | omega | (simp [hs_at] <;> omega)) (fun c84 => ?_) (fun c84 => ?_)
              · refine m_iconst hC dX10_goblinByWealth_108 ?_
                refine m_goto (tgt := 113) hC dX10_goblinByWealth_109 (by decide) ?_
                refine m_iadd hC dX10_goblinByWealth_113 ?_
                refine m_istore hC dX10_goblinByWealth_114 (by decide) rfl ?_
                refine m_iinc hC 3 dX10_goblinByWealth_116 rfl (by decide) rfl ?_
                refine m_goto (tgt := 21) hC dX10_goblinByWealth_119 (by decide) ?_
                refine m_lvs [0, 1, 4, 5, 6, 7] rfl (ih2 (j + 1) _ (by omega) (by omega) (by omega) (by rw [h_sum_succ _ k0, ← hq2]; unfold X_wl0; first | (rw [if_pos (by omega)]) | (rw [if_neg (by omega)]) | (unfold b01; (repeat' split) <;> omega)))
              · refine m_iload hC 1 dX10_goblinByWealth_87 rfl ?_
                refine m_if_ne (tgt := 112) hC dX10_goblinByWealth_89 (by decide) (by first | omega | (simp [hs_at] <;> omega)) (fun c89 => ?_) (fun c89 => ?_)
                · refine m_iconst hC dX10_goblinByWealth_112 ?_
                  refine m_iadd hC dX10_goblinByWealth_113 ?_
                  refine m_istore hC dX10_goblinByWealth_114 (by decide) rfl ?_
                  refine m_iinc hC 3 dX10_goblinByWealth_116 rfl (by decide) rfl ?_
                  refine m_goto (tgt := 21) hC dX10_goblinByWealth_119 (by decide) ?_
                  refine m_lvs [0, 1, 4, 5, 6, 7] rfl (ih2 (j + 1) _ (by omega) (by omega) (by omega) (by rw [h_sum_succ _ k0, ← hq2]; unfold X_wl0; first | (rw [if_pos (by omega)]) | (rw [if_neg (by omega)]) | (unfold b01; (repeat' split) <;> omega)))
                · refine m_iload hC 0 dX10_goblinByWealth_92 rfl ?_
                  refine m_if_gt (tgt := 108) hC dX10_goblinByWealth_94 (by decide) (by first | omega | (simp [hs_at] <;> omega)) (fun c94 => ?_) (fun c94 => ?_)
                  · refine m_iconst hC dX10_goblinByWealth_108 ?_
                    refine m_goto (tgt := 113) hC dX10_goblinByWealth_109 (by decide) ?_
                    refine m_iadd hC dX10_goblinByWealth_113 ?_
                    refine m_istore hC dX10_goblinByWealth_114 (by decide) rfl ?_
                    refine m_iinc hC 3 dX10_goblinByWealth_116 rfl (by decide) rfl ?_
                    refine m_goto (tgt := 21) hC dX10_goblinByWealth_119 (by decide) ?_
                    refine m_lvs [0, 1, 4, 5, 6, 7] rfl (ih2 (j + 1) _ (by omega) (by omega) (by omega) (by rw [h_sum_succ _ k0, ← hq2]; unfold X_wl0; first | (rw [if_pos (by omega)]) | (rw [if_neg (by omega)]) | (unfold b01; (repeat' split) <;> omega)))
                  · refine m_iload hC 0 dX10_goblinByWealth_97 rfl ?_
                    refine m_if_ne (tgt := 112) hC dX10_goblinByWealth_99 (by decide) (by first | omega | (simp [hs_at] <;> omega)) (fun c99 => ?_) (fun c99 => ?_)
                    · refine m_iconst hC dX10_goblinByWealth_112 ?_
                      refine m_iadd hC dX10_goblinByWealth_113 ?_
                      refine m_istore hC dX10_goblinByWealth_114 (by decide) rfl ?_
                      refine m_iinc hC 3 dX10_goblinByWealth_116 rfl (by decide) rfl ?_
                      refine m_goto (tgt := 21) hC dX10_goblinByWealth_119 (by decide) ?_
                      refine m_lvs [0, 1, 4, 5, 6, 7] rfl (ih2 (j + 1) _ (by omega) (by omega) (by omega) (by rw [h_sum_succ _ k0, ← hq2]; unfold X_wl0; first | (rw [if_pos (by omega)]) | (rw [if_neg (by omega)]) | (unfold b01; (repeat' split) <;> omega)))
                    · refine m_iload hC 2 dX10_goblinByWealth_102 rfl ?_
                      refine m_iload_n hC 4 dX10_goblinByWealth_104 rfl rfl ?_
                      refine m_dia_icmp_ge hC dX10_goblinByWealth_105 dX10_goblinByWealth_108 dX10_goblinByWealth_109 dX10_goblinByWealth_112 rfl rfl (by first | omega | (simp [hs_at] <;> omega)) ?_
                      refine m_iadd hC dX10_goblinByWealth_113 ?_
                      refine m_istore hC dX10_goblinByWealth_114 (by decide) rfl ?_
                      refine m_iinc hC 3 dX10_goblinByWealth_116 rfl (by decide) rfl ?_
                      refine m_goto (tgt := 21) hC dX10_goblinByWealth_119 (by decide) ?_
                      refine m_lvs [0, 1, 4, 5, 6, 7] rfl (ih2 (j + 1) _ (by omega) (by omega) (by omega) (by rw [h_sum_succ _ k0, ← hq2]; unfold X_wl0; first | (rw [if_pos (by omega)]) | (rw [if_neg (by omega)]) | (unfold b01; (repeat' split) <;> omega)))
        refine m_lvs [0, 1, 2, 3, 4, 5] rfl (L2 ((g 0 9).toNat + 1) 0 0 (by omega) (by omega) (by omega) rfl)
  refine m_lvs [0, 1, 3, 2] rfl (L ((g 0 9).toNat + 1) 0 (-1) (by omega) (by omega) (by omega) rfl)

