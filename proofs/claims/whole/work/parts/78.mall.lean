theorem t_d_up {tx : List Int} {s : Int × Int} : s.1 ≤ (t_d tx s).2.1 := by
  show s.1 ≤ r_q tx s.1 s.2 48 57
  unfold r_q
  split <;> omega
theorem t_s_up {tx : List Int} {s : Int × Int} {c : Int} : s.1 ≤ (t_s tx c s).1 := by
  show s.1 ≤ r_q tx s.1 s.2 c c
  unfold r_q
  split <;> omega
theorem nu_up {tx : List Int} : ∀ (k : Nat) (q wr n : Int), q ≤ (nu tx k q wr n).2.1 := by
  intro k
  induction k with
  | zero => intro q wr n; exact Int.le_refl _
  | succ k ih =>
    intro q wr n
    rw [nu]
    split
    · have := ih (q + 1) wr (10 * n + (ltr tx q - 48))
      omega
    · exact Int.le_refl _
theorem t_n_up {tx : List Int} {s : Int × Int} : s.1 ≤ (t_n tx s).2.1 := Int.le_trans (t_d_up (tx := tx) (s := s)) (nu_up 2 _ _ _)
theorem t_h_up {tx : List Int} {s : Int × Int} : s.1 ≤ (t_h tx s).2.1 := Int.le_trans t_d_up (Int.le_trans t_s_up (Int.le_trans t_d_up (Int.le_trans t_s_up (Int.le_trans t_n_up (Int.le_trans t_s_up t_n_up)))))
theorem c_p_up {tx : List Int} {w w2 : h_T} {n q : Int} {s2 : Int × Int} (hq : 0 ≤ q ∧ q ≤ (tx.length : Int)) (h : c_p tx w n q w2 s2) : (s2.2 = -1 → q + 4 ≤ s2.1) ∧ w2 0 18 = n + 1 ∧ (rX w tx → rX w2 tx) := by
  obtain ⟨k, s1, hk, hs1, h⟩ := h
  have hkr := k_kw_rg (tx := tx) (q := q) 12 0 q (by decide) (by decide) hq hq
  rw [← hk] at hkr
  have h1 : k ≠ -1 → q + 4 ≤ s1.1 := fun z => by
    have h9 : 0 ≤ k ∧ k ≤ 11 := by omega
    have := s_of_rg h9
    rw [hs1, if_neg z]
    show q + 4 ≤ q + (s_of (k + 1) - s_of k)
    omega
  have h2 : k = -1 → s1.2 ≠ -1 := fun z => by
    rw [hs1, if_pos z]
    show (k_kw tx q 12 0 q).2 ≠ -1
    omega
  have hx : rX w tx → rX (c_1 w n k) tx := fun z => ((z.st9).st9).st18
  rcases h with ⟨a, rfl, rfl⟩ | ⟨a, b, rfl, rfl⟩ | ⟨a, rfl, rfl⟩ | ⟨a, b, rfl, rfl⟩ | ⟨a, rfl, rfl⟩ | ⟨a, rfl, rfl⟩ | ⟨a, rfl, rfl⟩
  · exact ⟨fun z => absurd z (h2 a), rfl, hx⟩
  · exact ⟨fun _ => h1 (by omega), rfl, hx⟩
  · exact ⟨fun _ => Int.le_trans (h1 (by omega)) t_h_up, rfl, fun z => ((((hx z).st9).st9).st9).st9⟩
  · exact ⟨fun _ => Int.le_trans (h1 (by omega)) (Int.le_trans t_s_up t_n_up), rfl, fun z => (hx z).st9⟩
  · exact ⟨fun _ => Int.le_trans (h1 (by omega)) (Int.le_trans t_d_up (Int.le_trans t_s_up t_n_up)), rfl, fun z => ((hx z).st9).st9⟩
  · exact ⟨fun _ => Int.le_trans (h1 (by omega)) t_n_up, rfl, fun z => (hx z).st9⟩
  · exact ⟨fun _ => Int.le_trans (h1 (by omega)) t_d_up, rfl, fun z => (hx z).st9⟩
/-- commands read one behind another, from state s on -/
def c_run (tx : List Int) : Nat → h_T → Int × Int → h_T → Int × Int → Prop
  | 0, w, s, w2, s2 => w2 = w ∧ s2 = s ∧ ¬ (s.2 = -1 ∧ s.1 < (tx.length : Int))
  | m + 1, w, s, w2, s2 => (s.2 = -1 ∧ s.1 < (tx.length : Int)) ∧ (((t_s tx 59 s).2 = -1 ∧ ∃ (w1 : h_T) (s1 : Int × Int), c_p tx w (w 0 18) (t_s tx 59 s).1 w1 s1 ∧ c_run tx m w1 s1 w2 s2) ∨ ((t_s tx 59 s).2 ≠ -1 ∧ c_run tx m w (t_s tx 59 s) w2 s2))
def c_wA (w : h_T) : h_T := hs (hs (hs w 0 15 (w 0 11)) 0 11 0) 0 18 0
set_option maxHeartbeats 4000000 in
set_option maxRecDepth 100000 in
theorem t_X10_readsAll {D : va_G} {aC : Nat → ClassId} {s0 : State} {l : Launch} (hF : m_F D aC s0) (hl : l.stackTraces = false) {a : Nat} {w g : h_T} {tx : List Int} {M : m_M} (hV : mmV a w g M) (ha : s0.heap.size ≤ a)  (ht : w 0 11 = (tx.length : Int)) (hl6 : tx.length ≤ 60) (htx : ∀ i : Nat, i < tx.length → w 7 (i : Int) = tx.getD i 0) (hch : ∀ i : Nat, 0 ≤ tx.getD i 0 ∧ tx.getD i 0 < 128) {fo ks vs : Nat → Nat} {fA sA dO dT : Nat} (hJ : m_J s0 fo ks vs fA sA dO dT) {sa va : Nat} (hN : m_NM s0 sa va) : m_Met D aC s0 l yX10_readsAll cX10_readsAll 1 none 6 (0) (0) [.ref a] M (fun v M' => v = none ∧ (∃ (w1 : h_T) (s1 : Int × Int) (m9 : Nat) (w2 : h_T) (s2 : Int × Int), c_p tx (c_wA w) 0 0 w1 s1 ∧ c_run tx m9 w1 s1 w2 s2 ∧ t_ok tx s2 ∧ (0 ≤ w2 0 18 ∧ w2 0 18 ≤ 30) ∧ mmV a (rW w2 s2.1 s2.2) g M') ∧ m_fr a 10 M M') m_nx := by
  refine m_entry (lv := [(0, .ref a)]) (by decide +kernel) (Nat.le_of_ble_eq_true rfl) rfl hF hl ?_
  intro p e s m args below meth c hC hr hno hnm
  change m_C D aC s0 RX10 _ _ _ _ _ _ _ _ _ at hC
  refine m_aload_n hC 0 dX10_readsAll_0 rfl rfl ?_
  refine m_aload_n hC 0 dX10_readsAll_1 rfl rfl ?_
  refine m_getf hC dX10_readsAll_2 kf_X10_207 hV.ob rfl ?_
  refine m_ws15 hC hV ha dX10_readsAll_5 kf_X10_213 (fun M1 R2 f3 => ?_)
  refine m_aload_n hC 0 dX10_readsAll_8 rfl rfl ?_
  refine m_iconst hC dX10_readsAll_9 ?_
  refine m_ws11 hC R2 ha dX10_readsAll_10 kf_X10_207 (fun M4 R5 f6 => ?_)
  refine m_aload_n hC 0 dX10_readsAll_13 rfl rfl ?_
  refine m_iconst hC dX10_readsAll_14 ?_
  refine m_ws16 hC R5 ha dX10_readsAll_15 kf_X10_210 (fun M7 R8 f9 => ?_)
  refine m_aload_n hC 0 dX10_readsAll_18 rfl rfl ?_
  refine m_iconst hC dX10_readsAll_19 ?_
  refine m_ws17 hC R8 ha dX10_readsAll_20 kf_X10_216 (fun M10 R11 f12 => ?_)
  refine m_aload_n hC 0 dX10_readsAll_23 rfl rfl ?_
  refine m_iconst hC dX10_readsAll_24 ?_
  refine m_ws18 hC R11 ha dX10_readsAll_25 kf_X10_245 (fun M13 R14 f15 => ?_)
  have R16 : mmV a (rW (c_wA w) 0 (-1)) g M13 := by unfold c_wA; rw [← rW_18]; exact R14
  have hXA : rX (c_wA w) tx := ⟨ht, hl6, htx, hch⟩
  refine m_aload_n hC 0 dX10_readsAll_28 rfl rfl ?_
  refine m_callV hC (t_X10_readsCommand hF hl (w := c_wA w) (q := 0) (wr := -1) R16 ha hXA (by omega) (by omega) (n := 0) rfl (by decide) rfl hJ hN) dX10_readsAll_29 kc_X10_readsCommand kV_X10_254 R16.ob rfl rfl rfl rfl (Nat.le_of_ble_eq_true rfl) (by decide) (by decide) m_nox (fun v9 M17 h9 => ?_)
  obtain ⟨rfl, ⟨w1, s1, hp1, ok1, R18⟩, f19⟩ := h9
  have hfr0 : m_fr a 10 M M17 := (f3.tr (f6.tr (f9.tr (f12.tr (f15.tr f19)))))
  have hu1 := c_p_up ⟨Int.le_refl 0, by omega⟩ hp1
  have L : ∀ (n : Nat) (wb : h_T) (sb : Int × Int) (M1 : m_M), (62 - sb.1 < (n : Int) ∨ (sb.2 ≠ -1 ∧ 0 < n)) → mmV a (rW wb sb.1 sb.2) g M1 → m_fr a 10 M M1 → rX wb tx → t_ok tx sb → (sb.2 = -1 → 4 * (wb 0 18) ≤ sb.1) → 0 ≤ wb 0 18 ∧ wb 0 18 ≤ 16 → (∀ (m9 : Nat) (w9 : h_T) (s9 : Int × Int), c_run tx m9 wb sb w9 s9 → ∃ m8 : Nat, c_run tx m8 w1 s1 w9 s9) → m_W D aC s0 1 p l e (m_R 6 (0) (0)) s m args below meth c (0) (0) (m_Q D aC s0 below (fun v M' => v = none ∧ (∃ (w1 : h_T) (s1 : Int × Int) (m9 : Nat) (w2 : h_T) (s2 : Int × Int), c_p tx (c_wA w) 0 0 w1 s1 ∧ c_run tx m9 w1 s1 w2 s2 ∧ t_ok tx s2 ∧ (0 ≤ w2 0 18 ∧ w2 0 18 ≤ 30) ∧ mmV a (rW w2 s2.1 s2.2) g M') ∧ m_fr a 10 M M') m_nx args s (0) (0)) 32 [(0, .ref a)] [] M1 := by
    intro n
    induction n with
    | zero =>
      intro wb sb M1 hn hV1 hfr hXb okb hb1 hb2 hc
      have okb1 := okb.1; omega
    | succ n ih =>
      intro wb sb M1 hn hV1 hfr hXb okb hb1 hb2 hc
      have okb1 := okb.1
      have okb2 := okb.2
      have e17 : rW wb sb.1 sb.2 0 17 = sb.2 := rfl
      have e16 : rW wb sb.1 sb.2 0 16 = sb.1 := rfl
      have e15 : rW wb sb.1 sb.2 0 15 = (tx.length : Int) := hXb.1
      refine m_aload_n hC 0 dX10_readsAll_32 rfl rfl ?_
      refine m_getf hC dX10_readsAll_33 kf_X10_216 hV1.ob rfl ?_
      refine m_iconst hC dX10_readsAll_36 ?_
      refine m_icmp_ne (tgt := 72) hC dX10_readsAll_37 (by decide) (by first | omega | (simp [hs_at] <;> omega)) (fun c37 => ?_) (fun c37 => ?_)
      · obtain ⟨m8, h8⟩ := hc 0 wb sb ⟨rfl, rfl, fun z => by omega⟩
        exact m_vret hC dX10_readsAll_72 hr (by decide) (by decide) (⟨rfl, ⟨w1, s1, m8, wb, sb, hp1, h8, okb, by omega, hV1⟩, hfr.tr m_fr.rf⟩)
      · refine m_aload_n hC 0 dX10_readsAll_40 rfl rfl ?_
        refine m_getf hC dX10_readsAll_41 kf_X10_210 hV1.ob rfl ?_
        refine m_aload_n hC 0 dX10_readsAll_44 rfl rfl ?_
        refine m_getf hC dX10_readsAll_45 kf_X10_213 hV1.ob rfl ?_
        refine m_icmp_ge (tgt := 72) hC dX10_readsAll_48 (by decide) (by first | omega | (simp [hs_at] <;> omega)) (fun c48 => ?_) (fun c48 => ?_)
        · obtain ⟨m8, h8⟩ := hc 0 wb sb ⟨rfl, rfl, fun z => by omega⟩
          exact m_vret hC dX10_readsAll_72 hr (by decide) (by decide) (⟨rfl, ⟨w1, s1, m8, wb, sb, hp1, h8, okb, by omega, hV1⟩, hfr.tr m_fr.rf⟩)
        · refine m_aload_n hC 0 dX10_readsAll_51 rfl rfl ?_
          refine m_bipush hC dX10_readsAll_52 (by decide) ?_
          refine m_callV hC (t_X10_sign hF hl hV1 ha hXb okb.1 okb.2 (x := 59) (by decide)) dX10_readsAll_54 kc_X10_sign kV_X10_239 hV1.ob rfl rfl rfl rfl (Nat.le_of_ble_eq_true rfl) (by decide) (by decide) m_nox (fun v9 M20 h9 => ?_)
          obtain ⟨rfl, R21, f22⟩ := h9
          have oks : t_ok tx (t_s tx 59 sb) := t_s_ok okb (by decide)
          have hus := t_s_up (tx := tx) (s := sb) (c := 59)
          have R23 : mmV a (rW wb (t_s tx 59 sb).1 (t_s tx 59 sb).2) g M20 := R21
          have s17 : rW wb (t_s tx 59 sb).1 (t_s tx 59 sb).2 0 17 = (t_s tx 59 sb).2 := rfl
          have oks2 := oks.2
          have oks1 := oks.1
          refine m_aload_n hC 0 dX10_readsAll_57 rfl rfl ?_
          refine m_getf hC dX10_readsAll_58 kf_X10_216 R23.ob rfl ?_
          refine m_iconst hC dX10_readsAll_61 ?_
          refine m_icmp_ne (tgt := 32) hC dX10_readsAll_62 (by decide) (by first | omega | (simp [hs_at] <;> omega)) (fun c62 => ?_) (fun c62 => ?_)
          · refine m_lvs [0] rfl (ih wb (t_s tx 59 sb) M20 (by omega) R23 (hfr.tr f22) hXb oks (by omega) (by omega) (fun m9 w9 s9 h9 => hc (m9 + 1) w9 s9 ⟨⟨by omega, by omega⟩, Or.inr ⟨by omega, h9⟩⟩))
          · refine m_aload_n hC 0 dX10_readsAll_65 rfl rfl ?_
            refine m_callV hC (t_X10_readsCommand hF hl (w := wb) (q := (t_s tx 59 sb).1) (wr := (t_s tx 59 sb).2) R23 ha hXb oks.1 oks.2 (n := wb 0 18) rfl (by omega) (by omega) hJ hN) dX10_readsAll_66 kc_X10_readsCommand kV_X10_254 R23.ob rfl rfl rfl rfl (Nat.le_of_ble_eq_true rfl) (by decide) (by decide) m_nox (fun v9 M24 h9 => ?_)
            obtain ⟨rfl, ⟨w3, s3, hp3, ok3, R25⟩, f26⟩ := h9
            have hu3 := c_p_up oks.1 hp3
            refine m_goto (tgt := 32) hC dX10_readsAll_69 (by decide) ?_
            refine m_lvs [0] rfl (ih w3 s3 M24 (by omega) R25 (hfr.tr (f22.tr f26)) (hu3.2.2 hXb) ok3 (by omega) (by omega) (fun m9 w9 s9 h9 => hc (m9 + 1) w9 s9 ⟨⟨by omega, by omega⟩, Or.inl ⟨by omega, w3, s3, hp3, h9⟩⟩))
  refine m_lvs [0] rfl (L 64 w1 s1 M17 (by have := ok1.1; omega) R18 hfr0 (hu1.2.2 hXA) ok1 (by omega) (by omega) (fun m9 w9 s9 h9 => ⟨m9, h9⟩))

