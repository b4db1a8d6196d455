/-! the reference's runScript -/
def cK (w w2 : h_T) : Prop := ∀ (c : Nat) (i : Int), c ≠ 9 → (c ≠ 0 ∨ i ≠ 18) → w2 c i = w c i
theorem cK.rf {w : h_T} : cK w w := fun _ _ _ _ => rfl
theorem cK.tr {w w1 w2 : h_T} (h : cK w w1) (h2 : cK w1 w2) : cK w w2 := fun c i a b => (h2 c i a b).trans (h c i a b)
theorem cK.st9 {w w1 : h_T} {i v : Int} (h : cK w w1) : cK w (hs w1 9 i v) := fun c j a b => by rw [hs_c a]; exact h c j a b
theorem cK.c1 {w : h_T} {n k : Int} : cK w (c_1 w n k) := fun c j a b => by
  unfold c_1
  rw [show hs (hs (hs w 9 (5 * n) k) 9 (5 * n + 1) 1) 0 18 (n + 1) c j = hs (hs w 9 (5 * n) k) 9 (5 * n + 1) 1 c j from if_neg (by omega), hs_c a, hs_c a]
theorem c_p_keep {tx : List Int} {w w2 : h_T} {n q : Int} {s2 : Int × Int} (h : c_p tx w n q w2 s2) : cK w w2 := by
  obtain ⟨k, s1, hk, hs1, h⟩ := h
  rcases h with ⟨a, rfl, -⟩ | ⟨a, b, rfl, -⟩ | ⟨a, rfl, -⟩ | ⟨a, b, rfl, -⟩ | ⟨a, rfl, -⟩ | ⟨a, rfl, -⟩ | ⟨a, rfl, -⟩
  · exact cK.c1
  · exact cK.c1
  · exact cK.c1.st9.st9.st9.st9
  · exact cK.c1.st9
  · exact cK.c1.st9.st9
  · exact cK.c1.st9
  · exact cK.c1.st9
theorem c_run_cK {tx : List Int} : ∀ (m : Nat) (w : h_T) (s : Int × Int) (w2 : h_T) (s2 : Int × Int), c_run tx m w s w2 s2 → cK w w2 := by
  intro m
  induction m with
  | zero => intro w s w2 s2 h; rw [h.1]; exact cK.rf
  | succ m ih =>
    intro w s w2 s2 h
    rcases h.2 with ⟨-, w1, s1, hp, hr⟩ | ⟨-, hr⟩
    · exact (c_p_keep hp).tr (ih _ _ _ _ hr)
    · exact ih _ _ _ _ hr
theorem rW_k {w : h_T} {q wr : Int} {c : Nat} {i : Int} (h : c ≠ 0 ∨ (i ≠ 16 ∧ i ≠ 17)) : rW w q wr c i = w c i := by
  unfold rW
  rw [show hs (hs w 0 16 q) 0 17 wr c i = hs w 0 16 q c i from if_neg (by omega), show hs w 0 16 q c i = w c i from if_neg (by omega)]
theorem wA_k {w : h_T} {c : Nat} {i : Int} (h : c ≠ 0 ∨ (i ≠ 15 ∧ i ≠ 11 ∧ i ≠ 18)) : c_wA w c i = w c i := by
  unfold c_wA
  rw [show hs (hs (hs w 0 15 (w 0 11)) 0 11 0) 0 18 0 c i = hs (hs w 0 15 (w 0 11)) 0 11 0 c i from if_neg (by omega), show hs (hs w 0 15 (w 0 11)) 0 11 0 c i = hs w 0 15 (w 0 11) c i from if_neg (by omega), show hs w 0 15 (w 0 11) c i = w c i from if_neg (by omega)]
/-- what the reading leaves of the reference's state: the text is gone -/
theorem X_rsW {w w2 sg : h_T} {th : Int} {L : Nat → h_T} {q : Int → Int} {tx ot : List Int} {sq sw : Int} (hW : mdW w th sg L q tx ot) (hk : cK (c_wA w) w2) : mdW (rW w2 sq sw) th sg L q [] ot := by
  obtain ⟨h14, ⟨e6, e5, e7, e8⟩, hq0, hq1, hs4, hL, ⟨et, ht⟩, ⟨eo, ho⟩⟩ := hW
  have k0 : ∀ i : Int, i ≠ 15 → i ≠ 16 → i ≠ 17 → i ≠ 18 → i ≠ 11 → rW w2 sq sw 0 i = w 0 i := fun i a b c d e => by
    rw [rW_k (Or.inr ⟨b, c⟩), hk 0 i (by decide) (Or.inr d), wA_k (Or.inr ⟨a, e, d⟩)]
  have kc : ∀ c : Nat, c ≠ 0 → c ≠ 9 → rW w2 sq sw c = w c := fun c a b => funext fun i => by
    rw [rW_k (Or.inl a), hk c i b (Or.inl a), wA_k (Or.inl a)]
  have k11 : rW w2 sq sw 0 11 = 0 := by
    rw [rW_k (Or.inr (by decide)), hk 0 11 (by decide) (Or.inr (by decide))]
    rfl
  unfold mdW
  rw [k0 14 (by decide) (by decide) (by decide) (by decide) (by decide), k0 6 (by decide) (by decide) (by decide) (by decide) (by decide), k0 5 (by decide) (by decide) (by decide) (by decide) (by decide), k0 7 (by decide) (by decide) (by decide) (by decide) (by decide), k0 8 (by decide) (by decide) (by decide) (by decide) (by decide), k0 13 (by decide) (by decide) (by decide) (by decide) (by decide), k11, kc 4 (by decide) (by decide), kc 5 (by decide) (by decide), kc 8 (by decide) (by decide)]
  exact ⟨h14, ⟨e6, e5, e7, e8⟩, hq0, hq1, hs4, hL, ⟨rfl, fun i hi => absurd hi (Nat.not_lt_zero _)⟩, eo, ho⟩
def m_rsQ (a : Nat) (g sg : h_T) (L : Nat → h_T) (q : Int → Int) (RS : Bool × Int × List (Nat × List Int)) (ot : List Int) (M : m_M) : Option Value → m_M → Prop := fun v M' =>
  ((RS.1 = false ∧ v = some (VI 0) ∧ mdP a 1 g sg L (m_ug q 2 RS.2.1) [] ot M') ∨ (RS.1 = true ∧ (S_runs RS.2.2 0 g).1 ≠ -1 ∧ v = some (VI 0) ∧ mdP a 2 g sg L (m_ug q 3 (S_runs RS.2.2 0 g).1) [] ot M') ∨
   (RS.1 = true ∧ (S_runs RS.2.2 0 g).1 = -1 ∧ v = some (VI (RS.2.2.length : Int)) ∧ mdP a 0 (S_runs RS.2.2 0 g).2 sg (c_L (q 0) g L) (c_q q) [] ot M')) ∧ m_fr a 10 M M'
theorem X_rs1 {a : Nat} {w g sg : h_T} {th e : Int} {L : Nat → h_T} {q : Int → Int} {ot : List Int} {M2 : m_M} (hW : mdW w th sg L q [] ot) (hV : mmV a (hs (hs w 0 7 e) 0 14 1) g M2) : mdP a 1 g sg L (m_ug q 2 e) [] ot M2 := by
  obtain ⟨h14, ⟨e6, e5, e7, e8⟩, hq0, hq1, hs4, hL, ht, ho⟩ := hW
  exact ⟨_, hV, rfl, ⟨e6, e5, rfl, e8⟩, hq0, hq1, hs4, hL, ht, ho⟩
theorem X_rs2 {a : Nat} {w g sg : h_T} {th e t0 : Int} {L : Nat → h_T} {q : Int → Int} {ot : List Int} {M2 : m_M} (hW : mdW w th sg L q [] ot) (hV : mmV a (hs (hs (hs w 0 14 t0) 0 8 e) 0 14 2) g M2) : mdP a 2 g sg L (m_ug q 3 e) [] ot M2 := by
  obtain ⟨h14, ⟨e6, e5, e7, e8⟩, hq0, hq1, hs4, hL, ht, ho⟩ := hW
  exact ⟨_, hV, rfl, ⟨e6, e5, e7, rfl⟩, hq0, hq1, hs4, hL, ht, ho⟩
theorem X_rs3 {a : Nat} {w g g2 sg : h_T} {th : Int} {L : Nat → h_T} {q : Int → Int} {ot : List Int} {M2 : m_M} {H : Int → Int} (hW : mdW w th sg L q [] ot) (h0 : w 0 14 = 0) (hH : mH H (min (w 0 6 + 1) 8) (c_L (w 0 6) g L)) (hV : mmV a (hs (wc w 5 H) 0 6 (min (w 0 6 + 1) 8)) g2 M2) : mdP a 0 g2 sg (c_L (q 0) g L) (c_q q) [] ot M2 := by
  obtain ⟨h14, ⟨e6, e5, e7, e8⟩, hq0, hq1, hs4, hL, ht, ho⟩ := hW
  rw [e6] at hH hV
  have c0 : c_q q 0 = min (q 0 + 1) 8 := by unfold c_q m_ug; rw [if_pos rfl]
  have c1 : ∀ k : Int, k ≠ 0 → c_q q k = q k := fun k hk => by unfold c_q m_ug; rw [if_neg hk]
  refine ⟨_, hV, ?_⟩
  unfold mdW
  rw [c0, c1 1 (by decide), c1 2 (by decide), c1 3 (by decide)]
  exact ⟨h0, ⟨hs_s, e5, e7, e8⟩, by omega, hq1, hs4, hH, ht, ho⟩
set_option maxHeartbeats 4000000 in
set_option maxRecDepth 100000 in
theorem t_X10_runScript {D : va_G} {aC : Nat → ClassId} {s0 : State} {l : Launch} (hF : m_F D aC s0) (hl : l.stackTraces = false) {a : Nat} {g sg : h_T} {L : Nat → h_T} {q : Int → Int} {tx ot : List Int} {th : Int} {M : m_M} (hD : mdP a th g sg L q tx ot M) (ha : s0.heap.size ≤ a) {K : Int} (hI : h_I K g) (hKb : K ≤ 77000000) (hLc : ∀ i : Nat, (i : Int) < q 0 → cB (L i)) (hl6 : tx.length ≤ 60) (hch : ∀ i : Nat, 0 ≤ tx.getD i 0 ∧ tx.getD i 0 < 128) {fo ks vs : Nat → Nat} {fA sA dO dT : Nat} (hJ : m_J s0 fo ks vs fA sA dO dT) {sa va : Nat} (hN : m_NM s0 sa va) : m_Met D aC s0 l yX10_runScript cX10_runScript 3 (some .int) 12 (0) (0) [.ref a] M (m_rsQ a g sg L q (p_rcs tx 12 0 0) ot M) m_nx := by
  refine m_entry (lv := [(0, .ref a)]) (by decide +kernel) (Nat.le_of_ble_eq_true rfl) rfl hF hl ?_
  intro p e s m args below meth c hC hr hno hnm
  change m_C D aC s0 RX10 _ _ _ _ _ _ _ _ _ at hC
  obtain ⟨w, hV, hW⟩ := hD
  refine m_aload_n hC 0 dX10_runScript_0 rfl rfl ?_
  refine m_callV hC (t_X10_readsAll hF hl hV ha hW.2.2.2.2.2.2.1.1 hl6 hW.2.2.2.2.2.2.1.2 hch hJ hN) dX10_runScript_1 kc_X10_readsAll kV_X10_257 hV.ob rfl rfl rfl rfl (Nat.le_of_ble_eq_true rfl) (by decide) (by decide) m_nox (fun v9 M1 h9 => ?_)
  obtain ⟨rfl, ⟨w1, s1, m9, w2, s2, hp, hrun, ok2, h18, R2⟩, f3⟩ := h9
  have hXA : rX (c_wA w) tx := ⟨hW.2.2.2.2.2.2.1.1, hl6, hW.2.2.2.2.2.2.1.2, hch⟩
  have hq0 : (0 : Int) ≤ 0 ∧ (0 : Int) ≤ (tx.length : Int) := ⟨Int.le_refl _, by omega⟩
  obtain ⟨hl1, hl2⟩ := X_run m9 12 0 0 0 (c_wA w) w1 s1 w2 s2 hXA hq0 (by decide) (by decide) hp hrun
  have hW2 : mdW (rW w2 s2.1 s2.2) th sg L q [] ot := X_rsW hW ((c_p_keep hp).tr (c_run_cK _ _ _ _ _ hrun))
  have e17 : rW w2 s2.1 s2.2 0 17 = s2.2 := rfl
  have okb2 := ok2.2
  refine m_aload_n hC 0 dX10_runScript_4 rfl rfl ?_
  refine m_getf hC dX10_runScript_5 kf_X10_216 R2.ob rfl ?_
  refine m_iconst hC dX10_runScript_8 ?_
  refine m_icmp_eq (tgt := 27) hC dX10_runScript_9 (by decide) (by first | omega | (simp [hs_at] <;> omega)) (fun c9 => ?_) (fun c9 => ?_)
  · have hg2 : s2.2 = -1 := by rw [← e17]; exact c9
    obtain ⟨ht1, hrc⟩ := hl2 hg2
    have hX1 := (c_p_up hq0 hp).2.2 hXA
    have hcO := c_run_cmd m9 w1 s1 w2 s2 hX1 (c_p_ok hXA hq0 hp) hrun hg2 (by rw [(c_p_up hq0 hp).2.1]; decide) (fun i i0 i1 => by
      rw [(c_p_up hq0 hp).2.1] at i1
      have hi : i = 0 := by omega
      rw [hi]
      have hs1 : s1.2 = -1 := by
        by_cases z : s1.2 = -1
        · exact z
        · exact absurd hg2 (c_run_bad hrun z)
      exact (c_p_cmd hXA hq0 hp hs1).2)
    obtain ⟨RS, hRS⟩ : ∃ z, p_rcs tx 12 0 0 = z := ⟨_, rfl⟩
    rw [hRS] at ht1 hrc ⊢
    have e18 := hrc.1
    have hB := hI.1.toB (by omega)
    refine m_aload_n hC 0 dX10_runScript_27 rfl rfl ?_
    refine m_callV hC (t_X10_begins hF hl R2 ha hB) dX10_runScript_28 kc_X10_begins kV_X10_102 R2.ob rfl rfl rfl rfl (Nat.le_of_ble_eq_true rfl) (by decide) (by decide) m_nox (fun v9 M4 h9 => ?_)
    obtain ⟨rfl, ⟨B, hBe, R5⟩, f6⟩ := h9
    refine m_aload_n hC 0 dX10_runScript_31 rfl rfl ?_
    refine m_iconst hC dX10_runScript_32 ?_
    refine m_ws14 hC R5 ha dX10_runScript_33 kf_X10_44 (fun M7 R8 f9 => ?_)
    have hfr0 : m_fr a 10 M M7 := (f3.tr (f6.tr f9))
    obtain ⟨W3, hW3⟩ : ∃ z, (wc (rW w2 s2.1 s2.2) 2 B) = z := ⟨_, rfl⟩
    rw [hW3] at R8
    have g9 : W3 9 = w2 9 := by rw [← hW3, wc_n (by decide)]; rfl
    have g18 : W3 0 18 = w2 0 18 := by rw [← hW3, wc_n (by decide)]; rfl
    have g2 : W3 2 = B := by rw [← hW3, wc_s]
    have gW : mdW W3 th sg L q [] ot := hW2.keep (by rw [← hW3, wc_n (by decide)]; exact hW2.1) (fun k hk => by rw [← hW3, wc_n (by decide)]) (fun c hc => by rw [← hW3, wc_n (by omega)])
    refine m_iconst hC dX10_runScript_36 ?_
    refine m_istore_n hC dX10_runScript_37 rfl (by decide) rfl ?_
    have LL : ∀ (n : Nat) (k : Int) (gk : h_T) (M4 : m_M), w2 0 18 - k < (n : Int) → 0 ≤ k → k ≤ w2 0 18 → mmV a (hs W3 0 14 0) gk M4 → h_I (K + 5300 * k) gk → S_runs RS.2.2 0 g = S_runs (RS.2.2.drop k.toNat) k gk → m_fr a 10 M M4 → m_W D aC s0 3 p l e (m_R 12 (0) (0)) s m args below meth c (0) (0) (m_Q D aC s0 below (m_rsQ a g sg L q RS ot M) m_nx args s (0) (0)) 38 [(1, VI k), (0, .ref a)] [] M4 := by
      intro n
      induction n with
      | zero =>
        intro k gk M4 hn k0 k1 hV4 hI4 hS4 hfr4
        omega
      | succ n ih =>
        intro k gk M4 hn k0 k1 hV4 hI4 hS4 hfr4
        have f18 : hs W3 0 14 0 0 18 = w2 0 18 := g18
        have f9 : hs W3 0 14 0 9 = w2 9 := g9
        have hB4 := hI4.1.toB (by omega)
        refine m_iload_n hC 0 dX10_runScript_38 rfl rfl ?_
        refine m_aload_n hC 1 dX10_runScript_39 rfl rfl ?_
        refine m_getf hC dX10_runScript_40 kf_X10_245 hV4.ob rfl ?_
        refine m_icmp_ge (tgt := 92) hC dX10_runScript_43 (by decide) (by first | omega | (simp [hs_at] <;> omega)) (fun c43 => ?_) (fun c43 => ?_)
        · refine m_aload_n hC 1 dX10_runScript_92 rfl rfl ?_
          refine m_aload_n hC 1 dX10_runScript_93 rfl rfl ?_
          refine m_getf hC dX10_runScript_94 kf_X10_245 hV4.ob rfl ?_
          have hS7 : S_runs RS.2.2 0 g = (-1, gk) := by rw [hS4, List.drop_of_length_le (by omega)]; rfl
          have gW4 : mdW (hs W3 0 14 0) 0 sg L q [] ot := gW.th 0
          have hn6 : 0 ≤ hs W3 0 14 0 0 6 ∧ hs W3 0 14 0 0 6 ≤ 8 := by rw [gW4.2.1.1]; exact gW4.2.2.1
          refine m_callV hC (t_X10_ends hF hl hV4 ha hB4 (z := hs W3 0 14 0 0 18) (gb := g) (L := L) hn6 (by rw [gW4.2.1.1]; exact gW4.2.2.2.2.2.1) (by rw [gW4.2.1.1]; exact hLc) (show h_eq (tA (W3 2)) g by rw [g2]; exact hBe) hB.c (by rw [gW4.1]; decide)) dX10_runScript_97 kc_X10_ends kV_X10_109 hV4.ob rfl rfl rfl rfl (Nat.le_of_ble_eq_true rfl) (by decide) (by decide) m_nox (fun v9 M9 h9 => ?_)
          obtain ⟨h9a, f9z⟩ := h9
          rcases h9a with ⟨c99, rfl, R9⟩ | ⟨c99, rfl, H, hH, R9⟩
          · exact absurd gW4.1 c99
          · exact m_iret hC dX10_runScript_100 hr (by decide) (by decide) ⟨Or.inr (Or.inr ⟨ht1, by rw [hS7], by rw [f18, e18, Int.zero_add], by rw [hS7]; exact X_rs3 gW4 gW4.1 hH R9⟩), hfr4.tr f9z⟩
        · refine m_aload_n hC 1 dX10_runScript_46 rfl rfl ?_
          refine m_iconst hC dX10_runScript_47 ?_
          refine m_iload_n hC 0 dX10_runScript_48 rfl rfl ?_
          refine m_imul hC dX10_runScript_49 ?_
          obtain ⟨cA, cB9, cC, cD⟩ := hcO k k0 (by omega)
          rw [← f9] at cA cB9 cC cD
          have hdr : RS.2.2.drop k.toNat = RS.2.2.getD k.toNat (0, []) :: RS.2.2.drop (k + 1).toNat := by
            have hgd : RS.2.2.getD k.toNat (0, []) = RS.2.2[k.toNat]'(by omega) := by rw [List.getD_eq_getElem?_getD, List.getElem?_eq_getElem (by omega)]; rfl
            rw [hgd, show (k + 1).toNat = k.toNat + 1 by omega]
            exact List.drop_eq_getElem_cons _
          have hcr := hrc.2 k.toNat (by omega)
          rw [show (0 : Int) + ((k.toNat : Nat) : Int) = k by omega] at hcr
          have hex := hcr.ex (g := gk)
          rw [← f9] at hex
          rw [hdr, S_runs] at hS4
          refine m_callV hC (t_X10_does hF hl hV4 ha hB4 (x := 5 * k) (by omega) cA (by omega) (fun z => by have := cC z; omega) (fun z => by have := cD z; omega) hI4 (by omega)) dX10_runScript_50 kc_X10_does kV_X10_260 hV4.ob rfl rfl rfl rfl (Nat.le_of_ble_eq_true rfl) (by decide) (by decide) m_nox (fun v9 M10 h9 => ?_)
          obtain ⟨rfl, ⟨th9, hth1, hth2, R11⟩, f12⟩ := h9
          rw [hex] at hth1 R11 ⊢
          have hIp := S_exec_I hI4 (RS.2.2.getD k.toNat (0, [])).1 (p_ar (RS.2.2.getD k.toNat (0, [])).2)
          generalize hS9 : S_exec gk (RS.2.2.getD k.toNat (0, [])).1 (p_ar (RS.2.2.getD k.toNat (0, [])).2) = S9 at *
          rw [hs_ss] at R11
          have f14 : hs W3 0 14 th9 0 14 = th9 := hs_s
          refine m_istore_n hC dX10_runScript_53 rfl (by decide) rfl ?_
          refine m_aload_n hC 2 dX10_runScript_54 rfl rfl ?_
          refine m_getf hC dX10_runScript_55 kf_X10_44 R11.ob rfl ?_
          refine m_if_eq (tgt := 86) hC dX10_runScript_58 (by decide) (by first | omega | (simp [hs_at] <;> omega)) (fun c58 => ?_) (fun c58 => ?_)
          · have hpos : ¬ S9.1 < 0 := fun z => hth1.mpr z (by rw [← f14]; exact c58)
            have hz9 : th9 = 0 := by rw [← f14]; exact c58
            subst hz9
            have hS5 : S_runs RS.2.2 0 g = S_runs (RS.2.2.drop (k + 1).toNat) (k + 1) S9.2 := by rw [hS4, if_neg hpos]
            refine m_iinc hC 1 dX10_runScript_86 rfl (by decide) rfl ?_
            refine m_goto (tgt := 38) hC dX10_runScript_89 (by decide) ?_
            refine m_lvs [0, 2] rfl (ih (k + 1) S9.2 M10 (by omega) (by omega) (by omega) R11 (by have z := hIp; unfold h_Ip at z; exact z.mono (by omega)) hS5 (hfr4.tr f12))
          · have hneg : S9.1 < 0 := hth1.mp (by rw [← f14]; exact c58)
            have hS6 : (S_runs RS.2.2 0 g).1 = k := by rw [hS4, if_pos hneg]
            refine m_aload_n hC 2 dX10_runScript_61 rfl rfl ?_
            refine m_iload_n hC 1 dX10_runScript_62 rfl rfl ?_
            refine m_ws8 hC R11 ha dX10_runScript_63 kf_X10_29 (fun M13 R14 f15 => ?_)
            refine m_aload_n hC 2 dX10_runScript_66 rfl rfl ?_
            refine m_iconst hC dX10_runScript_67 ?_
            refine m_ws14 hC R14 ha dX10_runScript_68 kf_X10_44 (fun M16 R17 f18 => ?_)
            refine m_aload_n hC 2 dX10_runScript_71 rfl rfl ?_
            refine m_getf hC dX10_runScript_72 kf_X10_13 R17.ob rfl ?_
            refine m_iconst hC dX10_runScript_75 ?_
            refine m_aload_n hC 2 dX10_runScript_76 rfl rfl ?_
            refine m_getf hC dX10_runScript_77 kf_X10_9 R17.ob rfl ?_
            refine m_iconst hC dX10_runScript_80 ?_
            obtain ⟨A19, hA19, eA19⟩ := R17.c1
            refine m_callS hC (t_X10_copies hF hl (x := 0) (y := 0) R17.c2 hA19 (by omega) (by omega) (by omega) (by omega) (by omega)) dX10_runScript_81 kc_X10_copies kS_X10_51 rfl rfl (Nat.le_of_ble_eq_true rfl) (by decide) (by decide) m_nox (fun v9 M20 h9 => ?_)
            obtain ⟨rfl, R21, f23⟩ := h9
            have R22 := R17.cp1 R21 f23 ((show h_eq (tA (W3 2)) g by rw [g2]; exact hBe).B (fun j hj => X_c0 hj) hB.c)
            refine m_iconst hC dX10_runScript_84 ?_
            exact m_iret hC dX10_runScript_85 hr (by decide) (by decide) ((⟨Or.inr (Or.inl ⟨ht1, by omega, rfl, by rw [hS6]; exact X_rs2 gW R22⟩), hfr4.tr (f12.tr (f15.tr (f18.tr (f23.mono (by omega) (by omega)))))⟩))
    refine m_lvs [0, 1] rfl (LL ((w2 0 18).toNat + 1) 0 g M7 (by omega) (by omega) (by omega) R8 (hI.mono (by omega)) rfl hfr0)
  · have hl1 := hl1 (by rw [← e17]; exact c9)
    refine m_aload_n hC 0 dX10_runScript_12 rfl rfl ?_
    refine m_aload_n hC 0 dX10_runScript_13 rfl rfl ?_
    refine m_getf hC dX10_runScript_14 kf_X10_216 R2.ob rfl ?_
    refine m_ws7 hC R2 ha dX10_runScript_17 kf_X10_25 (fun M24 R25 f26 => ?_)
    refine m_aload_n hC 0 dX10_runScript_20 rfl rfl ?_
    refine m_iconst hC dX10_runScript_21 ?_
    refine m_ws14 hC R25 ha dX10_runScript_22 kf_X10_44 (fun M27 R28 f29 => ?_)
    refine m_iconst hC dX10_runScript_25 ?_
    exact m_iret hC dX10_runScript_26 hr (by decide) (by decide) ((⟨Or.inl ⟨hl1.1, rfl, by rw [hl1.2]; exact X_rs1 hW2 R28⟩, (f3.tr (f26.tr f29))⟩))

