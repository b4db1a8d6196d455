def mdW (w : h_T) (th : Int) (sg : h_T) (L : Nat → h_T) (q : Int → Int) (tx ot : List Int) : Prop := w 0 14 = th ∧ (w 0 6 = q 0 ∧ w 0 5 = q 1 ∧ w 0 7 = q 2 ∧ w 0 8 = q 3) ∧ (0 ≤ q 0 ∧ q 0 ≤ 8) ∧ (q 1 = 0 ∨ q 1 = 1) ∧ (q 1 = 1 → h_eq (tA (w 4)) sg) ∧ mH (w 5) (q 0) L ∧ (w 0 11 = (tx.length : Int) ∧ ∀ i : Nat, i < tx.length → w 7 (i : Int) = tx.getD i 0) ∧ (w 0 13 = (ot.length : Int) ∧ ∀ i : Nat, i < ot.length → w 8 (i : Int) = ot.getD i 0)
def mdP (a : Nat) (th : Int) (g sg : h_T) (L : Nat → h_T) (q : Int → Int) (tx ot : List Int) (M : m_M) : Prop := ∃ w, mmV a w g M ∧ mdW w th sg L q tx ot
theorem mdW.keep {w w2 : h_T} {th th2 : Int} {sg : h_T} {L : Nat → h_T} {q : Int → Int} {tx ot : List Int} (h : mdW w th sg L q tx ot) (h14 : w2 0 14 = th2) (h0 : ∀ k : Int, k = 5 ∨ k = 6 ∨ k = 7 ∨ k = 8 ∨ k = 11 ∨ k = 13 → w2 0 k = w 0 k) (hc : ∀ c : Nat, c = 4 ∨ c = 5 ∨ c = 7 ∨ c = 8 → w2 c = w c) : mdW w2 th2 sg L q tx ot := by
  unfold mdW at h ⊢
  rw [h14, h0 5 (by omega), h0 6 (by omega), h0 7 (by omega), h0 8 (by omega), h0 11 (by omega), h0 13 (by omega), hc 4 (by omega), hc 5 (by omega), hc 7 (by omega), hc 8 (by omega)]
  exact ⟨rfl, h.2⟩
theorem mdW.th {w : h_T} {th : Int} {sg : h_T} {L : Nat → h_T} {q : Int → Int} {tx ot : List Int} (h : mdW w th sg L q tx ot) (t : Int) : mdW (hs w 0 14 t) t sg L q tx ot := h.keep hs_s (fun k hk => hs_i (by omega)) (fun c hc => hs_c (by omega))
def m_chP (a : Nat) (cs : List Int) (S : Int × h_T) (sg : h_T) (L2 L : Nat → h_T) (q : Int → Int) (tx ot : List Int) (M : m_M) : Option Value → m_M → Prop := fun v M' => v = some (VI (if S.1 < 0 then 0 else S.1)) ∧ mdP a (o_th cs S.1) S.2 sg (if S.1 < 0 then L else L2) (if S.1 < 0 then q else c_q q) tx ot M' ∧ m_fr a 10 M M'
theorem X_ch1 {a : Nat} {w g sg : h_T} {th : Int} {cs : List Int} {S : Int × h_T} {L L2 : Nat → h_T} {q : Int → Int} {tx ot : List Int} {M M2 : m_M} {B : Int → Int} (hW : mdW w th sg L q tx ot) (hok : S_ok cs g S) (hcs : ∀ z ∈ cs, z < 0 ∧ o_th cs z ≠ 0) (hc : o_th cs S.1 ≠ 0) (hV : mmV a (hs (wc w 2 B) 0 14 (o_th cs S.1)) g M2) (hf : m_fr a 10 M M2) : m_chP a cs S sg L2 L q tx ot M (some (VI 0)) M2 := by
  rcases hok with h | ⟨h, h2⟩
  · exact absurd (if_pos h.1) hc
  · have h3 := (hcs _ h).1
    refine ⟨by rw [if_pos h3], ?_, hf⟩
    rw [if_pos h3, if_pos h3, h2]
    exact ⟨_, hV, hW.keep hs_s (fun k hk => hs_i (by omega)) (fun c hc => (hs_c (by omega)).trans (wc_n (by omega)))⟩
theorem X_ch2 {a : Nat} {w g sg : h_T} {th : Int} {cs : List Int} {S : Int × h_T} {L : Nat → h_T} {q : Int → Int} {tx ot : List Int} {M M2 : m_M} {B H : Int → Int} (hW : mdW w th sg L q tx ot) (hok : S_ok cs g S) (hcs : ∀ z ∈ cs, z < 0 ∧ o_th cs z ≠ 0) (hc : o_th cs S.1 = 0) (hH : mH H (min (w 0 6 + 1) 8) (c_L (w 0 6) g L)) (hV : mmV a (hs (wc (hs (wc w 2 B) 0 14 (o_th cs S.1)) 5 H) 0 6 (min (w 0 6 + 1) 8)) S.2 M2) (hf : m_fr a 10 M M2) : m_chP a cs S sg (c_L (q 0) g L) L q tx ot M (some (VI (if S.1 < 0 then 0 else S.1))) M2 := by
  have h3 : ¬ S.1 < 0 := by
    rcases hok with h | ⟨h, h2⟩
    · omega
    · exact absurd hc (hcs _ h).2
  refine ⟨rfl, ?_, hf⟩
  rw [if_neg h3, if_neg h3]
  obtain ⟨h14, ⟨e6, e5, e7, e8⟩, hq0, hq1, hs4, hL, ⟨et, ht⟩, ⟨eo, ho⟩⟩ := hW
  rw [e6] at hH hV
  have c0 : c_q q 0 = min (q 0 + 1) 8 := by unfold c_q m_ug; rw [if_pos rfl]
  have c1 : ∀ k : Int, k ≠ 0 → c_q q k = q k := fun k hk => by unfold c_q m_ug; rw [if_neg hk]
  refine ⟨_, hV, ?_⟩
  unfold mdW
  rw [c0, c1 1 (by decide), c1 2 (by decide), c1 3 (by decide)]
  refine ⟨rfl, ⟨hs_s, e5, e7, e8⟩, by omega, hq1, hs4, hH, ⟨et, ht⟩, ⟨eo, ho⟩⟩
theorem X_o14 (cs : List Int) (z : Int) (h : cs.length ≤ 4 := by decide) : 0 ≤ o_th cs z ∧ o_th cs z ≤ 5 := by
  have key : ∀ (cs : List Int), 1 ≤ o_ix cs z ∧ o_ix cs z ≤ (cs.length : Int) + 1 := by
    intro cs
    induction cs with
    | nil => exact ⟨Int.le_refl _, Int.le_refl _⟩
    | cons x cs ih =>
      rw [o_ix]
      split
      · simp; omega
      · simp; omega
  have := key cs
  unfold o_th
  split <;> omega
set_option maxHeartbeats 4000000 in
set_option maxRecDepth 100000 in
theorem t_X10_addGoblin {D : va_G} {aC : Nat → ClassId} {s0 : State} {l : Launch} (hF : m_F D aC s0) (hl : l.stackTraces = false) {a : Nat} {g sg : h_T} {L : Nat → h_T} {q : Int → Int} {tx ot : List Int} {th : Int} {M : m_M} (hD : mdP a th g sg L q tx ot M) (ha : s0.heap.size ≤ a) {K : Int} (hI : h_I K g) (hKb : K ≤ 78000000) (hLc : ∀ i : Nat, (i : Int) < q 0 → cB (L i)) {x : Int} (hx : -2147483648 ≤ x ∧ x < 2147483648) : m_Met D aC s0 l yX10_addGoblin cX10_addGoblin 2 (some .int) 8 (0) (0) [.ref a, VI x] M (m_chP a [-2, -3] (S_addGoblin g x) sg (c_L (q 0) g L) L q tx ot M) m_nx := by
  refine m_entry (lv := [(0, .ref a), (1, VI x)]) (by decide +kernel) (Nat.le_of_ble_eq_true rfl) rfl hF hl ?_
  intro p e s m args below meth c hC hr hno hnm
  change m_C D aC s0 RX10 _ _ _ _ _ _ _ _ _ at hC
  obtain ⟨w, hV, hW⟩ := hD
  have hB := hI.1.toB (by omega)
  have hn6 : 0 ≤ w 0 6 ∧ w 0 6 ≤ 8 := by rw [hW.2.1.1]; exact hW.2.2.1
  have hLw : mH (w 5) (w 0 6) L := by rw [hW.2.1.1]; exact hW.2.2.2.2.2.1
  have hLcw : ∀ i : Nat, (i : Int) < w 0 6 → cB (L i) := by rw [hW.2.1.1]; exact hLc
  refine m_aload_n hC 0 dX10_addGoblin_0 rfl rfl ?_
  refine m_callV hC (t_X10_begins hF hl hV ha hB) dX10_addGoblin_1 kc_X10_begins kV_X10_102 hV.ob rfl rfl rfl rfl (Nat.le_of_ble_eq_true rfl) (by decide) (by decide) m_nox (fun v9 M1 h9 => ?_)
  obtain ⟨rfl, ⟨B, hBe, R2⟩, f3⟩ := h9
  refine m_aload_n hC 0 dX10_addGoblin_4 rfl rfl ?_
  refine m_aload_n hC 0 dX10_addGoblin_5 rfl rfl ?_
  refine m_iload_n hC 1 dX10_addGoblin_6 rfl rfl ?_
  refine m_callV hC (t_X10_addsGoblin hF hl R2 ha hB (x := x) hx) dX10_addGoblin_7 kc_X10_addsGoblin kV_X10_105 R2.ob rfl rfl rfl rfl (Nat.le_of_ble_eq_true rfl) (by decide) (by decide) m_nox (fun v9 M4 h9 => ?_)
  obtain ⟨rfl, R5, f6⟩ := h9
  refine m_callV hC (t_X10_ends hF hl R5 ha (h_BK.toB (S_addGoblin_I hI x).1 (by omega)) (z := if (S_addGoblin g x).1 < 0 then 0 else (S_addGoblin g x).1) (gb := g) (L := L) hn6 hLw hLcw hBe hB.c (X_o14 [-2, -3] _)) dX10_addGoblin_10 kc_X10_ends kV_X10_109 R5.ob rfl rfl rfl rfl (Nat.le_of_ble_eq_true rfl) (by decide) (by decide) m_nox (fun v9 M9 h9 => ?_)
  obtain ⟨h9a, f9⟩ := h9
  rcases h9a with ⟨c9, rfl, R9⟩ | ⟨c9, rfl, H, hH, R9⟩
  · exact m_iret hC dX10_addGoblin_13 hr (by decide) (by decide) (X_ch1 hW (S_addGoblin_ok hB x) (by simp [o_th, o_ix]) c9 R9 ((f3.tr f6).tr f9))
  · exact m_iret hC dX10_addGoblin_13 hr (by decide) (by decide) (X_ch2 hW (S_addGoblin_ok hB x) (by simp [o_th, o_ix]) c9 hH R9 ((f3.tr f6).tr f9))

set_option maxHeartbeats 4000000 in
set_option maxRecDepth 100000 in
theorem t_X10_addBroom {D : va_G} {aC : Nat → ClassId} {s0 : State} {l : Launch} (hF : m_F D aC s0) (hl : l.stackTraces = false) {a : Nat} {g sg : h_T} {L : Nat → h_T} {q : Int → Int} {tx ot : List Int} {th : Int} {M : m_M} (hD : mdP a th g sg L q tx ot M) (ha : s0.heap.size ≤ a) {K : Int} (hI : h_I K g) (hKb : K ≤ 78000000) (hLc : ∀ i : Nat, (i : Int) < q 0 → cB (L i)) {x : Int} (hx : -2147483648 ≤ x ∧ x < 2147483648) : m_Met D aC s0 l yX10_addBroom cX10_addBroom 2 (some .int) 8 (0) (0) [.ref a, VI x] M (m_chP a [-2, -3] (S_addBroom g x) sg (c_L (q 0) g L) L q tx ot M) m_nx := by
  refine m_entry (lv := [(0, .ref a), (1, VI x)]) (by decide +kernel) (Nat.le_of_ble_eq_true rfl) rfl hF hl ?_
  intro p e s m args below meth c hC hr hno hnm
  change m_C D aC s0 RX10 _ _ _ _ _ _ _ _ _ at hC
  obtain ⟨w, hV, hW⟩ := hD
  have hB := hI.1.toB (by omega)
  have hn6 : 0 ≤ w 0 6 ∧ w 0 6 ≤ 8 := by rw [hW.2.1.1]; exact hW.2.2.1
  have hLw : mH (w 5) (w 0 6) L := by rw [hW.2.1.1]; exact hW.2.2.2.2.2.1
  have hLcw : ∀ i : Nat, (i : Int) < w 0 6 → cB (L i) := by rw [hW.2.1.1]; exact hLc
  refine m_aload_n hC 0 dX10_addBroom_0 rfl rfl ?_
  refine m_callV hC (t_X10_begins hF hl hV ha hB) dX10_addBroom_1 kc_X10_begins kV_X10_102 hV.ob rfl rfl rfl rfl (Nat.le_of_ble_eq_true rfl) (by decide) (by decide) m_nox (fun v9 M1 h9 => ?_)
  obtain ⟨rfl, ⟨B, hBe, R2⟩, f3⟩ := h9
  refine m_aload_n hC 0 dX10_addBroom_4 rfl rfl ?_
  refine m_aload_n hC 0 dX10_addBroom_5 rfl rfl ?_
  refine m_iload_n hC 1 dX10_addBroom_6 rfl rfl ?_
  refine m_callV hC (t_X10_addsBroom hF hl R2 ha hB (x := x) hx) dX10_addBroom_7 kc_X10_addsBroom kV_X10_112 R2.ob rfl rfl rfl rfl (Nat.le_of_ble_eq_true rfl) (by decide) (by decide) m_nox (fun v9 M4 h9 => ?_)
  obtain ⟨rfl, R5, f6⟩ := h9
  refine m_callV hC (t_X10_ends hF hl R5 ha (h_BK.toB (S_addBroom_I hI x).1 (by omega)) (z := if (S_addBroom g x).1 < 0 then 0 else (S_addBroom g x).1) (gb := g) (L := L) hn6 hLw hLcw hBe hB.c (X_o14 [-2, -3] _)) dX10_addBroom_10 kc_X10_ends kV_X10_109 R5.ob rfl rfl rfl rfl (Nat.le_of_ble_eq_true rfl) (by decide) (by decide) m_nox (fun v9 M9 h9 => ?_)
  obtain ⟨h9a, f9⟩ := h9
  rcases h9a with ⟨c9, rfl, R9⟩ | ⟨c9, rfl, H, hH, R9⟩
  · exact m_iret hC dX10_addBroom_13 hr (by decide) (by decide) (X_ch1 hW (S_addBroom_ok hB x) (by simp [o_th, o_ix]) c9 R9 ((f3.tr f6).tr f9))
  · exact m_iret hC dX10_addBroom_13 hr (by decide) (by decide) (X_ch2 hW (S_addBroom_ok hB x) (by simp [o_th, o_ix]) c9 hH R9 ((f3.tr f6).tr f9))

set_option maxHeartbeats 4000000 in
set_option maxRecDepth 100000 in
theorem t_X10_banishBroom {D : va_G} {aC : Nat → ClassId} {s0 : State} {l : Launch} (hF : m_F D aC s0) (hl : l.stackTraces = false) {a : Nat} {g sg : h_T} {L : Nat → h_T} {q : Int → Int} {tx ot : List Int} {th : Int} {M : m_M} (hD : mdP a th g sg L q tx ot M) (ha : s0.heap.size ≤ a) {K : Int} (hI : h_I K g) (hKb : K ≤ 78000000) (hLc : ∀ i : Nat, (i : Int) < q 0 → cB (L i)) {x : Int} (hx : -2147483648 ≤ x ∧ x < 2147483648) : m_Met D aC s0 l yX10_banishBroom cX10_banishBroom 2 (some .int) 8 (0) (0) [.ref a, VI x] M (m_chP a [-1, -3] (S_banish g x) sg (c_L (q 0) g L) L q tx ot M) m_nx := by
  refine m_entry (lv := [(0, .ref a), (1, VI x)]) (by decide +kernel) (Nat.le_of_ble_eq_true rfl) rfl hF hl ?_
  intro p e s m args below meth c hC hr hno hnm
  change m_C D aC s0 RX10 _ _ _ _ _ _ _ _ _ at hC
  obtain ⟨w, hV, hW⟩ := hD
  have hB := hI.1.toB (by omega)
  have hn6 : 0 ≤ w 0 6 ∧ w 0 6 ≤ 8 := by rw [hW.2.1.1]; exact hW.2.2.1
  have hLw : mH (w 5) (w 0 6) L := by rw [hW.2.1.1]; exact hW.2.2.2.2.2.1
  have hLcw : ∀ i : Nat, (i : Int) < w 0 6 → cB (L i) := by rw [hW.2.1.1]; exact hLc
  refine m_aload_n hC 0 dX10_banishBroom_0 rfl rfl ?_
  refine m_callV hC (t_X10_begins hF hl hV ha hB) dX10_banishBroom_1 kc_X10_begins kV_X10_102 hV.ob rfl rfl rfl rfl (Nat.le_of_ble_eq_true rfl) (by decide) (by decide) m_nox (fun v9 M1 h9 => ?_)
  obtain ⟨rfl, ⟨B, hBe, R2⟩, f3⟩ := h9
  refine m_aload_n hC 0 dX10_banishBroom_4 rfl rfl ?_
  refine m_aload_n hC 0 dX10_banishBroom_5 rfl rfl ?_
  refine m_iload_n hC 1 dX10_banishBroom_6 rfl rfl ?_
  refine m_iconst hC dX10_banishBroom_7 ?_
  refine m_callV hC (t_X10_banishes1 hF hl R2 ha hB (x := x) hx) dX10_banishBroom_8 kc_X10_banishes kV_X10_115 R2.ob rfl rfl rfl rfl (Nat.le_of_ble_eq_true rfl) (by decide) (by decide) m_nox (fun v9 M4 h9 => ?_)
  obtain ⟨rfl, R5, f6⟩ := h9
  refine m_callV hC (t_X10_ends hF hl R5 ha (h_BK.toB (S_banish_I hI x).1 (by omega)) (z := if (S_banish g x).1 < 0 then 0 else (S_banish g x).1) (gb := g) (L := L) hn6 hLw hLcw hBe hB.c (X_o14 [-1, -3] _)) dX10_banishBroom_11 kc_X10_ends kV_X10_109 R5.ob rfl rfl rfl rfl (Nat.le_of_ble_eq_true rfl) (by decide) (by decide) m_nox (fun v9 M9 h9 => ?_)
  obtain ⟨h9a, f9⟩ := h9
  rcases h9a with ⟨c9, rfl, R9⟩ | ⟨c9, rfl, H, hH, R9⟩
  · exact m_iret hC dX10_banishBroom_14 hr (by decide) (by decide) (X_ch1 hW (S_banish_ok hB x) (by simp [o_th, o_ix]) c9 R9 ((f3.tr f6).tr f9))
  · exact m_iret hC dX10_banishBroom_14 hr (by decide) (by decide) (X_ch2 hW (S_banish_ok hB x) (by simp [o_th, o_ix]) c9 hH R9 ((f3.tr f6).tr f9))

set_option maxHeartbeats 4000000 in
set_option maxRecDepth 100000 in
theorem t_X10_recallBroom {D : va_G} {aC : Nat → ClassId} {s0 : State} {l : Launch} (hF : m_F D aC s0) (hl : l.stackTraces = false) {a : Nat} {g sg : h_T} {L : Nat → h_T} {q : Int → Int} {tx ot : List Int} {th : Int} {M : m_M} (hD : mdP a th g sg L q tx ot M) (ha : s0.heap.size ≤ a) {K : Int} (hI : h_I K g) (hKb : K ≤ 78000000) (hLc : ∀ i : Nat, (i : Int) < q 0 → cB (L i)) {x : Int} (hx : -2147483648 ≤ x ∧ x < 2147483648) : m_Met D aC s0 l yX10_recallBroom cX10_recallBroom 2 (some .int) 8 (0) (0) [.ref a, VI x] M (m_chP a [-1, -3] (S_recall g x) sg (c_L (q 0) g L) L q tx ot M) m_nx := by
  refine m_entry (lv := [(0, .ref a), (1, VI x)]) (by decide +kernel) (Nat.le_of_ble_eq_true rfl) rfl hF hl ?_
  intro p e s m args below meth c hC hr hno hnm
  change m_C D aC s0 RX10 _ _ _ _ _ _ _ _ _ at hC
  obtain ⟨w, hV, hW⟩ := hD
  have hB := hI.1.toB (by omega)
  have hn6 : 0 ≤ w 0 6 ∧ w 0 6 ≤ 8 := by rw [hW.2.1.1]; exact hW.2.2.1
  have hLw : mH (w 5) (w 0 6) L := by rw [hW.2.1.1]; exact hW.2.2.2.2.2.1
  have hLcw : ∀ i : Nat, (i : Int) < w 0 6 → cB (L i) := by rw [hW.2.1.1]; exact hLc
  refine m_aload_n hC 0 dX10_recallBroom_0 rfl rfl ?_
  refine m_callV hC (t_X10_begins hF hl hV ha hB) dX10_recallBroom_1 kc_X10_begins kV_X10_102 hV.ob rfl rfl rfl rfl (Nat.le_of_ble_eq_true rfl) (by decide) (by decide) m_nox (fun v9 M1 h9 => ?_)
  obtain ⟨rfl, ⟨B, hBe, R2⟩, f3⟩ := h9
  refine m_aload_n hC 0 dX10_recallBroom_4 rfl rfl ?_
  refine m_aload_n hC 0 dX10_recallBroom_5 rfl rfl ?_
  refine m_iload_n hC 1 dX10_recallBroom_6 rfl rfl ?_
  refine m_iconst hC dX10_recallBroom_7 ?_
  refine m_callV hC (t_X10_banishes0 hF hl R2 ha hB (x := x) hx) dX10_recallBroom_8 kc_X10_banishes kV_X10_115 R2.ob rfl rfl rfl rfl (Nat.le_of_ble_eq_true rfl) (by decide) (by decide) m_nox (fun v9 M4 h9 => ?_)
  obtain ⟨rfl, R5, f6⟩ := h9
  refine m_callV hC (t_X10_ends hF hl R5 ha (h_BK.toB (S_recall_I hI x).1 (by omega)) (z := if (S_recall g x).1 < 0 then 0 else (S_recall g x).1) (gb := g) (L := L) hn6 hLw hLcw hBe hB.c (X_o14 [-1, -3] _)) dX10_recallBroom_11 kc_X10_ends kV_X10_109 R5.ob rfl rfl rfl rfl (Nat.le_of_ble_eq_true rfl) (by decide) (by decide) m_nox (fun v9 M9 h9 => ?_)
  obtain ⟨h9a, f9⟩ := h9
  rcases h9a with ⟨c9, rfl, R9⟩ | ⟨c9, rfl, H, hH, R9⟩
  · exact m_iret hC dX10_recallBroom_14 hr (by decide) (by decide) (X_ch1 hW (S_recall_ok hB x) (by simp [o_th, o_ix]) c9 R9 ((f3.tr f6).tr f9))
  · exact m_iret hC dX10_recallBroom_14 hr (by decide) (by decide) (X_ch2 hW (S_recall_ok hB x) (by simp [o_th, o_ix]) c9 hH R9 ((f3.tr f6).tr f9))

set_option maxHeartbeats 4000000 in
set_option maxRecDepth 100000 in
theorem t_X10_rest {D : va_G} {aC : Nat → ClassId} {s0 : State} {l : Launch} (hF : m_F D aC s0) (hl : l.stackTraces = false) {a : Nat} {g sg : h_T} {L : Nat → h_T} {q : Int → Int} {tx ot : List Int} {th : Int} {M : m_M} (hD : mdP a th g sg L q tx ot M) (ha : s0.heap.size ≤ a) {K : Int} (hI : h_I K g) (hKb : K ≤ 78000000) (hLc : ∀ i : Nat, (i : Int) < q 0 → cB (L i)) {x : Int} (hx : -2147483648 ≤ x ∧ x < 2147483648) : m_Met D aC s0 l yX10_rest cX10_rest 2 (some .int) 8 (0) (0) [.ref a, VI x] M (m_chP a [-1, -3] (S_rest g x) sg (c_L (q 0) g L) L q tx ot M) m_nx := by
  refine m_entry (lv := [(0, .ref a), (1, VI x)]) (by decide +kernel) (Nat.le_of_ble_eq_true rfl) rfl hF hl ?_
  intro p e s m args below meth c hC hr hno hnm
  change m_C D aC s0 RX10 _ _ _ _ _ _ _ _ _ at hC
  obtain ⟨w, hV, hW⟩ := hD
  have hB := hI.1.toB (by omega)
  have hn6 : 0 ≤ w 0 6 ∧ w 0 6 ≤ 8 := by rw [hW.2.1.1]; exact hW.2.2.1
  have hLw : mH (w 5) (w 0 6) L := by rw [hW.2.1.1]; exact hW.2.2.2.2.2.1
  have hLcw : ∀ i : Nat, (i : Int) < w 0 6 → cB (L i) := by rw [hW.2.1.1]; exact hLc
  refine m_aload_n hC 0 dX10_rest_0 rfl rfl ?_
  refine m_callV hC (t_X10_begins hF hl hV ha hB) dX10_rest_1 kc_X10_begins kV_X10_102 hV.ob rfl rfl rfl rfl (Nat.le_of_ble_eq_true rfl) (by decide) (by decide) m_nox (fun v9 M1 h9 => ?_)
  obtain ⟨rfl, ⟨B, hBe, R2⟩, f3⟩ := h9
  refine m_aload_n hC 0 dX10_rest_4 rfl rfl ?_
  refine m_aload_n hC 0 dX10_rest_5 rfl rfl ?_
  refine m_iload_n hC 1 dX10_rest_6 rfl rfl ?_
  refine m_iconst hC dX10_rest_7 ?_
  refine m_callV hC (t_X10_rests1 hF hl R2 ha hB (x := x) hx) dX10_rest_8 kc_X10_rests kV_X10_118 R2.ob rfl rfl rfl rfl (Nat.le_of_ble_eq_true rfl) (by decide) (by decide) m_nox (fun v9 M4 h9 => ?_)
  obtain ⟨rfl, R5, f6⟩ := h9
  refine m_callV hC (t_X10_ends hF hl R5 ha (h_BK.toB (S_rest_I hI x).1 (by omega)) (z := if (S_rest g x).1 < 0 then 0 else (S_rest g x).1) (gb := g) (L := L) hn6 hLw hLcw hBe hB.c (X_o14 [-1, -3] _)) dX10_rest_11 kc_X10_ends kV_X10_109 R5.ob rfl rfl rfl rfl (Nat.le_of_ble_eq_true rfl) (by decide) (by decide) m_nox (fun v9 M9 h9 => ?_)
  obtain ⟨h9a, f9⟩ := h9
  rcases h9a with ⟨c9, rfl, R9⟩ | ⟨c9, rfl, H, hH, R9⟩
  · exact m_iret hC dX10_rest_14 hr (by decide) (by decide) (X_ch1 hW (S_rest_ok hB x) (by simp [o_th, o_ix]) c9 R9 ((f3.tr f6).tr f9))
  · exact m_iret hC dX10_rest_14 hr (by decide) (by decide) (X_ch2 hW (S_rest_ok hB x) (by simp [o_th, o_ix]) c9 hH R9 ((f3.tr f6).tr f9))

set_option maxHeartbeats 4000000 in
set_option maxRecDepth 100000 in
theorem t_X10_wake {D : va_G} {aC : Nat → ClassId} {s0 : State} {l : Launch} (hF : m_F D aC s0) (hl : l.stackTraces = false) {a : Nat} {g sg : h_T} {L : Nat → h_T} {q : Int → Int} {tx ot : List Int} {th : Int} {M : m_M} (hD : mdP a th g sg L q tx ot M) (ha : s0.heap.size ≤ a) {K : Int} (hI : h_I K g) (hKb : K ≤ 78000000) (hLc : ∀ i : Nat, (i : Int) < q 0 → cB (L i)) {x : Int} (hx : -2147483648 ≤ x ∧ x < 2147483648) : m_Met D aC s0 l yX10_wake cX10_wake 2 (some .int) 8 (0) (0) [.ref a, VI x] M (m_chP a [-1, -3] (S_wake g x) sg (c_L (q 0) g L) L q tx ot M) m_nx := by
  refine m_entry (lv := [(0, .ref a), (1, VI x)]) (by decide +kernel) (Nat.le_of_ble_eq_true rfl) rfl hF hl ?_
  intro p e s m args below meth c hC hr hno hnm
  change m_C D aC s0 RX10 _ _ _ _ _ _ _ _ _ at hC
  obtain ⟨w, hV, hW⟩ := hD
  have hB := hI.1.toB (by omega)
  have hn6 : 0 ≤ w 0 6 ∧ w 0 6 ≤ 8 := by rw [hW.2.1.1]; exact hW.2.2.1
  have hLw : mH (w 5) (w 0 6) L := by rw [hW.2.1.1]; exact hW.2.2.2.2.2.1
  have hLcw : ∀ i : Nat, (i : Int) < w 0 6 → cB (L i) := by rw [hW.2.1.1]; exact hLc
  refine m_aload_n hC 0 dX10_wake_0 rfl rfl ?_
  refine m_callV hC (t_X10_begins hF hl hV ha hB) dX10_wake_1 kc_X10_begins kV_X10_102 hV.ob rfl rfl rfl rfl (Nat.le_of_ble_eq_true rfl) (by decide) (by decide) m_nox (fun v9 M1 h9 => ?_)
  obtain ⟨rfl, ⟨B, hBe, R2⟩, f3⟩ := h9
  refine m_aload_n hC 0 dX10_wake_4 rfl rfl ?_
  refine m_aload_n hC 0 dX10_wake_5 rfl rfl ?_
  refine m_iload_n hC 1 dX10_wake_6 rfl rfl ?_
  refine m_iconst hC dX10_wake_7 ?_
  refine m_callV hC (t_X10_rests0 hF hl R2 ha hB (x := x) hx) dX10_wake_8 kc_X10_rests kV_X10_118 R2.ob rfl rfl rfl rfl (Nat.le_of_ble_eq_true rfl) (by decide) (by decide) m_nox (fun v9 M4 h9 => ?_)
  obtain ⟨rfl, R5, f6⟩ := h9
  refine m_callV hC (t_X10_ends hF hl R5 ha (h_BK.toB (S_wake_I hI x).1 (by omega)) (z := if (S_wake g x).1 < 0 then 0 else (S_wake g x).1) (gb := g) (L := L) hn6 hLw hLcw hBe hB.c (X_o14 [-1, -3] _)) dX10_wake_11 kc_X10_ends kV_X10_109 R5.ob rfl rfl rfl rfl (Nat.le_of_ble_eq_true rfl) (by decide) (by decide) m_nox (fun v9 M9 h9 => ?_)
  obtain ⟨h9a, f9⟩ := h9
  rcases h9a with ⟨c9, rfl, R9⟩ | ⟨c9, rfl, H, hH, R9⟩
  · exact m_iret hC dX10_wake_14 hr (by decide) (by decide) (X_ch1 hW (S_wake_ok hB x) (by simp [o_th, o_ix]) c9 R9 ((f3.tr f6).tr f9))
  · exact m_iret hC dX10_wake_14 hr (by decide) (by decide) (X_ch2 hW (S_wake_ok hB x) (by simp [o_th, o_ix]) c9 hH R9 ((f3.tr f6).tr f9))

set_option maxHeartbeats 4000000 in
set_option maxRecDepth 100000 in
theorem t_X10_hire {D : va_G} {aC : Nat → ClassId} {s0 : State} {l : Launch} (hF : m_F D aC s0) (hl : l.stackTraces = false) {a : Nat} {g sg : h_T} {L : Nat → h_T} {q : Int → Int} {tx ot : List Int} {th : Int} {M : m_M} (hD : mdP a th g sg L q tx ot M) (ha : s0.heap.size ≤ a) {K : Int} (hI : h_I K g) (hKb : K ≤ 78000000) (hLc : ∀ i : Nat, (i : Int) < q 0 → cB (L i)) {x : Int} {y : Int} {zw : Int} {ze : Int} (hx : -2147483648 ≤ x ∧ x < 2147483648) (hy : -2147483648 ≤ y ∧ y < 2147483648) (hzw : -2147483648 ≤ zw ∧ zw < 2147483648) (hze : -2147483648 ≤ ze ∧ ze < 2147483648) : m_Met D aC s0 l yX10_hire cX10_hire 5 (some .int) 8 (0) (0) [.ref a, VI x, VI y, VI zw, VI ze] M (m_chP a [-1, -2, -3, -4] (S_hire g x y zw ze) sg (c_L (q 0) g L) L q tx ot M) m_nx := by
  refine m_entry (lv := [(0, .ref a), (1, VI x), (2, VI y), (3, VI zw), (4, VI ze)]) (by decide +kernel) (Nat.le_of_ble_eq_true rfl) rfl hF hl ?_
  intro p e s m args below meth c hC hr hno hnm
  change m_C D aC s0 RX10 _ _ _ _ _ _ _ _ _ at hC
  obtain ⟨w, hV, hW⟩ := hD
  have hB := hI.1.toB (by omega)
  have hn6 : 0 ≤ w 0 6 ∧ w 0 6 ≤ 8 := by rw [hW.2.1.1]; exact hW.2.2.1
  have hLw : mH (w 5) (w 0 6) L := by rw [hW.2.1.1]; exact hW.2.2.2.2.2.1
  have hLcw : ∀ i : Nat, (i : Int) < w 0 6 → cB (L i) := by rw [hW.2.1.1]; exact hLc
  refine m_aload_n hC 0 dX10_hire_0 rfl rfl ?_
  refine m_callV hC (t_X10_begins hF hl hV ha hB) dX10_hire_1 kc_X10_begins kV_X10_102 hV.ob rfl rfl rfl rfl (Nat.le_of_ble_eq_true rfl) (by decide) (by decide) m_nox (fun v9 M1 h9 => ?_)
  obtain ⟨rfl, ⟨B, hBe, R2⟩, f3⟩ := h9
  refine m_aload_n hC 0 dX10_hire_4 rfl rfl ?_
  refine m_aload_n hC 0 dX10_hire_5 rfl rfl ?_
  refine m_iload_n hC 1 dX10_hire_6 rfl rfl ?_
  refine m_iload_n hC 2 dX10_hire_7 rfl rfl ?_
  refine m_iload_n hC 3 dX10_hire_8 rfl rfl ?_
  refine m_iload hC 4 dX10_hire_9 rfl ?_
  refine m_callV hC (t_X10_hires hF hl R2 ha hB (x := x) (y := y) (zw := zw) (ze := ze) hx hy hzw hze) dX10_hire_11 kc_X10_hires kV_X10_128 R2.ob rfl rfl rfl rfl (Nat.le_of_ble_eq_true rfl) (by decide) (by decide) m_nox (fun v9 M4 h9 => ?_)
  obtain ⟨rfl, R5, f6⟩ := h9
  refine m_callV hC (t_X10_ends hF hl R5 ha (h_BK.toB (S_hire_I hI x y zw ze).1 (by omega)) (z := if (S_hire g x y zw ze).1 < 0 then 0 else (S_hire g x y zw ze).1) (gb := g) (L := L) hn6 hLw hLcw hBe hB.c (X_o14 [-1, -2, -3, -4] _)) dX10_hire_14 kc_X10_ends kV_X10_109 R5.ob rfl rfl rfl rfl (Nat.le_of_ble_eq_true rfl) (by decide) (by decide) m_nox (fun v9 M9 h9 => ?_)
  obtain ⟨h9a, f9⟩ := h9
  rcases h9a with ⟨c9, rfl, R9⟩ | ⟨c9, rfl, H, hH, R9⟩
  · exact m_iret hC dX10_hire_17 hr (by decide) (by decide) (X_ch1 hW (S_hire_ok hB x y zw ze) (by simp [o_th, o_ix]) c9 R9 ((f3.tr f6).tr f9))
  · exact m_iret hC dX10_hire_17 hr (by decide) (by decide) (X_ch2 hW (S_hire_ok hB x y zw ze) (by simp [o_th, o_ix]) c9 hH R9 ((f3.tr f6).tr f9))

set_option maxHeartbeats 4000000 in
set_option maxRecDepth 100000 in
theorem t_X10_cancelContract {D : va_G} {aC : Nat → ClassId} {s0 : State} {l : Launch} (hF : m_F D aC s0) (hl : l.stackTraces = false) {a : Nat} {g sg : h_T} {L : Nat → h_T} {q : Int → Int} {tx ot : List Int} {th : Int} {M : m_M} (hD : mdP a th g sg L q tx ot M) (ha : s0.heap.size ≤ a) {K : Int} (hI : h_I K g) (hKb : K ≤ 78000000) (hLc : ∀ i : Nat, (i : Int) < q 0 → cB (L i)) {x : Int} (hx : -2147483648 ≤ x ∧ x < 2147483648) : m_Met D aC s0 l yX10_cancelContract cX10_cancelContract 2 (some .int) 8 (0) (0) [.ref a, VI x] M (m_chP a [-5] (S_cancel g x) sg (c_L (q 0) g L) L q tx ot M) m_nx := by
  refine m_entry (lv := [(0, .ref a), (1, VI x)]) (by decide +kernel) (Nat.le_of_ble_eq_true rfl) rfl hF hl ?_
  intro p e s m args below meth c hC hr hno hnm
  change m_C D aC s0 RX10 _ _ _ _ _ _ _ _ _ at hC
  obtain ⟨w, hV, hW⟩ := hD
  have hB := hI.1.toB (by omega)
  have hn6 : 0 ≤ w 0 6 ∧ w 0 6 ≤ 8 := by rw [hW.2.1.1]; exact hW.2.2.1
  have hLw : mH (w 5) (w 0 6) L := by rw [hW.2.1.1]; exact hW.2.2.2.2.2.1
  have hLcw : ∀ i : Nat, (i : Int) < w 0 6 → cB (L i) := by rw [hW.2.1.1]; exact hLc
  refine m_aload_n hC 0 dX10_cancelContract_0 rfl rfl ?_
  refine m_callV hC (t_X10_begins hF hl hV ha hB) dX10_cancelContract_1 kc_X10_begins kV_X10_102 hV.ob rfl rfl rfl rfl (Nat.le_of_ble_eq_true rfl) (by decide) (by decide) m_nox (fun v9 M1 h9 => ?_)
  obtain ⟨rfl, ⟨B, hBe, R2⟩, f3⟩ := h9
  refine m_aload_n hC 0 dX10_cancelContract_4 rfl rfl ?_
  refine m_aload_n hC 0 dX10_cancelContract_5 rfl rfl ?_
  refine m_iload_n hC 1 dX10_cancelContract_6 rfl rfl ?_
  refine m_callV hC (t_X10_cancels hF hl R2 ha hB (x := x) hx hI.2.2.2.1 hI.1 (by omega)) dX10_cancelContract_7 kc_X10_cancels kV_X10_142 R2.ob rfl rfl rfl rfl (Nat.le_of_ble_eq_true rfl) (by decide) (by decide) m_nox (fun v9 M4 h9 => ?_)
  obtain ⟨rfl, R5, f6⟩ := h9
  refine m_callV hC (t_X10_ends hF hl R5 ha (h_BK.toB (S_cancel_I hI x).1 (by omega)) (z := if (S_cancel g x).1 < 0 then 0 else (S_cancel g x).1) (gb := g) (L := L) hn6 hLw hLcw hBe hB.c (X_o14 [-5] _)) dX10_cancelContract_10 kc_X10_ends kV_X10_109 R5.ob rfl rfl rfl rfl (Nat.le_of_ble_eq_true rfl) (by decide) (by decide) m_nox (fun v9 M9 h9 => ?_)
  obtain ⟨h9a, f9⟩ := h9
  rcases h9a with ⟨c9, rfl, R9⟩ | ⟨c9, rfl, H, hH, R9⟩
  · exact m_iret hC dX10_cancelContract_13 hr (by decide) (by decide) (X_ch1 hW (S_cancel_ok hB x) (by simp [o_th, o_ix]) c9 R9 ((f3.tr f6).tr f9))
  · exact m_iret hC dX10_cancelContract_13 hr (by decide) (by decide) (X_ch2 hW (S_cancel_ok hB x) (by simp [o_th, o_ix]) c9 hH R9 ((f3.tr f6).tr f9))

set_option maxHeartbeats 4000000 in
set_option maxRecDepth 100000 in
theorem t_X10_lend {D : va_G} {aC : Nat → ClassId} {s0 : State} {l : Launch} (hF : m_F D aC s0) (hl : l.stackTraces = false) {a : Nat} {g sg : h_T} {L : Nat → h_T} {q : Int → Int} {tx ot : List Int} {th : Int} {M : m_M} (hD : mdP a th g sg L q tx ot M) (ha : s0.heap.size ≤ a) {K : Int} (hI : h_I K g) (hKb : K ≤ 78000000) (hLc : ∀ i : Nat, (i : Int) < q 0 → cB (L i)) {x : Int} {y : Int} (hx : -2147483648 ≤ x ∧ x < 2147483648) (hy : -2147483648 ≤ y ∧ y < 2147483648) : m_Met D aC s0 l yX10_lend cX10_lend 3 (some .int) 8 (0) (0) [.ref a, VI x, VI y] M (m_chP a [-1, -2, -4] (S_lend g x y) sg (c_L (q 0) g L) L q tx ot M) m_nx := by
  refine m_entry (lv := [(0, .ref a), (1, VI x), (2, VI y)]) (by decide +kernel) (Nat.le_of_ble_eq_true rfl) rfl hF hl ?_
  intro p e s m args below meth c hC hr hno hnm
  change m_C D aC s0 RX10 _ _ _ _ _ _ _ _ _ at hC
  obtain ⟨w, hV, hW⟩ := hD
  have hB := hI.1.toB (by omega)
  have hn6 : 0 ≤ w 0 6 ∧ w 0 6 ≤ 8 := by rw [hW.2.1.1]; exact hW.2.2.1
  have hLw : mH (w 5) (w 0 6) L := by rw [hW.2.1.1]; exact hW.2.2.2.2.2.1
  have hLcw : ∀ i : Nat, (i : Int) < w 0 6 → cB (L i) := by rw [hW.2.1.1]; exact hLc
  refine m_aload_n hC 0 dX10_lend_0 rfl rfl ?_
  refine m_callV hC (t_X10_begins hF hl hV ha hB) dX10_lend_1 kc_X10_begins kV_X10_102 hV.ob rfl rfl rfl rfl (Nat.le_of_ble_eq_true rfl) (by decide) (by decide) m_nox (fun v9 M1 h9 => ?_)
  obtain ⟨rfl, ⟨B, hBe, R2⟩, f3⟩ := h9
  refine m_aload_n hC 0 dX10_lend_4 rfl rfl ?_
  refine m_aload_n hC 0 dX10_lend_5 rfl rfl ?_
  refine m_iload_n hC 1 dX10_lend_6 rfl rfl ?_
  refine m_iload_n hC 2 dX10_lend_7 rfl rfl ?_
  refine m_callV hC (t_X10_lends hF hl R2 ha hB (x := x) (y := y) hx hy hI.1 (by omega)) dX10_lend_8 kc_X10_lends kV_X10_145 R2.ob rfl rfl rfl rfl (Nat.le_of_ble_eq_true rfl) (by decide) (by decide) m_nox (fun v9 M4 h9 => ?_)
  obtain ⟨rfl, R5, f6⟩ := h9
  refine m_callV hC (t_X10_ends hF hl R5 ha (h_BK.toB (S_lend_I hI x y).1 (by omega)) (z := if (S_lend g x y).1 < 0 then 0 else (S_lend g x y).1) (gb := g) (L := L) hn6 hLw hLcw hBe hB.c (X_o14 [-1, -2, -4] _)) dX10_lend_11 kc_X10_ends kV_X10_109 R5.ob rfl rfl rfl rfl (Nat.le_of_ble_eq_true rfl) (by decide) (by decide) m_nox (fun v9 M9 h9 => ?_)
  obtain ⟨h9a, f9⟩ := h9
  rcases h9a with ⟨c9, rfl, R9⟩ | ⟨c9, rfl, H, hH, R9⟩
  · exact m_iret hC dX10_lend_14 hr (by decide) (by decide) (X_ch1 hW (S_lend_ok hB x y) (by simp [o_th, o_ix]) c9 R9 ((f3.tr f6).tr f9))
  · exact m_iret hC dX10_lend_14 hr (by decide) (by decide) (X_ch2 hW (S_lend_ok hB x y) (by simp [o_th, o_ix]) c9 hH R9 ((f3.tr f6).tr f9))

set_option maxHeartbeats 4000000 in
set_option maxRecDepth 100000 in
theorem t_X10_fund {D : va_G} {aC : Nat → ClassId} {s0 : State} {l : Launch} (hF : m_F D aC s0) (hl : l.stackTraces = false) {a : Nat} {g sg : h_T} {L : Nat → h_T} {q : Int → Int} {tx ot : List Int} {th : Int} {M : m_M} (hD : mdP a th g sg L q tx ot M) (ha : s0.heap.size ≤ a) {K : Int} (hI : h_I K g) (hKb : K ≤ 78000000) (hLc : ∀ i : Nat, (i : Int) < q 0 → cB (L i)) {x : Int} (hx : -2147483648 ≤ x ∧ x < 2147483648) : m_Met D aC s0 l yX10_fund cX10_fund 2 (some .int) 8 (0) (0) [.ref a, VI x] M (m_chP a [-2] (S_fund g x) sg (c_L (q 0) g L) L q tx ot M) m_nx := by
  refine m_entry (lv := [(0, .ref a), (1, VI x)]) (by decide +kernel) (Nat.le_of_ble_eq_true rfl) rfl hF hl ?_
  intro p e s m args below meth c hC hr hno hnm
  change m_C D aC s0 RX10 _ _ _ _ _ _ _ _ _ at hC
  obtain ⟨w, hV, hW⟩ := hD
  have hB := hI.1.toB (by omega)
  have hn6 : 0 ≤ w 0 6 ∧ w 0 6 ≤ 8 := by rw [hW.2.1.1]; exact hW.2.2.1
  have hLw : mH (w 5) (w 0 6) L := by rw [hW.2.1.1]; exact hW.2.2.2.2.2.1
  have hLcw : ∀ i : Nat, (i : Int) < w 0 6 → cB (L i) := by rw [hW.2.1.1]; exact hLc
  refine m_aload_n hC 0 dX10_fund_0 rfl rfl ?_
  refine m_callV hC (t_X10_begins hF hl hV ha hB) dX10_fund_1 kc_X10_begins kV_X10_102 hV.ob rfl rfl rfl rfl (Nat.le_of_ble_eq_true rfl) (by decide) (by decide) m_nox (fun v9 M1 h9 => ?_)
  obtain ⟨rfl, ⟨B, hBe, R2⟩, f3⟩ := h9
  refine m_aload_n hC 0 dX10_fund_4 rfl rfl ?_
  refine m_aload_n hC 0 dX10_fund_5 rfl rfl ?_
  refine m_iload_n hC 1 dX10_fund_6 rfl rfl ?_
  refine m_callV hC (t_X10_funds hF hl R2 ha hB (x := x) hx) dX10_fund_7 kc_X10_funds kV_X10_148 R2.ob rfl rfl rfl rfl (Nat.le_of_ble_eq_true rfl) (by decide) (by decide) m_nox (fun v9 M4 h9 => ?_)
  obtain ⟨rfl, R5, f6⟩ := h9
  refine m_callV hC (t_X10_ends hF hl R5 ha (h_BK.toB (S_fund_I hI x).1 (by omega)) (z := if (S_fund g x).1 < 0 then 0 else (S_fund g x).1) (gb := g) (L := L) hn6 hLw hLcw hBe hB.c (X_o14 [-2] _)) dX10_fund_10 kc_X10_ends kV_X10_109 R5.ob rfl rfl rfl rfl (Nat.le_of_ble_eq_true rfl) (by decide) (by decide) m_nox (fun v9 M9 h9 => ?_)
  obtain ⟨h9a, f9⟩ := h9
  rcases h9a with ⟨c9, rfl, R9⟩ | ⟨c9, rfl, H, hH, R9⟩
  · exact m_iret hC dX10_fund_13 hr (by decide) (by decide) (X_ch1 hW (S_fund_ok hB x) (by simp [o_th, o_ix]) c9 R9 ((f3.tr f6).tr f9))
  · exact m_iret hC dX10_fund_13 hr (by decide) (by decide) (X_ch2 hW (S_fund_ok hB x) (by simp [o_th, o_ix]) c9 hH R9 ((f3.tr f6).tr f9))

set_option maxHeartbeats 4000000 in
set_option maxRecDepth 100000 in
theorem t_X10_spend {D : va_G} {aC : Nat → ClassId} {s0 : State} {l : Launch} (hF : m_F D aC s0) (hl : l.stackTraces = false) {a : Nat} {g sg : h_T} {L : Nat → h_T} {q : Int → Int} {tx ot : List Int} {th : Int} {M : m_M} (hD : mdP a th g sg L q tx ot M) (ha : s0.heap.size ≤ a) {K : Int} (hI : h_I K g) (hKb : K ≤ 78000000) (hLc : ∀ i : Nat, (i : Int) < q 0 → cB (L i)) {x : Int} (hx : -2147483648 ≤ x ∧ x < 2147483648) : m_Met D aC s0 l yX10_spend cX10_spend 2 (some .int) 8 (0) (0) [.ref a, VI x] M (m_chP a [-2, -4] (S_spend g x) sg (c_L (q 0) g L) L q tx ot M) m_nx := by
  refine m_entry (lv := [(0, .ref a), (1, VI x)]) (by decide +kernel) (Nat.le_of_ble_eq_true rfl) rfl hF hl ?_
  intro p e s m args below meth c hC hr hno hnm
  change m_C D aC s0 RX10 _ _ _ _ _ _ _ _ _ at hC
  obtain ⟨w, hV, hW⟩ := hD
  have hB := hI.1.toB (by omega)
  have hn6 : 0 ≤ w 0 6 ∧ w 0 6 ≤ 8 := by rw [hW.2.1.1]; exact hW.2.2.1
  have hLw : mH (w 5) (w 0 6) L := by rw [hW.2.1.1]; exact hW.2.2.2.2.2.1
  have hLcw : ∀ i : Nat, (i : Int) < w 0 6 → cB (L i) := by rw [hW.2.1.1]; exact hLc
  refine m_aload_n hC 0 dX10_spend_0 rfl rfl ?_
  refine m_callV hC (t_X10_begins hF hl hV ha hB) dX10_spend_1 kc_X10_begins kV_X10_102 hV.ob rfl rfl rfl rfl (Nat.le_of_ble_eq_true rfl) (by decide) (by decide) m_nox (fun v9 M1 h9 => ?_)
  obtain ⟨rfl, ⟨B, hBe, R2⟩, f3⟩ := h9
  refine m_aload_n hC 0 dX10_spend_4 rfl rfl ?_
  refine m_aload_n hC 0 dX10_spend_5 rfl rfl ?_
  refine m_iload_n hC 1 dX10_spend_6 rfl rfl ?_
  refine m_callV hC (t_X10_spends hF hl R2 ha hB (x := x) hx) dX10_spend_7 kc_X10_spends kV_X10_151 R2.ob rfl rfl rfl rfl (Nat.le_of_ble_eq_true rfl) (by decide) (by decide) m_nox (fun v9 M4 h9 => ?_)
  obtain ⟨rfl, R5, f6⟩ := h9
  refine m_callV hC (t_X10_ends hF hl R5 ha (h_BK.toB (S_spend_I hI x).1 (by omega)) (z := if (S_spend g x).1 < 0 then 0 else (S_spend g x).1) (gb := g) (L := L) hn6 hLw hLcw hBe hB.c (X_o14 [-2, -4] _)) dX10_spend_10 kc_X10_ends kV_X10_109 R5.ob rfl rfl rfl rfl (Nat.le_of_ble_eq_true rfl) (by decide) (by decide) m_nox (fun v9 M9 h9 => ?_)
  obtain ⟨h9a, f9⟩ := h9
  rcases h9a with ⟨c9, rfl, R9⟩ | ⟨c9, rfl, H, hH, R9⟩
  · exact m_iret hC dX10_spend_13 hr (by decide) (by decide) (X_ch1 hW (S_spend_ok hB x) (by simp [o_th, o_ix]) c9 R9 ((f3.tr f6).tr f9))
  · exact m_iret hC dX10_spend_13 hr (by decide) (by decide) (X_ch2 hW (S_spend_ok hB x) (by simp [o_th, o_ix]) c9 hH R9 ((f3.tr f6).tr f9))

set_option maxHeartbeats 4000000 in
set_option maxRecDepth 100000 in
theorem t_X10_passNights {D : va_G} {aC : Nat → ClassId} {s0 : State} {l : Launch} (hF : m_F D aC s0) (hl : l.stackTraces = false) {a : Nat} {g sg : h_T} {L : Nat → h_T} {q : Int → Int} {tx ot : List Int} {th : Int} {M : m_M} (hD : mdP a th g sg L q tx ot M) (ha : s0.heap.size ≤ a) {K : Int} (hI : h_I K g) (hKb : K ≤ 78000000) (hLc : ∀ i : Nat, (i : Int) < q 0 → cB (L i)) {x : Int} (hx : -2147483648 ≤ x ∧ x < 2147483648) : m_Met D aC s0 l yX10_passNights cX10_passNights 2 (some .int) 8 (0) (0) [.ref a, VI x] M (m_chP a [-2] (S_pass g x) sg (c_L (q 0) g L) L q tx ot M) m_nx := by
  refine m_entry (lv := [(0, .ref a), (1, VI x)]) (by decide +kernel) (Nat.le_of_ble_eq_true rfl) rfl hF hl ?_
  intro p e s m args below meth c hC hr hno hnm
  change m_C D aC s0 RX10 _ _ _ _ _ _ _ _ _ at hC
  obtain ⟨w, hV, hW⟩ := hD
  have hB := hI.1.toB (by omega)
  have hn6 : 0 ≤ w 0 6 ∧ w 0 6 ≤ 8 := by rw [hW.2.1.1]; exact hW.2.2.1
  have hLw : mH (w 5) (w 0 6) L := by rw [hW.2.1.1]; exact hW.2.2.2.2.2.1
  have hLcw : ∀ i : Nat, (i : Int) < w 0 6 → cB (L i) := by rw [hW.2.1.1]; exact hLc
  refine m_aload_n hC 0 dX10_passNights_0 rfl rfl ?_
  refine m_callV hC (t_X10_begins hF hl hV ha hB) dX10_passNights_1 kc_X10_begins kV_X10_102 hV.ob rfl rfl rfl rfl (Nat.le_of_ble_eq_true rfl) (by decide) (by decide) m_nox (fun v9 M1 h9 => ?_)
  obtain ⟨rfl, ⟨B, hBe, R2⟩, f3⟩ := h9
  refine m_aload_n hC 0 dX10_passNights_4 rfl rfl ?_
  refine m_aload_n hC 0 dX10_passNights_5 rfl rfl ?_
  refine m_iload_n hC 1 dX10_passNights_6 rfl rfl ?_
  refine m_callV hC (t_X10_waits hF hl R2 ha hB (x := x) hx hI.1 (by omega)) dX10_passNights_7 kc_X10_waits kV_X10_172 R2.ob rfl rfl rfl rfl (Nat.le_of_ble_eq_true rfl) (by decide) (by decide) m_nox (fun v9 M4 h9 => ?_)
  obtain ⟨rfl, R5, f6⟩ := h9
  refine m_callV hC (t_X10_ends hF hl R5 ha (h_BK.toB (S_pass_I hI x).1 (by omega)) (z := if (S_pass g x).1 < 0 then 0 else (S_pass g x).1) (gb := g) (L := L) hn6 hLw hLcw hBe hB.c (X_o14 [-2] _)) dX10_passNights_10 kc_X10_ends kV_X10_109 R5.ob rfl rfl rfl rfl (Nat.le_of_ble_eq_true rfl) (by decide) (by decide) m_nox (fun v9 M9 h9 => ?_)
  obtain ⟨h9a, f9⟩ := h9
  rcases h9a with ⟨c9, rfl, R9⟩ | ⟨c9, rfl, H, hH, R9⟩
  · exact m_iret hC dX10_passNights_13 hr (by decide) (by decide) (X_ch1 hW (S_pass_ok hI.1 (by omega) x) (by simp [o_th, o_ix]) c9 R9 ((f3.tr f6).tr f9))
  · exact m_iret hC dX10_passNights_13 hr (by decide) (by decide) (X_ch2 hW (S_pass_ok hI.1 (by omega) x) (by simp [o_th, o_ix]) c9 hH R9 ((f3.tr f6).tr f9))

