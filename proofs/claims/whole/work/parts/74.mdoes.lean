def s_of (x : Int) : Int := [0, 7, 13, 20, 27, 32, 39, 44, 49, 54, 59, 65, 70].getD x.toNat 0
def X_ex (g : h_T) (k : Int) (f : Int → Int) : Int × h_T := if k = 11 then S_pass g (f 0) else S_exec g k.toNat f
def m_do (a : Nat) (w : h_T) (S : Int × h_T) (M : m_M) : Option Value → m_M → Prop := fun v M' => v = some (VI (if S.1 < 0 then 0 else S.1)) ∧ (∃ th : Int, (th ≠ 0 ↔ S.1 < 0) ∧ (0 ≤ th ∧ th ≤ 5) ∧ mmV a (hs w 0 14 th) S.2 M') ∧ m_fr a 10 M M'
theorem m_do.of {a : Nat} {w g : h_T} {cs : List Int} {S : Int × h_T} {M M2 : m_M} {v : Option Value} (h : m_op a w cs S M v M2) (hok : S_ok cs g S) (hcs : ∀ z ∈ cs, z < 0 ∧ o_th cs z ≠ 0) (hl : cs.length ≤ 4) : m_do a w S M v M2 := by
  refine ⟨h.1, ⟨_, ?_, X_o14 cs _ hl, h.2.1⟩, h.2.2⟩
  rcases hok with q | ⟨q, q2⟩
  · exact ⟨fun z => absurd (if_pos q.1) z, fun z => by omega⟩
  · exact ⟨fun _ => (hcs _ q).1, fun _ => (hcs _ q).2⟩
set_option maxHeartbeats 4000000 in
set_option maxRecDepth 100000 in
theorem t_X10_startOf {D : va_G} {aC : Nat → ClassId} {s0 : State} {l : Launch} (hF : m_F D aC s0) (hl : l.stackTraces = false) {M : m_M} {x : Int} (hx : 0 ≤ x ∧ x ≤ 12) : m_Met D aC s0 l yX10_startOf cX10_startOf 1 (some .int) 0 (0) (0) [VI x] M (fun v M' => v = some (VI (s_of x)) ∧ M' = M) m_nx := by
  refine m_entry (lv := [(0, VI x)]) (by decide +kernel) (Nat.le_of_ble_eq_true rfl) rfl hF hl ?_
  intro p e s m args below meth c hC hr hno hnm
  change m_C D aC s0 RX10 _ _ _ _ _ _ _ _ _ at hC
  refine m_iload_n hC 0 dX10_startOf_0 rfl rfl ?_
  have hx9 : x = 0 ∨ x = 1 ∨ x = 2 ∨ x = 3 ∨ x = 4 ∨ x = 5 ∨ x = 6 ∨ x = 7 ∨ x = 8 ∨ x = 9 ∨ x = 10 ∨ x = 11 ∨ x = 12 := by omega
  rcases hx9 with rfl | rfl | rfl | rfl | rfl | rfl | rfl | rfl | rfl | rfl | rfl | rfl | rfl
  · refine m_tin (tgt := 64) hC dX10_startOf_1 (by decide) (by decide) rfl (by decide) ?_
    refine m_iconst hC dX10_startOf_64 ?_
    exact m_iret hC dX10_startOf_65 hr (by decide) (by decide) (⟨rfl, rfl⟩)
  · refine m_tin (tgt := 66) hC dX10_startOf_1 (by decide) (by decide) rfl (by decide) ?_
    refine m_bipush hC dX10_startOf_66 (by decide) ?_
    exact m_iret hC dX10_startOf_68 hr (by decide) (by decide) (⟨rfl, rfl⟩)
  · refine m_tin (tgt := 69) hC dX10_startOf_1 (by decide) (by decide) rfl (by decide) ?_
    refine m_bipush hC dX10_startOf_69 (by decide) ?_
    refine m_bipush hC dX10_startOf_71 (by decide) ?_
    refine m_iload_n hC 0 dX10_startOf_73 rfl rfl ?_
    refine m_iconst hC dX10_startOf_74 ?_
    refine m_isub hC dX10_startOf_75 ?_
    refine m_imul hC dX10_startOf_76 ?_
    refine m_iadd hC dX10_startOf_77 ?_
    exact m_iret hC dX10_startOf_78 hr (by decide) (by decide) (⟨rfl, rfl⟩)
  · refine m_tin (tgt := 69) hC dX10_startOf_1 (by decide) (by decide) rfl (by decide) ?_
    refine m_bipush hC dX10_startOf_69 (by decide) ?_
    refine m_bipush hC dX10_startOf_71 (by decide) ?_
    refine m_iload_n hC 0 dX10_startOf_73 rfl rfl ?_
    refine m_iconst hC dX10_startOf_74 ?_
    refine m_isub hC dX10_startOf_75 ?_
    refine m_imul hC dX10_startOf_76 ?_
    refine m_iadd hC dX10_startOf_77 ?_
    exact m_iret hC dX10_startOf_78 hr (by decide) (by decide) (⟨rfl, rfl⟩)
  · refine m_tin (tgt := 69) hC dX10_startOf_1 (by decide) (by decide) rfl (by decide) ?_
    refine m_bipush hC dX10_startOf_69 (by decide) ?_
    refine m_bipush hC dX10_startOf_71 (by decide) ?_
    refine m_iload_n hC 0 dX10_startOf_73 rfl rfl ?_
    refine m_iconst hC dX10_startOf_74 ?_
    refine m_isub hC dX10_startOf_75 ?_
    refine m_imul hC dX10_startOf_76 ?_
    refine m_iadd hC dX10_startOf_77 ?_
    exact m_iret hC dX10_startOf_78 hr (by decide) (by decide) (⟨rfl, rfl⟩)
  · refine m_tin (tgt := 79) hC dX10_startOf_1 (by decide) (by decide) rfl (by decide) ?_
    refine m_bipush hC dX10_startOf_79 (by decide) ?_
    exact m_iret hC dX10_startOf_81 hr (by decide) (by decide) (⟨rfl, rfl⟩)
  · refine m_tin (tgt := 82) hC dX10_startOf_1 (by decide) (by decide) rfl (by decide) ?_
    refine m_bipush hC dX10_startOf_82 (by decide) ?_
    refine m_iconst hC dX10_startOf_84 ?_
    refine m_iload_n hC 0 dX10_startOf_85 rfl rfl ?_
    refine m_bipush hC dX10_startOf_86 (by decide) ?_
    refine m_isub hC dX10_startOf_88 ?_
    refine m_imul hC dX10_startOf_89 ?_
    refine m_iadd hC dX10_startOf_90 ?_
    exact m_iret hC dX10_startOf_91 hr (by decide) (by decide) (⟨rfl, rfl⟩)
  · refine m_tin (tgt := 82) hC dX10_startOf_1 (by decide) (by decide) rfl (by decide) ?_
    refine m_bipush hC dX10_startOf_82 (by decide) ?_
    refine m_iconst hC dX10_startOf_84 ?_
    refine m_iload_n hC 0 dX10_startOf_85 rfl rfl ?_
    refine m_bipush hC dX10_startOf_86 (by decide) ?_
    refine m_isub hC dX10_startOf_88 ?_
    refine m_imul hC dX10_startOf_89 ?_
    refine m_iadd hC dX10_startOf_90 ?_
    exact m_iret hC dX10_startOf_91 hr (by decide) (by decide) (⟨rfl, rfl⟩)
  · refine m_tin (tgt := 82) hC dX10_startOf_1 (by decide) (by decide) rfl (by decide) ?_
    refine m_bipush hC dX10_startOf_82 (by decide) ?_
    refine m_iconst hC dX10_startOf_84 ?_
    refine m_iload_n hC 0 dX10_startOf_85 rfl rfl ?_
    refine m_bipush hC dX10_startOf_86 (by decide) ?_
    refine m_isub hC dX10_startOf_88 ?_
    refine m_imul hC dX10_startOf_89 ?_
    refine m_iadd hC dX10_startOf_90 ?_
    exact m_iret hC dX10_startOf_91 hr (by decide) (by decide) (⟨rfl, rfl⟩)
  · refine m_tin (tgt := 82) hC dX10_startOf_1 (by decide) (by decide) rfl (by decide) ?_
    refine m_bipush hC dX10_startOf_82 (by decide) ?_
    refine m_iconst hC dX10_startOf_84 ?_
    refine m_iload_n hC 0 dX10_startOf_85 rfl rfl ?_
    refine m_bipush hC dX10_startOf_86 (by decide) ?_
    refine m_isub hC dX10_startOf_88 ?_
    refine m_imul hC dX10_startOf_89 ?_
    refine m_iadd hC dX10_startOf_90 ?_
    exact m_iret hC dX10_startOf_91 hr (by decide) (by decide) (⟨rfl, rfl⟩)
  · refine m_tin (tgt := 82) hC dX10_startOf_1 (by decide) (by decide) rfl (by decide) ?_
    refine m_bipush hC dX10_startOf_82 (by decide) ?_
    refine m_iconst hC dX10_startOf_84 ?_
    refine m_iload_n hC 0 dX10_startOf_85 rfl rfl ?_
    refine m_bipush hC dX10_startOf_86 (by decide) ?_
    refine m_isub hC dX10_startOf_88 ?_
    refine m_imul hC dX10_startOf_89 ?_
    refine m_iadd hC dX10_startOf_90 ?_
    exact m_iret hC dX10_startOf_91 hr (by decide) (by decide) (⟨rfl, rfl⟩)
  · refine m_tin (tgt := 92) hC dX10_startOf_1 (by decide) (by decide) rfl (by decide) ?_
    refine m_bipush hC dX10_startOf_92 (by decide) ?_
    exact m_iret hC dX10_startOf_94 hr (by decide) (by decide) (⟨rfl, rfl⟩)
  · refine m_tout (tgt := 95) hC dX10_startOf_1 (by decide) (by decide) (by decide) ?_
    refine m_bipush hC dX10_startOf_95 (by decide) ?_
    exact m_iret hC dX10_startOf_97 hr (by decide) (by decide) (⟨rfl, rfl⟩)

theorem X_ex0 {w g : h_T} {x : Int} (e : w 9 x = 0) : X_ex g (w 9 x) (fun i => w 9 (x + 1 + i)) = S_addGoblin g (w 9 (x + 1)) := by
  rw [e]
  unfold X_ex
  rw [if_neg (by decide)]
  show S_addGoblin g (w 9 (x + 1 + 0)) = _
  rw [show x + 1 + 0 = x + 1 by omega]
theorem X_ex1 {w g : h_T} {x : Int} (e : w 9 x = 1) : X_ex g (w 9 x) (fun i => w 9 (x + 1 + i)) = S_addBroom g (w 9 (x + 1)) := by
  rw [e]
  unfold X_ex
  rw [if_neg (by decide)]
  show S_addBroom g (w 9 (x + 1 + 0)) = _
  rw [show x + 1 + 0 = x + 1 by omega]
theorem X_ex2 {w g : h_T} {x : Int} (e : w 9 x = 2) : X_ex g (w 9 x) (fun i => w 9 (x + 1 + i)) = S_banish g (w 9 (x + 1)) := by
  rw [e]
  unfold X_ex
  rw [if_neg (by decide)]
  show S_banish g (w 9 (x + 1 + 0)) = _
  rw [show x + 1 + 0 = x + 1 by omega]
theorem X_ex3 {w g : h_T} {x : Int} (e : w 9 x = 3) : X_ex g (w 9 x) (fun i => w 9 (x + 1 + i)) = S_recall g (w 9 (x + 1)) := by
  rw [e]
  unfold X_ex
  rw [if_neg (by decide)]
  show S_recall g (w 9 (x + 1 + 0)) = _
  rw [show x + 1 + 0 = x + 1 by omega]
theorem X_ex4 {w g : h_T} {x : Int} (e : w 9 x = 4) : X_ex g (w 9 x) (fun i => w 9 (x + 1 + i)) = S_hire g (w 9 (x + 1)) (w 9 (x + 2)) (w 9 (x + 3)) (w 9 (x + 4)) := by
  rw [e]
  unfold X_ex
  rw [if_neg (by decide)]
  show S_hire g (w 9 (x + 1 + 0)) (w 9 (x + 1 + 1)) (w 9 (x + 1 + 2)) (w 9 (x + 1 + 3)) = _
  rw [show x + 1 + 0 = x + 1 by omega, show x + 1 + 1 = x + 2 by omega, show x + 1 + 2 = x + 3 by omega, show x + 1 + 3 = x + 4 by omega]
theorem X_ex5 {w g : h_T} {x : Int} (e : w 9 x = 5) : X_ex g (w 9 x) (fun i => w 9 (x + 1 + i)) = S_cancel g (w 9 (x + 1)) := by
  rw [e]
  unfold X_ex
  rw [if_neg (by decide)]
  show S_cancel g (w 9 (x + 1 + 0)) = _
  rw [show x + 1 + 0 = x + 1 by omega]
theorem X_ex6 {w g : h_T} {x : Int} (e : w 9 x = 6) : X_ex g (w 9 x) (fun i => w 9 (x + 1 + i)) = S_rest g (w 9 (x + 1)) := by
  rw [e]
  unfold X_ex
  rw [if_neg (by decide)]
  show S_rest g (w 9 (x + 1 + 0)) = _
  rw [show x + 1 + 0 = x + 1 by omega]
theorem X_ex7 {w g : h_T} {x : Int} (e : w 9 x = 7) : X_ex g (w 9 x) (fun i => w 9 (x + 1 + i)) = S_wake g (w 9 (x + 1)) := by
  rw [e]
  unfold X_ex
  rw [if_neg (by decide)]
  show S_wake g (w 9 (x + 1 + 0)) = _
  rw [show x + 1 + 0 = x + 1 by omega]
theorem X_ex8 {w g : h_T} {x : Int} (e : w 9 x = 8) : X_ex g (w 9 x) (fun i => w 9 (x + 1 + i)) = S_lend g (w 9 (x + 1)) (w 9 (x + 2)) := by
  rw [e]
  unfold X_ex
  rw [if_neg (by decide)]
  show S_lend g (w 9 (x + 1 + 0)) (w 9 (x + 1 + 1)) = _
  rw [show x + 1 + 0 = x + 1 by omega, show x + 1 + 1 = x + 2 by omega]
theorem X_ex9 {w g : h_T} {x : Int} (e : w 9 x = 9) : X_ex g (w 9 x) (fun i => w 9 (x + 1 + i)) = S_fund g (w 9 (x + 1)) := by
  rw [e]
  unfold X_ex
  rw [if_neg (by decide)]
  show S_fund g (w 9 (x + 1 + 0)) = _
  rw [show x + 1 + 0 = x + 1 by omega]
theorem X_ex10 {w g : h_T} {x : Int} (e : w 9 x = 10) : X_ex g (w 9 x) (fun i => w 9 (x + 1 + i)) = S_spend g (w 9 (x + 1)) := by
  rw [e]
  unfold X_ex
  rw [if_neg (by decide)]
  show S_spend g (w 9 (x + 1 + 0)) = _
  rw [show x + 1 + 0 = x + 1 by omega]
theorem X_ex11 {w g : h_T} {x : Int} (e : w 9 x = 11) : X_ex g (w 9 x) (fun i => w 9 (x + 1 + i)) = S_pass g (w 9 (x + 1)) := by
  rw [e]
  unfold X_ex
  rw [if_pos rfl]
  show S_pass g (w 9 (x + 1 + 0)) = _
  rw [show x + 1 + 0 = x + 1 by omega]
set_option maxHeartbeats 4000000 in
set_option maxRecDepth 100000 in
theorem t_X10_does {D : va_G} {aC : Nat → ClassId} {s0 : State} {l : Launch} (hF : m_F D aC s0) (hl : l.stackTraces = false) {a : Nat} {w g : h_T} {M : m_M} (hV : mmV a w g M) (ha : s0.heap.size ≤ a) (hB : h_B g) {x : Int} (hx : 0 ≤ x ∧ x + 5 ≤ 150) (hk : 0 ≤ w 9 x ∧ w 9 x ≤ 11) (n1 : -2147483648 ≤ w 9 (x + 1) ∧ w 9 (x + 1) < 2147483648) (hn4 : w 9 x = 4 → (-2147483648 ≤ w 9 (x + 2) ∧ w 9 (x + 2) < 2147483648) ∧ (-2147483648 ≤ w 9 (x + 3) ∧ w 9 (x + 3) < 2147483648) ∧ (-2147483648 ≤ w 9 (x + 4) ∧ w 9 (x + 4) < 2147483648)) (hn8 : w 9 x = 8 → -2147483648 ≤ w 9 (x + 2) ∧ w 9 (x + 2) < 2147483648) {K : Int} (hI : h_I K g) (hKb : K ≤ 78000000) : m_Met D aC s0 l yX10_does cX10_does 3 (some .int) 8 (0) (0) [.ref a, VI x] M (m_do a w (X_ex g (w 9 x) (fun i => w 9 (x + 1 + i))) M) m_nx := by
  refine m_entry (lv := [(0, .ref a), (1, VI x)]) (by decide +kernel) (Nat.le_of_ble_eq_true rfl) rfl hF hl ?_
  intro p e s m args below meth c hC hr hno hnm
  change m_C D aC s0 RX10 _ _ _ _ _ _ _ _ _ at hC
  refine m_aload_n hC 0 dX10_does_0 rfl rfl ?_
  refine m_getf hC dX10_does_1 kf_X10_41 hV.ob rfl ?_
  refine m_iload_n hC 1 dX10_does_4 rfl rfl ?_
  refine m_iconst hC dX10_does_5 ?_
  refine m_iadd hC dX10_does_6 ?_
  refine m_iald hC dX10_does_7 hV.c9 (by decide) (by omega) ?_
  refine m_istore_n hC dX10_does_8 rfl (by decide) rfl ?_
  refine m_aload_n hC 1 dX10_does_9 rfl rfl ?_
  refine m_getf hC dX10_does_10 kf_X10_41 hV.ob rfl ?_
  refine m_iload_n hC 2 dX10_does_13 rfl rfl ?_
  refine m_iald hC dX10_does_14 hV.c9 (by decide) (by omega) ?_
  have hk9 : w 9 x = 0 ∨ w 9 x = 1 ∨ w 9 x = 2 ∨ w 9 x = 3 ∨ w 9 x = 4 ∨ w 9 x = 5 ∨ w 9 x = 6 ∨ w 9 x = 7 ∨ w 9 x = 8 ∨ w 9 x = 9 ∨ w 9 x = 10 ∨ w 9 x = 11 := by omega
  rcases hk9 with e | e | e | e | e | e | e | e | e | e | e | e
  · refine m_veq e ?_
    refine m_tin (tgt := 72) hC dX10_does_15 (by decide) (by decide) rfl (by decide) ?_
    refine m_aload_n hC 1 dX10_does_72 rfl rfl ?_
    refine m_iload_n hC 0 dX10_does_73 rfl rfl ?_
    refine m_callV hC (t_X10_addsGoblin hF hl hV ha hB (x := (w 9 (x + 1))) (by omega)) dX10_does_74 kc_X10_addsGoblin kV_X10_105 hV.ob rfl rfl rfl rfl (Nat.le_of_ble_eq_true rfl) (by decide) (by decide) m_nox (fun v9 M9 h9 => ?_)
    have h6 : m_do a w (X_ex g (w 9 x) (fun i => w 9 (x + 1 + i))) M v9 M9 := by rw [X_ex0 e]; exact m_do.of h9 (S_addGoblin_ok hB (w 9 (x + 1))) (by simp [o_th, o_ix]) (by decide)
    obtain ⟨rfl, h8, h7⟩ := h6
    exact m_iret hC dX10_does_77 hr (by decide) (by decide) ⟨rfl, h8, h7⟩
  · refine m_veq e ?_
    refine m_tin (tgt := 78) hC dX10_does_15 (by decide) (by decide) rfl (by decide) ?_
    refine m_aload_n hC 1 dX10_does_78 rfl rfl ?_
    refine m_iload_n hC 0 dX10_does_79 rfl rfl ?_
    refine m_callV hC (t_X10_addsBroom hF hl hV ha hB (x := (w 9 (x + 1))) (by omega)) dX10_does_80 kc_X10_addsBroom kV_X10_112 hV.ob rfl rfl rfl rfl (Nat.le_of_ble_eq_true rfl) (by decide) (by decide) m_nox (fun v9 M9 h9 => ?_)
    have h6 : m_do a w (X_ex g (w 9 x) (fun i => w 9 (x + 1 + i))) M v9 M9 := by rw [X_ex1 e]; exact m_do.of h9 (S_addBroom_ok hB (w 9 (x + 1))) (by simp [o_th, o_ix]) (by decide)
    obtain ⟨rfl, h8, h7⟩ := h6
    exact m_iret hC dX10_does_83 hr (by decide) (by decide) ⟨rfl, h8, h7⟩
  · refine m_veq e ?_
    refine m_tin (tgt := 84) hC dX10_does_15 (by decide) (by decide) rfl (by decide) ?_
    refine m_aload_n hC 1 dX10_does_84 rfl rfl ?_
    refine m_iload_n hC 0 dX10_does_85 rfl rfl ?_
    refine m_iconst hC dX10_does_86 ?_
    refine m_aload_n hC 1 dX10_does_87 rfl rfl ?_
    refine m_getf hC dX10_does_88 kf_X10_41 hV.ob rfl ?_
    refine m_iload_n hC 2 dX10_does_91 rfl rfl ?_
    refine m_iald hC dX10_does_92 hV.c9 (by decide) (by omega) ?_
    refine m_isub hC dX10_does_93 ?_
    refine m_veq (z2 := 1) (by omega) ?_
    refine m_callV hC (t_X10_banishes1 hF hl hV ha hB (x := (w 9 (x + 1))) (by omega)) dX10_does_94 kc_X10_banishes kV_X10_115 hV.ob rfl rfl rfl rfl (Nat.le_of_ble_eq_true rfl) (by decide) (by decide) m_nox (fun v9 M9 h9 => ?_)
    have h6 : m_do a w (X_ex g (w 9 x) (fun i => w 9 (x + 1 + i))) M v9 M9 := by rw [X_ex2 e]; exact m_do.of h9 (S_banish_ok hB (w 9 (x + 1))) (by simp [o_th, o_ix]) (by decide)
    obtain ⟨rfl, h8, h7⟩ := h6
    exact m_iret hC dX10_does_97 hr (by decide) (by decide) ⟨rfl, h8, h7⟩
  · refine m_veq e ?_
    refine m_tin (tgt := 84) hC dX10_does_15 (by decide) (by decide) rfl (by decide) ?_
    refine m_aload_n hC 1 dX10_does_84 rfl rfl ?_
    refine m_iload_n hC 0 dX10_does_85 rfl rfl ?_
    refine m_iconst hC dX10_does_86 ?_
    refine m_aload_n hC 1 dX10_does_87 rfl rfl ?_
    refine m_getf hC dX10_does_88 kf_X10_41 hV.ob rfl ?_
    refine m_iload_n hC 2 dX10_does_91 rfl rfl ?_
    refine m_iald hC dX10_does_92 hV.c9 (by decide) (by omega) ?_
    refine m_isub hC dX10_does_93 ?_
    refine m_veq (z2 := 0) (by omega) ?_
    refine m_callV hC (t_X10_banishes0 hF hl hV ha hB (x := (w 9 (x + 1))) (by omega)) dX10_does_94 kc_X10_banishes kV_X10_115 hV.ob rfl rfl rfl rfl (Nat.le_of_ble_eq_true rfl) (by decide) (by decide) m_nox (fun v9 M9 h9 => ?_)
    have h6 : m_do a w (X_ex g (w 9 x) (fun i => w 9 (x + 1 + i))) M v9 M9 := by rw [X_ex3 e]; exact m_do.of h9 (S_recall_ok hB (w 9 (x + 1))) (by simp [o_th, o_ix]) (by decide)
    obtain ⟨rfl, h8, h7⟩ := h6
    exact m_iret hC dX10_does_97 hr (by decide) (by decide) ⟨rfl, h8, h7⟩
  · refine m_veq e ?_
    obtain ⟨n2, n3, n4⟩ := hn4 e
    refine m_tin (tgt := 98) hC dX10_does_15 (by decide) (by decide) rfl (by decide) ?_
    refine m_aload_n hC 1 dX10_does_98 rfl rfl ?_
    refine m_iload_n hC 0 dX10_does_99 rfl rfl ?_
    refine m_aload_n hC 1 dX10_does_100 rfl rfl ?_
    refine m_getf hC dX10_does_101 kf_X10_41 hV.ob rfl ?_
    refine m_iload_n hC 2 dX10_does_104 rfl rfl ?_
    refine m_iconst hC dX10_does_105 ?_
    refine m_iadd hC dX10_does_106 ?_
    refine m_iald hC dX10_does_107 hV.c9 (by decide) (by omega) ?_
    refine m_aload_n hC 1 dX10_does_108 rfl rfl ?_
    refine m_getf hC dX10_does_109 kf_X10_41 hV.ob rfl ?_
    refine m_iload_n hC 2 dX10_does_112 rfl rfl ?_
    refine m_iconst hC dX10_does_113 ?_
    refine m_iadd hC dX10_does_114 ?_
    refine m_iald hC dX10_does_115 hV.c9 (by decide) (by omega) ?_
    refine m_aload_n hC 1 dX10_does_116 rfl rfl ?_
    refine m_getf hC dX10_does_117 kf_X10_41 hV.ob rfl ?_
    refine m_iload_n hC 2 dX10_does_120 rfl rfl ?_
    refine m_iconst hC dX10_does_121 ?_
    refine m_iadd hC dX10_does_122 ?_
    refine m_iald hC dX10_does_123 hV.c9 (by decide) (by omega) ?_
    refine m_callV hC (t_X10_hires hF hl hV ha hB (x := (w 9 (x + 1))) (y := w 9 (x + 2)) (zw := w 9 (x + 3)) (ze := w 9 (x + 4)) (by omega) (by omega) (by omega) (by omega)) dX10_does_124 kc_X10_hires kV_X10_128 hV.ob rfl rfl rfl rfl (Nat.le_of_ble_eq_true rfl) (by decide) (by decide) m_nox (fun v9 M9 h9 => ?_)
    have h6 : m_do a w (X_ex g (w 9 x) (fun i => w 9 (x + 1 + i))) M v9 M9 := by rw [X_ex4 e]; exact m_do.of h9 (S_hire_ok hB (w 9 (x + 1)) (w 9 (x + 2)) (w 9 (x + 3)) (w 9 (x + 4))) (by simp [o_th, o_ix]) (by decide)
    obtain ⟨rfl, h8, h7⟩ := h6
    exact m_iret hC dX10_does_127 hr (by decide) (by decide) ⟨rfl, h8, h7⟩
  · refine m_veq e ?_
    refine m_tin (tgt := 128) hC dX10_does_15 (by decide) (by decide) rfl (by decide) ?_
    refine m_aload_n hC 1 dX10_does_128 rfl rfl ?_
    refine m_iload_n hC 0 dX10_does_129 rfl rfl ?_
    refine m_callV hC (t_X10_cancels hF hl hV ha hB (x := (w 9 (x + 1))) (by omega) hI.2.2.2.1 hI.1 (by omega)) dX10_does_130 kc_X10_cancels kV_X10_142 hV.ob rfl rfl rfl rfl (Nat.le_of_ble_eq_true rfl) (by decide) (by decide) m_nox (fun v9 M9 h9 => ?_)
    have h6 : m_do a w (X_ex g (w 9 x) (fun i => w 9 (x + 1 + i))) M v9 M9 := by rw [X_ex5 e]; exact m_do.of h9 (S_cancel_ok hB (w 9 (x + 1))) (by simp [o_th, o_ix]) (by decide)
    obtain ⟨rfl, h8, h7⟩ := h6
    exact m_iret hC dX10_does_133 hr (by decide) (by decide) ⟨rfl, h8, h7⟩
  · refine m_veq e ?_
    refine m_tin (tgt := 134) hC dX10_does_15 (by decide) (by decide) rfl (by decide) ?_
    refine m_aload_n hC 1 dX10_does_134 rfl rfl ?_
    refine m_iload_n hC 0 dX10_does_135 rfl rfl ?_
    refine m_bipush hC dX10_does_136 (by decide) ?_
    refine m_aload_n hC 1 dX10_does_138 rfl rfl ?_
    refine m_getf hC dX10_does_139 kf_X10_41 hV.ob rfl ?_
    refine m_iload_n hC 2 dX10_does_142 rfl rfl ?_
    refine m_iald hC dX10_does_143 hV.c9 (by decide) (by omega) ?_
    refine m_isub hC dX10_does_144 ?_
    refine m_veq (z2 := 1) (by omega) ?_
    refine m_callV hC (t_X10_rests1 hF hl hV ha hB (x := (w 9 (x + 1))) (by omega)) dX10_does_145 kc_X10_rests kV_X10_118 hV.ob rfl rfl rfl rfl (Nat.le_of_ble_eq_true rfl) (by decide) (by decide) m_nox (fun v9 M9 h9 => ?_)
    have h6 : m_do a w (X_ex g (w 9 x) (fun i => w 9 (x + 1 + i))) M v9 M9 := by rw [X_ex6 e]; exact m_do.of h9 (S_rest_ok hB (w 9 (x + 1))) (by simp [o_th, o_ix]) (by decide)
    obtain ⟨rfl, h8, h7⟩ := h6
    exact m_iret hC dX10_does_148 hr (by decide) (by decide) ⟨rfl, h8, h7⟩
  · refine m_veq e ?_
    refine m_tin (tgt := 134) hC dX10_does_15 (by decide) (by decide) rfl (by decide) ?_
    refine m_aload_n hC 1 dX10_does_134 rfl rfl ?_
    refine m_iload_n hC 0 dX10_does_135 rfl rfl ?_
    refine m_bipush hC dX10_does_136 (by decide) ?_
    refine m_aload_n hC 1 dX10_does_138 rfl rfl ?_
    refine m_getf hC dX10_does_139 kf_X10_41 hV.ob rfl ?_
    refine m_iload_n hC 2 dX10_does_142 rfl rfl ?_
    refine m_iald hC dX10_does_143 hV.c9 (by decide) (by omega) ?_
    refine m_isub hC dX10_does_144 ?_
    refine m_veq (z2 := 0) (by omega) ?_
    refine m_callV hC (t_X10_rests0 hF hl hV ha hB (x := (w 9 (x + 1))) (by omega)) dX10_does_145 kc_X10_rests kV_X10_118 hV.ob rfl rfl rfl rfl (Nat.le_of_ble_eq_true rfl) (by decide) (by decide) m_nox (fun v9 M9 h9 => ?_)
    have h6 : m_do a w (X_ex g (w 9 x) (fun i => w 9 (x + 1 + i))) M v9 M9 := by rw [X_ex7 e]; exact m_do.of h9 (S_wake_ok hB (w 9 (x + 1))) (by simp [o_th, o_ix]) (by decide)
    obtain ⟨rfl, h8, h7⟩ := h6
    exact m_iret hC dX10_does_148 hr (by decide) (by decide) ⟨rfl, h8, h7⟩
  · refine m_veq e ?_
    have n2 := hn8 e
    refine m_tin (tgt := 149) hC dX10_does_15 (by decide) (by decide) rfl (by decide) ?_
    refine m_aload_n hC 1 dX10_does_149 rfl rfl ?_
    refine m_iload_n hC 0 dX10_does_150 rfl rfl ?_
    refine m_aload_n hC 1 dX10_does_151 rfl rfl ?_
    refine m_getf hC dX10_does_152 kf_X10_41 hV.ob rfl ?_
    refine m_iload_n hC 2 dX10_does_155 rfl rfl ?_
    refine m_iconst hC dX10_does_156 ?_
    refine m_iadd hC dX10_does_157 ?_
    refine m_iald hC dX10_does_158 hV.c9 (by decide) (by omega) ?_
    refine m_callV hC (t_X10_lends hF hl hV ha hB (x := (w 9 (x + 1))) (y := w 9 (x + 2)) (by omega) (by omega) hI.1 (by omega)) dX10_does_159 kc_X10_lends kV_X10_145 hV.ob rfl rfl rfl rfl (Nat.le_of_ble_eq_true rfl) (by decide) (by decide) m_nox (fun v9 M9 h9 => ?_)
    have h6 : m_do a w (X_ex g (w 9 x) (fun i => w 9 (x + 1 + i))) M v9 M9 := by rw [X_ex8 e]; exact m_do.of h9 (S_lend_ok hB (w 9 (x + 1)) (w 9 (x + 2))) (by simp [o_th, o_ix]) (by decide)
    obtain ⟨rfl, h8, h7⟩ := h6
    exact m_iret hC dX10_does_162 hr (by decide) (by decide) ⟨rfl, h8, h7⟩
  · refine m_veq e ?_
    refine m_tin (tgt := 163) hC dX10_does_15 (by decide) (by decide) rfl (by decide) ?_
    refine m_aload_n hC 1 dX10_does_163 rfl rfl ?_
    refine m_iload_n hC 0 dX10_does_164 rfl rfl ?_
    refine m_callV hC (t_X10_funds hF hl hV ha hB (x := (w 9 (x + 1))) (by omega)) dX10_does_165 kc_X10_funds kV_X10_148 hV.ob rfl rfl rfl rfl (Nat.le_of_ble_eq_true rfl) (by decide) (by decide) m_nox (fun v9 M9 h9 => ?_)
    have h6 : m_do a w (X_ex g (w 9 x) (fun i => w 9 (x + 1 + i))) M v9 M9 := by rw [X_ex9 e]; exact m_do.of h9 (S_fund_ok hB (w 9 (x + 1))) (by simp [o_th, o_ix]) (by decide)
    obtain ⟨rfl, h8, h7⟩ := h6
    exact m_iret hC dX10_does_168 hr (by decide) (by decide) ⟨rfl, h8, h7⟩
  · refine m_veq e ?_
    refine m_tin (tgt := 169) hC dX10_does_15 (by decide) (by decide) rfl (by decide) ?_
    refine m_aload_n hC 1 dX10_does_169 rfl rfl ?_
    refine m_iload_n hC 0 dX10_does_170 rfl rfl ?_
    refine m_callV hC (t_X10_spends hF hl hV ha hB (x := (w 9 (x + 1))) (by omega)) dX10_does_171 kc_X10_spends kV_X10_151 hV.ob rfl rfl rfl rfl (Nat.le_of_ble_eq_true rfl) (by decide) (by decide) m_nox (fun v9 M9 h9 => ?_)
    have h6 : m_do a w (X_ex g (w 9 x) (fun i => w 9 (x + 1 + i))) M v9 M9 := by rw [X_ex10 e]; exact m_do.of h9 (S_spend_ok hB (w 9 (x + 1))) (by simp [o_th, o_ix]) (by decide)
    obtain ⟨rfl, h8, h7⟩ := h6
    exact m_iret hC dX10_does_174 hr (by decide) (by decide) ⟨rfl, h8, h7⟩
  · refine m_veq e ?_
    refine m_tout (tgt := 175) hC dX10_does_15 (by decide) (by decide) (by decide) ?_
    refine m_aload_n hC 1 dX10_does_175 rfl rfl ?_
    refine m_iload_n hC 0 dX10_does_176 rfl rfl ?_
    refine m_callV hC (t_X10_waits hF hl hV ha hB (x := (w 9 (x + 1))) (by omega) hI.1 (by omega)) dX10_does_177 kc_X10_waits kV_X10_172 hV.ob rfl rfl rfl rfl (Nat.le_of_ble_eq_true rfl) (by decide) (by decide) m_nox (fun v9 M9 h9 => ?_)
    have h6 : m_do a w (X_ex g (w 9 x) (fun i => w 9 (x + 1 + i))) M v9 M9 := by rw [X_ex11 e]; exact m_do.of h9 (S_pass_ok hI.1 (by omega) (w 9 (x + 1))) (by simp [o_th, o_ix]) (by decide)
    obtain ⟨rfl, h8, h7⟩ := h6
    exact m_iret hC dX10_does_180 hr (by decide) (by decide) ⟨rfl, h8, h7⟩

