theorem p_rc_s (tx : List Int) (q : Int) (n k : Nat) (fu : Int) : p_rc tx q (n + 1) k fu = if (p_f1 tx k q fu).1 ≠ -1 then ((p_f1 tx k q fu).1, (p_f1 tx k q fu).2.1, k, (p_f1 tx k q fu).2.2) else p_rc tx q n (k + 1) (p_f1 tx k q fu).2.1 := rfl
theorem p_rcs_s (tx : List Int) (n : Nat) (q fu : Int) : p_rcs tx (n + 1) q fu = if (p_rc tx q 13 0 fu).1 = -1 then (false, (p_rc tx q 13 0 fu).2.1, []) else if (p_rc tx q 13 0 fu).1 = (tx.length : Int) then (true, (p_rc tx q 13 0 fu).2.1, [(p_rc tx q 13 0 fu).2.2]) else ((p_rcs tx n ((p_rc tx q 13 0 fu).1 + 1) (p_rc tx q 13 0 fu).2.1).1, (p_rcs tx n ((p_rc tx q 13 0 fu).1 + 1) (p_rc tx q 13 0 fu).2.1).2.1, (p_rc tx q 13 0 fu).2.2 :: (p_rcs tx n ((p_rc tx q 13 0 fu).1 + 1) (p_rc tx q 13 0 fu).2.1).2.2) := rfl

set_option maxHeartbeats 4000000 in
set_option maxRecDepth 100000 in
theorem t_X8_readCommand {D : va_G} {aC : Nat → ClassId} {s0 : State} {l : Launch} (hF : m_F D aC s0) (hl : l.stackTraces = false) {fo ks vs : Nat → Nat} {fA sA dO dT : Nat} (hJ : m_J s0 fo ks vs fA sA dO dT) {y v n a9 k0 : Nat} {tx : List Int} {cnt fur : Int} {M : m_M} (hY : M.2 y = some (m_ob 10 [.ref (y + 1), .ref (y + 3), VI cnt, VI fur])) (hT : sbT s0.heap.size (y + 1) v n tx M) (hy : s0.heap.size ≤ y) (hv : v = y + 2 ∨ y + 28 ≤ v) (ha9 : y + 4 ≤ a9 ∧ a9 + 2 ≤ y + 28) (hL : tx.length ≤ 240) (hfu : 0 ≤ fur ∧ fur ≤ 1000) {A0 : List Int} (hA : cmA fo a9 k0 A0 M) (hk0 : k0 < 13) {q : Int} (hq : 0 ≤ q ∧ q ≤ (tx.length : Int)) : m_Met D aC s0 l yX8_readCommand cX8_readCommand 8 (some .int) 7 (0) (0) [.ref y, VI q, .ref a9] M (fun r M' => r = some (VI (p_rc tx q 13 0 fur).1) ∧ M'.2 y = some (m_ob 10 [.ref (y + 1), .ref (y + 3), VI cnt, VI (p_rc tx q 13 0 fur).2.1]) ∧ (∃ (k2 : Nat) (A2 : List Int), k2 < 13 ∧ cmA fo a9 k2 A2 M' ∧ ((p_rc tx q 13 0 fur).1 ≠ -1 → (k2, A2) = (p_rc tx q 13 0 fur).2.2)) ∧ m_f2 y a9 M M') m_nx := by
  refine m_entry (lv := [(0, .ref y), (1, VI q), (2, .ref a9)]) (by decide +kernel) (Nat.le_of_ble_eq_true rfl) rfl hF hl ?_
  intro p e s m args below meth c hC hr hno hnm
  change m_C D aC s0 RX8 _ _ _ _ _ _ _ _ _ at hC
  refine m_gets hC hJ.fZ kg_X8_40 dX8_readCommand_0 ?_
  refine m_astore_n hC dX8_readCommand_3 rfl (by decide) rfl ?_
  refine m_aload_n hC 0 dX8_readCommand_4 rfl rfl ?_
  refine m_ctl hC hJ.fT dX8_readCommand_5 ?_
  refine m_istore hC dX8_readCommand_6 (by decide) rfl ?_
  refine m_iconst hC dX8_readCommand_8 ?_
  refine m_istore hC dX8_readCommand_9 (by decide) rfl ?_
  have L : ∀ (n9 : Nat) (i fu : Int) (k1 : Nat) (A1 : List Int) (M1 : m_M), 13 - i < (n9 : Int) → 0 ≤ i → i ≤ 13 → (p_rc tx q 13 0 fur) = p_rc tx q (13 - i).toNat i.toNat fu → 0 ≤ fu ∧ fu ≤ 1000 → k1 < 13 → cmA fo a9 k1 A1 M1 → M1.2 y = some (m_ob 10 [.ref (y + 1), .ref (y + 3), VI cnt, VI fu]) → sbT s0.heap.size (y + 1) v n tx M1 → m_f2 y a9 M M1 → m_W D aC s0 8 p l e (m_R 7 (0) (0)) s m args below meth c (0) (0) (m_Q D aC s0 below (fun r M' => r = some (VI (p_rc tx q 13 0 fur).1) ∧ M'.2 y = some (m_ob 10 [.ref (y + 1), .ref (y + 3), VI cnt, VI (p_rc tx q 13 0 fur).2.1]) ∧ (∃ (k2 : Nat) (A2 : List Int), k2 < 13 ∧ cmA fo a9 k2 A2 M' ∧ ((p_rc tx q 13 0 fur).1 ≠ -1 → (k2, A2) = (p_rc tx q 13 0 fur).2.2)) ∧ m_f2 y a9 M M') m_nx args s (0) (0)) 11 [(5, VI i), (4, VI 13), (3, .ref fA), (2, .ref a9), (1, VI q), (0, .ref y)] [] M1 := by
    intro n9
    induction n9 with
    | zero =>
      intro i fu k1 A1 M1 hn h0 h1 hS hfu1 hk1 hA1 hY1 hT1 hf1
      omega
    | succ n9 ih =>
      intro i fu k1 A1 M1 hn h0 h1 hS hfu1 hk1 hA1 hY1 hT1 hf1
      refine m_iload hC 0 dX8_readCommand_11 rfl ?_
      refine m_iload hC 1 dX8_readCommand_13 rfl ?_
      refine m_icmp_ge (tgt := 58) hC dX8_readCommand_15 (by decide) (by first | omega | (simp [hs_at] <;> omega)) (fun c1 => ?_) (fun c1 => ?_)
      · refine m_iconst hC dX8_readCommand_58 ?_
        exact m_iret hC dX8_readCommand_59 hr (by decide) (by decide) ((by have hR9 : (p_rc tx q 13 0 fur) = (-1, fu, 0, []) := (by rw [hS, show (13 - i).toNat = 0 by omega, p_rc]); rw [hR9]; exact ⟨rfl, hY1, ⟨k1, A1, hk1, hA1, fun h => absurd rfl h⟩, hf1⟩))
      · refine m_aload_n hC 2 dX8_readCommand_18 rfl rfl ?_
        refine m_iload hC 0 dX8_readCommand_19 rfl ?_
        refine m_cta hC hJ.fT dX8_readCommand_21 (by decide) (by omega) rfl ?_
        refine m_astore hC dX8_readCommand_22 (by decide) rfl ?_
        refine m_aload_n hC 6 dX8_readCommand_24 rfl rfl ?_
        refine m_aload hC 0 dX8_readCommand_25 rfl ?_
        refine m_cgetf hC (hJ.sig i.toNat (by omega)) kg_X8_44 dX8_readCommand_27 ?_
        refine m_iload_n hC 5 dX8_readCommand_30 rfl rfl ?_
        refine m_aload_n hC 4 dX8_readCommand_31 rfl rfl ?_
        refine m_callV hC (t_X8_fit hF hl hJ hY1 hT1 hy hv ha9 hL hfu1 hA1 (hJ.str (k := i.toNat) (by omega)) hq) dX8_readCommand_32 kc_X8_fit kV_X8_50 hY1 rfl rfl rfl rfl (Nat.le_of_ble_eq_true rfl) (by decide) (by decide) m_nox (fun v9 M2 h9 => ?_)
        obtain ⟨rfl, hY2, hA2, hf2⟩ := h9
        have hT2 := hT1.keep2 hf2 (by omega) (by omega)
        have rg := p_fit_rg tx (fo_z.getD i.toNat []) (fo_z.getD i.toNat []).length 0 q [] fu hq hfu1 hL
        have hS1 := hS
        rw [show (13 - i).toNat = (13 - (i + 1)).toNat + 1 by omega, p_rc_s tx q (13 - (i + 1)).toNat i.toNat fu] at hS1
        change m_W _ _ _ _ _ _ _ _ _ _ _ _ _ _ _ _ _ _ _ (VI (p_f1 tx i.toNat q fu).1 :: _) _
        change M2.2 y = some (m_ob 10 [_, _, _, VI (p_f1 tx i.toNat q fu).2.1]) at hY2
        change cmA fo a9 k1 (p_f1 tx i.toNat q fu).2.2 _ at hA2
        change ((p_f1 tx i.toNat q fu).1 = -1 ∨ (q ≤ (p_f1 tx i.toNat q fu).1 ∧ (p_f1 tx i.toNat q fu).1 ≤ _)) ∧ 0 ≤ (p_f1 tx i.toNat q fu).2.1 ∧ (p_f1 tx i.toNat q fu).2.1 ≤ 1000 at rg
        generalize hrE : p_f1 tx i.toNat q fu = r1 at *
        refine m_istore hC dX8_readCommand_35 (by decide) rfl ?_
        refine m_iload hC 0 dX8_readCommand_37 rfl ?_
        refine m_iconst hC dX8_readCommand_39 ?_
        refine m_icmp_eq (tgt := 52) hC dX8_readCommand_40 (by decide) (by first | omega | (simp [hs_at] <;> omega)) (fun c3 => ?_) (fun c3 => ?_)
        · refine m_iinc hC 2 dX8_readCommand_52 rfl (by decide) rfl ?_
          refine m_goto (tgt := 11) hC dX8_readCommand_55 (by decide) ?_
          refine m_lvs [0, 3, 4, 5, 6, 7] rfl (ih (i + 1) r1.2.1 k1 r1.2.2 M2 (by omega) (by omega) (by omega) (by rw [hS1, if_neg (by omega), show (i + 1).toNat = i.toNat + 1 by omega]) rg.2 hk1 hA2 hY2 hT2 (hf1.tr hf2))
        · obtain ⟨hA3, f3, hA4, hA5⟩ := hA2
          refine m_aload_n hC 5 dX8_readCommand_43 rfl rfl ?_
          refine m_aload hC 1 dX8_readCommand_44 rfl ?_
          refine m_gpf hC dX8_readCommand_46 kf_X8_54 kw_5_2 hA4.1 (by omega) (Nat.le_of_ble_eq_true rfl) rfl rfl (fun M4 R5 f6 => ?_)
          change M4.2 _ = some (m_ob 5 [_, _, _]) at R5
          refine m_iload hC 0 dX8_readCommand_49 rfl ?_
          exact m_iret hC dX8_readCommand_51 hr (by decide) (by decide) ((by have hR9 : (p_rc tx q 13 0 fur) = (r1.1, r1.2.1, i.toNat, r1.2.2) := (by rw [hS1, if_pos (by omega)]); rw [hR9]; exact ⟨rfl, (f6.2 _ (by omega)).trans hY2, ⟨i.toNat, r1.2.2, by omega, ⟨hA3, f3, ⟨R5, (f6.2 _ (by omega)).trans hA4.2⟩, hA5⟩, fun _ => rfl⟩, (hf1.tr hf2).tr (m_f2.of2 (f6.mono (by omega) (by omega)))⟩))
  refine m_lvs [0, 1, 2, 5, 4, 3] rfl (L 14 0 fur k0 A0 M (by omega) (by omega) (by omega) rfl hfu hk0 hA hY hT m_f2.rf)

/-- the script at y: its text, the commands read -/
def scQ (z0 : Nat) (fo : Nat → Nat) (y v n : Nat) (tx : List Int) (cnt fur : Int) (CM : Nat → Nat × List Int) (M : m_M) : Prop := M.2 y = some (m_ob 10 [.ref (y + 1), .ref (y + 3), VI cnt, VI fur]) ∧ sbT z0 (y + 1) v n tx M ∧ M.2 (y + 3) = some (m_va 6 12 (fun i => .ref (y + 4 + 2 * i))) ∧ (∀ i : Nat, i < 12 → cmA fo (y + 4 + 2 * i) (CM i).1 (CM i).2 M ∧ (CM i).1 < 13) ∧ (v = y + 2 ∨ y + 28 ≤ v)
theorem scQ.step {z0 : Nat} {fo : Nat → Nat} {y v n i : Nat} {tx : List Int} {cnt fur c2 f2 : Int} {CM : Nat → Nat × List Int} {M M2 : m_M} {k2 : Nat} {A2 : List Int} (h : scQ z0 fo y v n tx cnt fur CM M) (hi : i < 12) (hY : M2.2 y = some (m_ob 10 [.ref (y + 1), .ref (y + 3), VI c2, VI f2])) (hk : k2 < 13) (hA : cmA fo (y + 4 + 2 * i) k2 A2 M2) (hf : m_f2 y (y + 4 + 2 * i) M M2) : scQ z0 fo y v n tx c2 f2 (fun j => if j = i then (k2, A2) else CM j) M2 := by
  obtain ⟨h1, h2, h3, h4, h5⟩ := h
  refine ⟨hY, h2.keep2 hf (by omega) (by omega), (hf.2 _ (by omega) (by omega)).trans h3, fun j hj => ?_, h5⟩
  by_cases hq : j = i
  · subst hq
    simp only [if_true]
    exact ⟨hA, hk⟩
  · simp only [hq, if_false]
    exact ⟨(h4 j hj).1.keep (fun q a1 a2 => hf.2 q (by omega) (by omega)), (h4 j hj).2⟩
theorem scQ.y {z0 : Nat} {fo : Nat → Nat} {y v n : Nat} {tx : List Int} {cnt fur c2 f2 : Int} {CM : Nat → Nat × List Int} {M M2 : m_M} (h : scQ z0 fo y v n tx cnt fur CM M) (hY : M2.2 y = some (m_ob 10 [.ref (y + 1), .ref (y + 3), VI c2, VI f2])) (hf : m_fr y 1 M M2) : scQ z0 fo y v n tx c2 f2 CM M2 := by
  obtain ⟨h1, h2, h3, h4, h5⟩ := h
  exact ⟨hY, h2.keep hf (by omega) (by omega), (hf.2 _ (by omega)).trans h3, fun j hj => ⟨(h4 j hj).1.keep (fun q a1 a2 => hf.2 q (by omega)), (h4 j hj).2⟩, h5⟩
theorem m_f2.fr {y a : Nat} {M M2 : m_M} (h : m_f2 y a M M2) (ha : y ≤ a ∧ a + 2 ≤ y + 28) : m_fr y 28 M M2 := ⟨h.1, fun q hq => h.2 q (by omega) (by omega)⟩

theorem p_done {dn : List (Nat × List Int)} {CM1 : Nat → Nat × List Int} {i : Int} {k2 : Nat} {A2 : List Int} {r : Nat × List Int} (hd1 : (dn.length : Int) = i ∧ ∀ j : Nat, j < dn.length → CM1 j = dn.getD j (0, [])) (hi0 : 0 ≤ i) (hr : (k2, A2) = r) (hi : i < 12) : i + 1 = ((dn ++ [r]).length : Int) ∧ (dn ++ [r]).length ≤ 12 ∧ ∀ j : Nat, j < (dn ++ [r]).length → (if j = i.toNat then (k2, A2) else CM1 j) = (dn ++ [r]).getD j (0, []) := by
  have e : (dn ++ [r]).length = dn.length + 1 := by rw [List.length_append]; rfl
  refine ⟨by rw [e]; omega, by omega, fun j hj => ?_⟩
  by_cases hq : j = i.toNat
  · rw [if_pos hq, hr, List.getD_eq_getElem?_getD, List.getElem?_append_right (by omega), show j - dn.length = 0 by omega]
    rfl
  · rw [if_neg hq, hd1.2 j (by omega), List.getD_eq_getElem?_getD, List.getD_eq_getElem?_getD, List.getElem?_append_left (by omega)]

set_option maxHeartbeats 4000000 in
set_option maxRecDepth 100000 in
theorem t_X8_readCommands {D : va_G} {aC : Nat → ClassId} {s0 : State} {l : Launch} (hF : m_F D aC s0) (hl : l.stackTraces = false) {fo ks vs : Nat → Nat} {fA sA dO dT : Nat} (hJ : m_J s0 fo ks vs fA sA dO dT) {y v n : Nat} {tx : List Int} {cnt fur : Int} {CM : Nat → Nat × List Int} {M : m_M} (hQ : scQ s0.heap.size fo y v n tx cnt fur CM M) (hy : s0.heap.size ≤ y) (hL : tx.length ≤ 240) : m_Met D aC s0 l yX8_readCommands cX8_readCommands 4 (some .boolean) 8 (0) (0) [.ref y] M (fun r M' => r = some (VI (if (p_rcs tx 12 0 0).1 = true then 1 else 0)) ∧ (∃ (c2 : Int) (CM2 : Nat → Nat × List Int), scQ s0.heap.size fo y v n tx c2 (p_rcs tx 12 0 0).2.1 CM2 M' ∧ ((p_rcs tx 12 0 0).1 = true → c2 = ((p_rcs tx 12 0 0).2.2.length : Int) ∧ (p_rcs tx 12 0 0).2.2.length ≤ 12 ∧ ∀ j : Nat, j < (p_rcs tx 12 0 0).2.2.length → CM2 j = (p_rcs tx 12 0 0).2.2.getD j (0, []))) ∧ 0 ≤ (p_rcs tx 12 0 0).2.1 ∧ (p_rcs tx 12 0 0).2.1 ≤ 1000 ∧ m_fr y 28 M M') m_nx := by
  refine m_entry (lv := [(0, .ref y)]) (by decide +kernel) (Nat.le_of_ble_eq_true rfl) rfl hF hl ?_
  intro p e s m args below meth c hC hr hno hnm
  change m_C D aC s0 RX8 _ _ _ _ _ _ _ _ _ at hC
  have hvv := hQ.2.2.2.2
  refine m_aload_n hC 0 dX8_readCommands_0 rfl rfl ?_
  refine m_iconst hC dX8_readCommands_1 ?_
  refine m_gpf hC dX8_readCommands_2 kf_X8_24 kw_10_2 hQ.1 hy (Nat.le_of_ble_eq_true rfl) rfl rfl (fun M1 R2 f3 => ?_)
  change M1.2 _ = some (m_ob 10 [_, _, _, _]) at R2
  refine m_aload_n hC 0 dX8_readCommands_5 rfl rfl ?_
  refine m_iconst hC dX8_readCommands_6 ?_
  refine m_gpf hC dX8_readCommands_7 kf_X8_28 kw_10_3 R2 hy (Nat.le_of_ble_eq_true rfl) rfl rfl (fun M4 R5 f6 => ?_)
  change M4.2 _ = some (m_ob 10 [_, _, _, _]) at R5
  have hQ1 := ((hQ.y (c2 := 0) (f2 := fur) R2 f3).y (c2 := 0) (f2 := 0) R5 f6)
  have hf0 : m_fr y 28 M M4 := (f3.mono (by omega) (by omega)).tr (f6.mono (by omega) (by omega))
  refine m_iconst hC dX8_readCommands_10 ?_
  refine m_istore_n hC dX8_readCommands_11 rfl (by decide) rfl ?_
  refine m_iconst hC dX8_readCommands_12 ?_
  refine m_istore_n hC dX8_readCommands_13 rfl (by decide) rfl ?_
  have L : ∀ (n9 : Nat) (i q1 fu : Int) (CM1 : Nat → Nat × List Int) (M1 : m_M) (dn : List (Nat × List Int)), 12 - i < (n9 : Int) → 0 ≤ i → i ≤ 12 → 0 ≤ q1 ∧ q1 ≤ (tx.length : Int) → 0 ≤ fu ∧ fu ≤ 1000 → (p_rcs tx 12 0 0).1 = (p_rcs tx (12 - i).toNat q1 fu).1 ∧ (p_rcs tx 12 0 0).2.1 = (p_rcs tx (12 - i).toNat q1 fu).2.1 ∧ (p_rcs tx 12 0 0).2.2 = dn ++ (p_rcs tx (12 - i).toNat q1 fu).2.2 → ((dn.length : Int) = i ∧ ∀ j : Nat, j < dn.length → CM1 j = dn.getD j (0, [])) → scQ s0.heap.size fo y v n tx i fu CM1 M1 → m_fr y 28 M M1 → m_W D aC s0 4 p l e (m_R 8 (0) (0)) s m args below meth c (0) (0) (m_Q D aC s0 below (fun r M' => r = some (VI (if (p_rcs tx 12 0 0).1 = true then 1 else 0)) ∧ (∃ (c2 : Int) (CM2 : Nat → Nat × List Int), scQ s0.heap.size fo y v n tx c2 (p_rcs tx 12 0 0).2.1 CM2 M' ∧ ((p_rcs tx 12 0 0).1 = true → c2 = ((p_rcs tx 12 0 0).2.2.length : Int) ∧ (p_rcs tx 12 0 0).2.2.length ≤ 12 ∧ ∀ j : Nat, j < (p_rcs tx 12 0 0).2.2.length → CM2 j = (p_rcs tx 12 0 0).2.2.getD j (0, []))) ∧ 0 ≤ (p_rcs tx 12 0 0).2.1 ∧ (p_rcs tx 12 0 0).2.1 ≤ 1000 ∧ m_fr y 28 M M') m_nx args s (0) (0)) 14 [(2, VI i), (1, VI q1), (0, .ref y)] [] M1 := by
    intro n9
    induction n9 with
    | zero =>
      intro i q1 fu CM1 M1 dn hn hi0 h1 hq1 hfu1 hS hd1 hQ1 hf1
      omega
    | succ n9 ih =>
      intro i q1 fu CM1 M1 dn hn hi0 h1 hq1 hfu1 hS hd1 hQ1 hf1
      refine m_iload_n hC 0 dX8_readCommands_14 rfl rfl ?_
      refine m_bipush hC dX8_readCommands_15 (by decide) ?_
      refine m_icmp_ge (tgt := 72) hC dX8_readCommands_17 (by decide) (by first | omega | (simp [hs_at] <;> omega)) (fun c7 => ?_) (fun c7 => ?_)
      · refine m_iconst hC dX8_readCommands_72 ?_
        exact m_zret hC dX8_readCommands_73 hr (by rfl) (by decide) (by decide) ((by obtain ⟨z1, z2, z3⟩ := hS; rw [show (12 - i).toNat = 0 by omega] at z1 z2; have z1 : (p_rcs tx 12 0 0).1 = false := z1; have z2 : (p_rcs tx 12 0 0).2.1 = fu := z2; rw [z1, z2]; exact ⟨rfl, ⟨i, CM1, hQ1, (fun h => by cases h)⟩, hfu1.1, hfu1.2, hf1⟩))
      · refine m_aload_n hC 2 dX8_readCommands_20 rfl rfl ?_
        refine m_iload_n hC 1 dX8_readCommands_21 rfl rfl ?_
        refine m_aload_n hC 2 dX8_readCommands_22 rfl rfl ?_
        refine m_getf hC dX8_readCommands_23 kf_X8_20 hQ1.1 rfl ?_
        refine m_iload_n hC 0 dX8_readCommands_26 rfl rfl ?_
        refine m_aald hC dX8_readCommands_27 hQ1.2.2.1 (by decide) rfl (by decide) (by first | omega | (simp [hs_at] <;> omega)) ?_
        refine m_callV hC (t_X8_readCommand hF hl hJ hQ1.1 hQ1.2.1 hy hQ1.2.2.2.2 (a9 := y + 4 + 2 * i.toNat) (by omega) hL hfu1 (hQ1.2.2.2.1 i.toNat (by omega)).1 (hQ1.2.2.2.1 i.toNat (by omega)).2 hq1) dX8_readCommands_28 kc_X8_readCommand kV_X8_32 hQ1.1 rfl rfl rfl rfl (Nat.le_of_ble_eq_true rfl) (by decide) (by decide) m_nox (fun v9 M8 h9 => ?_)
        obtain ⟨rfl, hY2, ⟨k2, A2, hk2, hA2, hkA⟩, hf2⟩ := h9
        have hQ2 := hQ1.step (show i.toNat < 12 by omega) hY2 hk2 hA2 hf2
        have rg := p_rc_rg tx q1 hq1 hL 13 0 fu hfu1
        have hfr2 := hf1.tr (hf2.fr (by omega))
        have hS1 := hS
        rw [show (12 - i).toNat = (12 - (i + 1)).toNat + 1 by omega, p_rcs_s tx (12 - (i + 1)).toNat q1 fu] at hS1
        generalize hrE : p_rc tx q1 13 0 fu = r1 at *
        refine m_istore_n hC dX8_readCommands_31 rfl (by decide) rfl ?_
        refine m_iload_n hC 0 dX8_readCommands_32 rfl rfl ?_
        refine m_iconst hC dX8_readCommands_33 ?_
        refine m_icmp_ne (tgt := 39) hC dX8_readCommands_34 (by decide) (by first | omega | (simp [hs_at] <;> omega)) (fun c9 => ?_) (fun c9 => ?_)
        · refine m_aload_n hC 3 dX8_readCommands_39 rfl rfl ?_
          refine m_dup hC dX8_readCommands_40 rfl ?_
          refine m_getf hC dX8_readCommands_41 kf_X8_24 hQ2.1 rfl ?_
          refine m_iconst hC dX8_readCommands_44 ?_
          refine m_iadd hC dX8_readCommands_45 ?_
          refine m_gpf hC dX8_readCommands_46 kf_X8_24 kw_10_2 hQ2.1 hy (Nat.le_of_ble_eq_true rfl) rfl rfl (fun M10 R11 f12 => ?_)
          change M10.2 _ = some (m_ob 10 [_, _, _, _]) at R11
          have hQ3 := hQ2.y (c2 := i + 1) (f2 := r1.2.1) R11 f12
          have hfr3 := hfr2.tr (f12.mono (by omega) (by omega))
          refine m_iload_n hC 0 dX8_readCommands_49 rfl rfl ?_
          refine m_aload_n hC 3 dX8_readCommands_50 rfl rfl ?_
          refine m_getf hC dX8_readCommands_51 kf_X8_12 hQ3.1 rfl ?_
          refine m_callVr hC (t_J4_length_8abf5 hF hl hQ3.2.1) dX8_readCommands_54 kc_J4_length_8abf5 kV_X8_36 rfl (m_sbr hC hQ3.2.1) rfl rfl (Nat.le_of_ble_eq_true rfl) (by decide) (by decide) m_nox (fun v9 M13 h9 => ?_)
          obtain ⟨rfl, h9⟩ := h9
          replace h9 := h9.symm
          subst h9
          refine m_icmp_ne (tgt := 62) hC dX8_readCommands_57 (by decide) (by first | omega | (simp [hs_at] <;> omega)) (fun c14 => ?_) (fun c14 => ?_)
          · refine m_iload_n hC 0 dX8_readCommands_62 rfl rfl ?_
            refine m_iconst hC dX8_readCommands_63 ?_
            refine m_iadd hC dX8_readCommands_64 ?_
            refine m_istore_n hC dX8_readCommands_65 rfl (by decide) rfl ?_
            refine m_iinc hC 2 dX8_readCommands_66 rfl (by decide) rfl ?_
            refine m_goto (tgt := 14) hC dX8_readCommands_69 (by decide) ?_
            refine m_lvs [0, 1, 3] rfl (ih (i + 1) (r1.1 + 1) r1.2.1 (fun j => if j = i.toNat then (k2, A2) else CM1 j) M10 (dn ++ [r1.2.2]) (by omega) (by omega) (by omega) (by omega) rg.2 (by obtain ⟨z1, z2, z3⟩ := hS1; rw [if_neg (by omega), if_neg (by omega)] at z1 z2 z3; exact ⟨z1, z2, by rw [z3, List.append_assoc]; rfl⟩) (by have z := p_done hd1 hi0 (hkA (by omega)) (by omega); exact ⟨by rw [List.length_append]; show ((dn.length : Int) + 1) = i + 1; omega, z.2.2⟩) hQ3 hfr3)
          · refine m_iconst hC dX8_readCommands_60 ?_
            exact m_zret hC dX8_readCommands_61 hr (by rfl) (by decide) (by decide) ((by obtain ⟨z1, z2, z3⟩ := hS1; rw [if_neg (by omega), if_pos (by omega)] at z1 z2 z3; have z1 : (p_rcs tx 12 0 0).1 = true := z1; have z2 : (p_rcs tx 12 0 0).2.1 = r1.2.1 := z2; have z3 : (p_rcs tx 12 0 0).2.2 = dn ++ [r1.2.2] := z3; rw [z1, z2, z3]; exact ⟨rfl, ⟨i + 1, (fun j => if j = i.toNat then (k2, A2) else CM1 j), hQ3, (fun _ => p_done hd1 hi0 (hkA (by omega)) (by omega))⟩, rg.2.1, rg.2.2, hfr3⟩))
        · refine m_iconst hC dX8_readCommands_37 ?_
          exact m_zret hC dX8_readCommands_38 hr (by rfl) (by decide) (by decide) ((by obtain ⟨z1, z2, z3⟩ := hS1; rw [if_pos (by omega)] at z1 z2; have z1 : (p_rcs tx 12 0 0).1 = false := z1; have z2 : (p_rcs tx 12 0 0).2.1 = r1.2.1 := z2; rw [z1, z2]; exact ⟨rfl, ⟨i, _, hQ2, (fun h => by cases h)⟩, rg.2.1, rg.2.2, hfr2⟩))
  refine m_lvs [0, 1, 2] rfl (L 13 0 0 0 CM M4 [] (by omega) (by omega) (by omega) (by omega) (by omega) ⟨rfl, rfl, rfl⟩ ⟨rfl, fun j hj => absurd hj (Nat.not_lt_zero _)⟩ hQ1 hf0)

