theorem mmV.L {a : Nat} {w g : h_T} {M : m_M} (h : mmV a w g M) : lP a w g [] M := ⟨w 8, by rw [X_wcid]; exact h, fun i hi => absurd hi (Nat.not_lt_zero _)⟩
def rP (a : Nat) (w g : h_T) (t : List Int) (M : m_M) : Prop := ∃ F : Int → Int, mmV a (hs (wc w 8 F) 0 13 (t.length : Int)) g M ∧ ∀ i : Nat, i < t.length → F (i : Int) = t.getD i 0
theorem rP.W {a : Nat} {w g : h_T} {t : List Int} {M : m_M} (h : rP a w g t M) {th : Int} {sg : h_T} {L : Nat → h_T} {q : Int → Int} {tx ot : List Int} (hW : mdW w th sg L q tx ot) : mdP a th g sg L q tx t M := by
  obtain ⟨F, hV, hF⟩ := h
  refine ⟨_, hV, ?_⟩
  obtain ⟨h14, hq, hq0, hq1, hs4, hL, ht, ho⟩ := hW
  exact ⟨h14, hq, hq0, hq1, hs4, hL, ht, hs_s, hF⟩
set_option maxHeartbeats 4000000 in
set_option maxRecDepth 100000 in
theorem t_X10_writesContract {D : va_G} {aC : Nat → ClassId} {s0 : State} {l : Launch} (hF : m_F D aC s0) (hl : l.stackTraces = false) {a : Nat} {w g : h_T} {t : List Int} {M : m_M} (hL : lP a w g t M) (ha : s0.heap.size ≤ a) {x : Int} {y : Int} (hx : x = (t.length : Int)) (hx2 : x + 35 ≤ 240) (hB : h_B g) (hy : 0 ≤ y ∧ y < g 0 11) : m_Met D aC s0 l yX10_writesContract cX10_writesContract 4 (some .int) 2 (0) (0) [.ref a, VI x, VI y] M (fun v M' => v = some (VI (((R_c1 g y t).length : Nat) : Int)) ∧ lP a w g (R_c1 g y t) M' ∧ m_fr a 10 M M') m_nx := by
  refine m_entry (lv := [(0, .ref a), (1, VI x), (2, VI y)]) (by decide +kernel) (Nat.le_of_ble_eq_true rfl) rfl hF hl ?_
  intro p e s m args below meth c hC hr hno hnm
  change m_C D aC s0 RX10 _ _ _ _ _ _ _ _ _ at hC
  subst hx
  have hco := hB.co hy
  have hn9 := hB.n9
  have l9 := S_dig10 (z := g 9 y) (by omega)
  have l10 := S_dig1 (z := g 10 y) (by omega)
  have l11 := S_dig1 (z := g 11 y) (by omega)
  have l12 := S_dig2 (z := g 12 y) (by omega)
  have l13 := S_dig2 (z := g 13 y) (by omega)
  refine m_aload_n hC 0 dX10_writesContract_0 rfl rfl ?_
  refine m_aload_n hC 0 dX10_writesContract_1 rfl rfl ?_
  refine m_iload_n hC 1 dX10_writesContract_2 rfl rfl ?_
  refine m_aload_n hC 0 dX10_writesContract_3 rfl rfl ?_
  refine m_iload_n hC 2 dX10_writesContract_4 rfl rfl ?_
  refine m_iconst hC dX10_writesContract_5 ?_
  have k4 := hL
  obtain ⟨F1, v2, u3⟩ := k4
  refine m_callV hC (t_X10_ofContract hF hl v2 ha hB (x := y) (y := 0) 9 rfl (by decide) hy) dX10_writesContract_6 kc_X10_ofContract kV_X10_84 hL.ob rfl rfl rfl rfl (Nat.le_of_ble_eq_true rfl) (by decide) (by decide) m_nox (fun v9 M5 h9 => ?_)
  obtain ⟨rfl, h9⟩ := h9
  replace h9 := h9.symm
  subst h9
  refine m_callV hC (t_X10_writesNumber hF hl hL ha (x := (((t).length : Nat) : Int)) (y := g 9 y) rfl (by (try simp only [List.length_append, List.length_singleton, List.length_cons, List.length_nil]); omega) (by omega)) dX10_writesContract_9 kc_X10_writesNumber kV_X10_198 hL.ob rfl rfl rfl rfl (Nat.le_of_ble_eq_true rfl) (by decide) (by decide) m_nox (fun v9 M6 h9 => ?_)
  obtain ⟨rfl, R7, f8⟩ := h9
  refine m_bipush hC dX10_writesContract_12 (by decide) ?_
  refine m_callV hC (t_X10_put hF hl R7 ha (x := ((((t ++ S_dig (g 9 y).toNat)).length : Nat) : Int)) (y := 58) rfl (by (try simp only [List.length_append, List.length_singleton, List.length_cons, List.length_nil]); omega)) dX10_writesContract_14 kc_X10_put kV_X10_195 R7.ob rfl rfl rfl rfl (Nat.le_of_ble_eq_true rfl) (by decide) (by decide) m_nox (fun v9 M9 h9 => ?_)
  obtain ⟨rfl, R10, f11⟩ := h9
  refine m_istore_n hC dX10_writesContract_17 rfl (by decide) rfl ?_
  refine m_aload_n hC 1 dX10_writesContract_18 rfl rfl ?_
  refine m_aload_n hC 1 dX10_writesContract_19 rfl rfl ?_
  refine m_iload_n hC 0 dX10_writesContract_20 rfl rfl ?_
  refine m_aload_n hC 1 dX10_writesContract_21 rfl rfl ?_
  refine m_iload_n hC 3 dX10_writesContract_22 rfl rfl ?_
  refine m_iconst hC dX10_writesContract_23 ?_
  have k15 := R10
  obtain ⟨F12, v13, u14⟩ := k15
  refine m_callV hC (t_X10_ofContract hF hl v13 ha hB (x := y) (y := 1) 10 rfl (by decide) hy) dX10_writesContract_24 kc_X10_ofContract kV_X10_84 R10.ob rfl rfl rfl rfl (Nat.le_of_ble_eq_true rfl) (by decide) (by decide) m_nox (fun v9 M16 h9 => ?_)
  obtain ⟨rfl, h9⟩ := h9
  replace h9 := h9.symm
  subst h9
  refine m_callV hC (t_X10_writesNumber hF hl R10 ha (x := (((((t ++ S_dig (g 9 y).toNat) ++ [58])).length : Nat) : Int)) (y := g 10 y) rfl (by (try simp only [List.length_append, List.length_singleton, List.length_cons, List.length_nil]); omega) (by omega)) dX10_writesContract_27 kc_X10_writesNumber kV_X10_198 R10.ob rfl rfl rfl rfl (Nat.le_of_ble_eq_true rfl) (by decide) (by decide) m_nox (fun v9 M17 h9 => ?_)
  obtain ⟨rfl, R18, f19⟩ := h9
  refine m_bipush hC dX10_writesContract_30 (by decide) ?_
  refine m_callV hC (t_X10_put hF hl R18 ha (x := ((((((t ++ S_dig (g 9 y).toNat) ++ [58]) ++ S_dig (g 10 y).toNat)).length : Nat) : Int)) (y := 62) rfl (by (try simp only [List.length_append, List.length_singleton, List.length_cons, List.length_nil]); omega)) dX10_writesContract_32 kc_X10_put kV_X10_195 R18.ob rfl rfl rfl rfl (Nat.le_of_ble_eq_true rfl) (by decide) (by decide) m_nox (fun v9 M20 h9 => ?_)
  obtain ⟨rfl, R21, f22⟩ := h9
  refine m_istore_n hC dX10_writesContract_35 rfl (by decide) rfl ?_
  refine m_aload_n hC 1 dX10_writesContract_36 rfl rfl ?_
  refine m_aload_n hC 1 dX10_writesContract_37 rfl rfl ?_
  refine m_iload_n hC 0 dX10_writesContract_38 rfl rfl ?_
  refine m_aload_n hC 1 dX10_writesContract_39 rfl rfl ?_
  refine m_iload_n hC 3 dX10_writesContract_40 rfl rfl ?_
  refine m_iconst hC dX10_writesContract_41 ?_
  have k26 := R21
  obtain ⟨F23, v24, u25⟩ := k26
  refine m_callV hC (t_X10_ofContract hF hl v24 ha hB (x := y) (y := 2) 11 rfl (by decide) hy) dX10_writesContract_42 kc_X10_ofContract kV_X10_84 R21.ob rfl rfl rfl rfl (Nat.le_of_ble_eq_true rfl) (by decide) (by decide) m_nox (fun v9 M27 h9 => ?_)
  obtain ⟨rfl, h9⟩ := h9
  replace h9 := h9.symm
  subst h9
  refine m_callV hC (t_X10_writesNumber hF hl R21 ha (x := (((((((t ++ S_dig (g 9 y).toNat) ++ [58]) ++ S_dig (g 10 y).toNat) ++ [62])).length : Nat) : Int)) (y := g 11 y) rfl (by (try simp only [List.length_append, List.length_singleton, List.length_cons, List.length_nil]); omega) (by omega)) dX10_writesContract_45 kc_X10_writesNumber kV_X10_198 R21.ob rfl rfl rfl rfl (Nat.le_of_ble_eq_true rfl) (by decide) (by decide) m_nox (fun v9 M28 h9 => ?_)
  obtain ⟨rfl, R29, f30⟩ := h9
  refine m_bipush hC dX10_writesContract_48 (by decide) ?_
  refine m_callV hC (t_X10_put hF hl R29 ha (x := ((((((((t ++ S_dig (g 9 y).toNat) ++ [58]) ++ S_dig (g 10 y).toNat) ++ [62]) ++ S_dig (g 11 y).toNat)).length : Nat) : Int)) (y := 64) rfl (by (try simp only [List.length_append, List.length_singleton, List.length_cons, List.length_nil]); omega)) dX10_writesContract_50 kc_X10_put kV_X10_195 R29.ob rfl rfl rfl rfl (Nat.le_of_ble_eq_true rfl) (by decide) (by decide) m_nox (fun v9 M31 h9 => ?_)
  obtain ⟨rfl, R32, f33⟩ := h9
  refine m_istore_n hC dX10_writesContract_53 rfl (by decide) rfl ?_
  refine m_aload_n hC 1 dX10_writesContract_54 rfl rfl ?_
  refine m_aload_n hC 1 dX10_writesContract_55 rfl rfl ?_
  refine m_iload_n hC 0 dX10_writesContract_56 rfl rfl ?_
  refine m_aload_n hC 1 dX10_writesContract_57 rfl rfl ?_
  refine m_iload_n hC 3 dX10_writesContract_58 rfl rfl ?_
  refine m_iconst hC dX10_writesContract_59 ?_
  have k37 := R32
  obtain ⟨F34, v35, u36⟩ := k37
  refine m_callV hC (t_X10_ofContract hF hl v35 ha hB (x := y) (y := 3) 12 rfl (by decide) hy) dX10_writesContract_60 kc_X10_ofContract kV_X10_84 R32.ob rfl rfl rfl rfl (Nat.le_of_ble_eq_true rfl) (by decide) (by decide) m_nox (fun v9 M38 h9 => ?_)
  obtain ⟨rfl, h9⟩ := h9
  replace h9 := h9.symm
  subst h9
  refine m_callV hC (t_X10_writesNumber hF hl R32 ha (x := (((((((((t ++ S_dig (g 9 y).toNat) ++ [58]) ++ S_dig (g 10 y).toNat) ++ [62]) ++ S_dig (g 11 y).toNat) ++ [64])).length : Nat) : Int)) (y := g 12 y) rfl (by (try simp only [List.length_append, List.length_singleton, List.length_cons, List.length_nil]); omega) (by omega)) dX10_writesContract_63 kc_X10_writesNumber kV_X10_198 R32.ob rfl rfl rfl rfl (Nat.le_of_ble_eq_true rfl) (by decide) (by decide) m_nox (fun v9 M39 h9 => ?_)
  obtain ⟨rfl, R40, f41⟩ := h9
  refine m_bipush hC dX10_writesContract_66 (by decide) ?_
  refine m_callV hC (t_X10_put hF hl R40 ha (x := ((((((((((t ++ S_dig (g 9 y).toNat) ++ [58]) ++ S_dig (g 10 y).toNat) ++ [62]) ++ S_dig (g 11 y).toNat) ++ [64]) ++ S_dig (g 12 y).toNat)).length : Nat) : Int)) (y := 47) rfl (by (try simp only [List.length_append, List.length_singleton, List.length_cons, List.length_nil]); omega)) dX10_writesContract_68 kc_X10_put kV_X10_195 R40.ob rfl rfl rfl rfl (Nat.le_of_ble_eq_true rfl) (by decide) (by decide) m_nox (fun v9 M42 h9 => ?_)
  obtain ⟨rfl, R43, f44⟩ := h9
  refine m_istore_n hC dX10_writesContract_71 rfl (by decide) rfl ?_
  refine m_aload_n hC 1 dX10_writesContract_72 rfl rfl ?_
  refine m_iload_n hC 0 dX10_writesContract_73 rfl rfl ?_
  refine m_aload_n hC 1 dX10_writesContract_74 rfl rfl ?_
  refine m_iload_n hC 3 dX10_writesContract_75 rfl rfl ?_
  refine m_iconst hC dX10_writesContract_76 ?_
  have k48 := R43
  obtain ⟨F45, v46, u47⟩ := k48
  refine m_callV hC (t_X10_ofContract hF hl v46 ha hB (x := y) (y := 4) 13 rfl (by decide) hy) dX10_writesContract_77 kc_X10_ofContract kV_X10_84 R43.ob rfl rfl rfl rfl (Nat.le_of_ble_eq_true rfl) (by decide) (by decide) m_nox (fun v9 M49 h9 => ?_)
  obtain ⟨rfl, h9⟩ := h9
  replace h9 := h9.symm
  subst h9
  refine m_callV hC (t_X10_writesNumber hF hl R43 ha (x := (((((((((((t ++ S_dig (g 9 y).toNat) ++ [58]) ++ S_dig (g 10 y).toNat) ++ [62]) ++ S_dig (g 11 y).toNat) ++ [64]) ++ S_dig (g 12 y).toNat) ++ [47])).length : Nat) : Int)) (y := g 13 y) rfl (by (try simp only [List.length_append, List.length_singleton, List.length_cons, List.length_nil]); omega) (by omega)) dX10_writesContract_80 kc_X10_writesNumber kV_X10_198 R43.ob rfl rfl rfl rfl (Nat.le_of_ble_eq_true rfl) (by decide) (by decide) m_nox (fun v9 M50 h9 => ?_)
  obtain ⟨rfl, R51, f52⟩ := h9
  exact m_iret hC dX10_writesContract_83 hr (by decide) (by decide) (⟨rfl, R51, (f8.tr (f11.tr (f19.tr (f22.tr (f30.tr (f33.tr (f41.tr (f44.tr f52))))))))⟩)

set_option maxHeartbeats 4000000 in
set_option maxRecDepth 100000 in
theorem t_X10_renderContracts {D : va_G} {aC : Nat → ClassId} {s0 : State} {l : Launch} (hF : m_F D aC s0) (hl : l.stackTraces = false) {a : Nat} {w g : h_T} {M : m_M} (hV : mmV a w g M) (ha : s0.heap.size ≤ a) (hB : h_B g)   : m_Met D aC s0 l yX10_renderContracts cX10_renderContracts 3 (some .int) 3 (0) (0) [.ref a] M (fun v M' => v = some (VI (((R_con g (g 0 11).toNat).length : Nat) : Int)) ∧ rP a (hs w 0 14 0) g (R_con g (g 0 11).toNat) M' ∧ m_fr a 10 M M') m_nx := by
  refine m_entry (lv := [(0, .ref a)]) (by decide +kernel) (Nat.le_of_ble_eq_true rfl) rfl hF hl ?_
  intro p e s m args below meth c hC hr hno hnm
  change m_C D aC s0 RX10 _ _ _ _ _ _ _ _ _ at hC
  have hn11 := hB.n11
  refine m_aload_n hC 0 dX10_renderContracts_0 rfl rfl ?_
  refine m_iconst hC dX10_renderContracts_1 ?_
  refine m_ws14 hC hV ha dX10_renderContracts_2 kf_X10_44 (fun M1 R2 f3 => ?_)
  refine m_iconst hC dX10_renderContracts_5 ?_
  refine m_istore_n hC dX10_renderContracts_6 rfl (by decide) rfl ?_
  refine m_iconst hC dX10_renderContracts_7 ?_
  refine m_istore_n hC dX10_renderContracts_8 rfl (by decide) rfl ?_
  have hl0 := R2.L
  have L : ∀ (n : Nat) (i : Int) (M1 : m_M), g 0 11 - i < (n : Int) → 0 ≤ i → i ≤ g 0 11 → lP a (hs w 0 14 0) g (R_con g i.toNat) M1 → m_fr a 10 M M1 → m_W D aC s0 3 p l e (m_R 3 (0) (0)) s m args below meth c (0) (0) (m_Q D aC s0 below (fun v M' => v = some (VI (((R_con g (g 0 11).toNat).length : Nat) : Int)) ∧ rP a (hs w 0 14 0) g (R_con g (g 0 11).toNat) M' ∧ m_fr a 10 M M') m_nx args s (0) (0)) 9 [(2, VI i), (1, VI (((R_con g i.toNat).length : Nat) : Int)), (0, .ref a)] [] M1 := by
    intro n
    induction n with
    | zero =>
      intro i M1 hn h0 h1 hL1 hfr
      omega
    | succ n ih =>
      intro i M1 hn h0 h1 hL1 hfr
      have hlen := R_con_len hB i.toNat (by omega)
      refine m_iload_n hC 0 dX10_renderContracts_9 rfl rfl ?_
      refine m_aload_n hC 2 dX10_renderContracts_10 rfl rfl ?_
      refine m_getf hC dX10_renderContracts_11 kf_X10_9 hL1.ob rfl ?_
      refine m_bipush hC dX10_renderContracts_14 (by decide) ?_
      have k7 := hL1
      obtain ⟨F4, v5, u6⟩ := k7
      refine m_n0 hC v5 dX10_renderContracts_16 (by decide) ?_
      refine m_icmp_ge (tgt := 47) hC dX10_renderContracts_17 (by decide) (by first | omega | (simp [hs_at] <;> omega)) (fun c17 => ?_) (fun c17 => ?_)
      · refine m_aload_n hC 2 dX10_renderContracts_47 rfl rfl ?_
        refine m_iload_n hC 1 dX10_renderContracts_48 rfl rfl ?_
        have k11 := hL1
        obtain ⟨F8, v9, u10⟩ := k11
        refine m_ws13 hC v9 ha dX10_renderContracts_49 kf_X10_201 (fun M12 R13 f14 => ?_)
        refine m_iload_n hC 1 dX10_renderContracts_52 rfl rfl ?_
        exact m_iret hC dX10_renderContracts_53 hr (by decide) (by decide) (⟨by rw [show i.toNat = (g 0 11).toNat by omega], by rw [← show i.toNat = (g 0 11).toNat by omega]; exact ⟨_, R13, u10⟩, hfr.tr f14⟩)
      · refine m_aload_n hC 2 dX10_renderContracts_20 rfl rfl ?_
        refine m_iload_n hC 0 dX10_renderContracts_21 rfl rfl ?_
        refine m_if_ne (tgt := 29) hC dX10_renderContracts_22 (by decide) (by first | omega | (simp [hs_at] <;> omega)) (fun c22 => ?_) (fun c22 => ?_)
        · refine m_aload_n hC 2 dX10_renderContracts_29 rfl rfl ?_
          refine m_iload_n hC 1 dX10_renderContracts_30 rfl rfl ?_
          refine m_bipush hC dX10_renderContracts_31 (by decide) ?_
          refine m_callV hC (t_X10_put hF hl hL1 ha (x := (((R_con g i.toNat).length : Nat) : Int)) (y := 32) rfl (by (try simp only [List.length_append, List.length_singleton, List.length_cons, List.length_nil]); omega)) dX10_renderContracts_33 kc_X10_put kV_X10_195 hL1.ob rfl rfl rfl rfl (Nat.le_of_ble_eq_true rfl) (by decide) (by decide) m_nox (fun v9 M15 h9 => ?_)
          obtain ⟨rfl, R16, f17⟩ := h9
          refine m_iload_n hC 0 dX10_renderContracts_36 rfl rfl ?_
          refine m_callV hC (t_X10_writesContract hF hl R16 ha (x := ((((R_con g i.toNat ++ [32])).length : Nat) : Int)) (y := i) rfl (by (try simp only [List.length_append, List.length_singleton, List.length_cons, List.length_nil]); omega) hB (by omega)) dX10_renderContracts_37 kc_X10_writesContract kV_X10_204 R16.ob rfl rfl rfl rfl (Nat.le_of_ble_eq_true rfl) (by decide) (by decide) m_nox (fun v9 M18 h9 => ?_)
          obtain ⟨rfl, R19, f20⟩ := h9
          rw [show R_c1 g i ((R_con g i.toNat ++ [32])) = R_con g (i + 1).toNat by rw [R_con_s h0, if_pos (by omega)]]
          refine m_istore_n hC dX10_renderContracts_40 rfl (by decide) rfl ?_
          refine m_iinc hC 1 dX10_renderContracts_41 rfl (by decide) rfl ?_
          refine m_goto (tgt := 9) hC dX10_renderContracts_44 (by decide) ?_
          refine m_lvs [0, 1, 2] rfl (ih (i + 1) _ (by omega) (by omega) (by omega) (by rw [R_con_s h0, if_pos (by omega)]; exact R19) (hfr.tr (f17.tr f20)))
        · refine m_iload_n hC 1 dX10_renderContracts_25 rfl rfl ?_
          refine m_goto (tgt := 36) hC dX10_renderContracts_26 (by decide) ?_
          refine m_iload_n hC 0 dX10_renderContracts_36 rfl rfl ?_
          refine m_callV hC (t_X10_writesContract hF hl hL1 ha (x := (((R_con g i.toNat).length : Nat) : Int)) (y := i) rfl (by (try simp only [List.length_append, List.length_singleton, List.length_cons, List.length_nil]); omega) hB (by omega)) dX10_renderContracts_37 kc_X10_writesContract kV_X10_204 hL1.ob rfl rfl rfl rfl (Nat.le_of_ble_eq_true rfl) (by decide) (by decide) m_nox (fun v9 M21 h9 => ?_)
          obtain ⟨rfl, R22, f23⟩ := h9
          rw [show R_c1 g i (R_con g i.toNat) = R_con g (i + 1).toNat by rw [R_con_s h0, if_neg (by omega)]]
          refine m_istore_n hC dX10_renderContracts_40 rfl (by decide) rfl ?_
          refine m_iinc hC 1 dX10_renderContracts_41 rfl (by decide) rfl ?_
          refine m_goto (tgt := 9) hC dX10_renderContracts_44 (by decide) ?_
          refine m_lvs [0, 1, 2] rfl (ih (i + 1) _ (by omega) (by omega) (by omega) (by rw [R_con_s h0, if_neg (by omega)]; exact R22) (hfr.tr f23))
  refine m_lvs [0, 1, 2] rfl (L ((g 0 11).toNat + 1) 0 M1 (by omega) (by omega) (by omega) hl0 f3)

theorem X_ren {a : Nat} {w g : h_T} {t t2 : List Int} {M : m_M} {F : Int → Int} (e : t = t2) (hV : mmV a (hs (wc w 8 F) 0 13 (t2.length : Int)) g M) (hF : ∀ i : Nat, i < t2.length → F (i : Int) = t2.getD i 0) : some (VI (hs (wc w 8 F) 0 13 (t2.length : Int) 0 13)) = some (VI ((t.length : Nat) : Int)) ∧ rP a w g t M := by
  subst e
  exact ⟨by rw [hs_s], F, hV, hF⟩
set_option maxHeartbeats 4000000 in
set_option maxRecDepth 100000 in
theorem t_X10_renderGoblin {D : va_G} {aC : Nat → ClassId} {s0 : State} {l : Launch} (hF : m_F D aC s0) (hl : l.stackTraces = false) {a : Nat} {w g : h_T} {M : m_M} (hV : mmV a w g M) (ha : s0.heap.size ≤ a) (hB : h_B g) {x : Int} (hx : -2147483648 ≤ x ∧ x < 2147483648) : m_Met D aC s0 l yX10_renderGoblin cX10_renderGoblin 3 (some .int) 4 (0) (0) [.ref a, VI x] M (fun v M' => (0 ≤ x ∧ x < g 0 9 → v = some (VI (((R_gob g x).length : Nat) : Int)) ∧ rP a (hs w 0 14 0) g (R_gob g x) M') ∧ (¬ (0 ≤ x ∧ x < g 0 9) → v = some (VI 0) ∧ mmV a (hs w 0 14 1) g M') ∧ m_fr a 10 M M') m_nx := by
  refine m_entry (lv := [(0, .ref a), (1, VI x)]) (by decide +kernel) (Nat.le_of_ble_eq_true rfl) rfl hF hl ?_
  intro p e s m args below meth c hC hr hno hnm
  change m_C D aC s0 RX10 _ _ _ _ _ _ _ _ _ at hC
  have hn9 := hB.n9
  refine m_aload_n hC 0 dX10_renderGoblin_0 rfl rfl ?_
  refine m_aload_n hC 0 dX10_renderGoblin_1 rfl rfl ?_
  refine m_iload_n hC 1 dX10_renderGoblin_2 rfl rfl ?_
  refine m_callV hC (t_X10_isGoblin hF hl hV ha hB (x := x) hx) dX10_renderGoblin_3 kc_X10_isGoblin kV_X10_77 hV.ob rfl rfl rfl rfl (Nat.le_of_ble_eq_true rfl) (by decide) (by decide) m_nox (fun v9 M1 h9 => ?_)
  obtain ⟨rfl, h9⟩ := h9
  replace h9 := h9.symm
  subst h9
  refine m_callV hC (t_X10_goes hF hl hV ha hB (z := b01 (0 ≤ x ∧ x < g 0 9)) (by first | exact b01_r | omega)) dX10_renderGoblin_6 kc_X10_goes kV_X10_61 hV.ob rfl rfl rfl rfl (Nat.le_of_ble_eq_true rfl) (by decide) (by decide) m_nox (fun v9 M2 h9 => ?_)
  obtain ⟨rfl, R3, f4⟩ := h9
  refine m_if_ne (tgt := 14) hC dX10_renderGoblin_9 (by decide) b01_r (fun ch => ?_) (fun ch => ?_)
  · have hv := b01_ne.mp (b01_ne.mp ch)
    rw [if_neg (b01_ne.mp ch)] at R3
    have hgo := hB.go hv
    have l0 := S_dig10 (z := x) (by omega)
    have l4 := S_dig10 (z := g 4 x) (by omega)
    have l5 := S_dig10 (z := g 5 x) (by omega)
    have l6 := S_dig10 (z := g 6 x) (by omega)
    have R5 := R3.L
    refine m_aload_n hC 0 dX10_renderGoblin_14 rfl rfl ?_
    refine m_aload_n hC 0 dX10_renderGoblin_15 rfl rfl ?_
    refine m_aload_n hC 0 dX10_renderGoblin_16 rfl rfl ?_
    have hz0 : (0 : Int) = ((([] : List Int).length : Nat) : Int) := rfl
    refine m_iconst hC dX10_renderGoblin_17 ?_
    refine m_iload_n hC 1 dX10_renderGoblin_18 rfl rfl ?_
    refine m_callV hC (t_X10_writesNumber hF hl R5 ha (x := (((([] : List Int)).length : Nat) : Int)) (y := x) rfl (by (try simp only [List.length_append, List.length_singleton, List.length_cons, List.length_nil]); omega) (by omega)) dX10_renderGoblin_19 kc_X10_writesNumber kV_X10_198 R5.ob rfl rfl rfl rfl (Nat.le_of_ble_eq_true rfl) (by decide) (by decide) m_nox (fun v9 M6 h9 => ?_)
    obtain ⟨rfl, R7, f8⟩ := h9
    refine m_bipush hC dX10_renderGoblin_22 (by decide) ?_
    refine m_callV hC (t_X10_put hF hl R7 ha (x := ((((([] : List Int) ++ S_dig (x).toNat)).length : Nat) : Int)) (y := 115) rfl (by (try simp only [List.length_append, List.length_singleton, List.length_cons, List.length_nil]); omega)) dX10_renderGoblin_24 kc_X10_put kV_X10_195 R7.ob rfl rfl rfl rfl (Nat.le_of_ble_eq_true rfl) (by decide) (by decide) m_nox (fun v9 M9 h9 => ?_)
    obtain ⟨rfl, R10, f11⟩ := h9
    refine m_aload_n hC 0 dX10_renderGoblin_27 rfl rfl ?_
    refine m_iload_n hC 1 dX10_renderGoblin_28 rfl rfl ?_
    refine m_iconst hC dX10_renderGoblin_29 ?_
    have k15 := R10
    obtain ⟨F12, v13, u14⟩ := k15
    refine m_callV hC (t_X10_of hF hl v13 ha hB (x := x) (y := 0) 4 rfl (by decide) hv) dX10_renderGoblin_30 kc_X10_of kV_X10_95 R10.ob rfl rfl rfl rfl (Nat.le_of_ble_eq_true rfl) (by decide) (by decide) m_nox (fun v9 M16 h9 => ?_)
    obtain ⟨rfl, h9⟩ := h9
    replace h9 := h9.symm
    subst h9
    refine m_callV hC (t_X10_writesNumber hF hl R10 ha (x := (((((([] : List Int) ++ S_dig (x).toNat) ++ [115])).length : Nat) : Int)) (y := g 4 x) rfl (by (try simp only [List.length_append, List.length_singleton, List.length_cons, List.length_nil]); omega) (by omega)) dX10_renderGoblin_33 kc_X10_writesNumber kV_X10_198 R10.ob rfl rfl rfl rfl (Nat.le_of_ble_eq_true rfl) (by decide) (by decide) m_nox (fun v9 M17 h9 => ?_)
    obtain ⟨rfl, R18, f19⟩ := h9
    refine m_istore_n hC dX10_renderGoblin_36 rfl (by decide) rfl ?_
    refine m_aload_n hC 1 dX10_renderGoblin_37 rfl rfl ?_
    refine m_aload_n hC 1 dX10_renderGoblin_38 rfl rfl ?_
    refine m_iload_n hC 0 dX10_renderGoblin_39 rfl rfl ?_
    refine m_bipush hC dX10_renderGoblin_40 (by decide) ?_
    refine m_callV hC (t_X10_put hF hl R18 ha (x := ((((((([] : List Int) ++ S_dig (x).toNat) ++ [115]) ++ S_dig (g 4 x).toNat)).length : Nat) : Int)) (y := 112) rfl (by (try simp only [List.length_append, List.length_singleton, List.length_cons, List.length_nil]); omega)) dX10_renderGoblin_42 kc_X10_put kV_X10_195 R18.ob rfl rfl rfl rfl (Nat.le_of_ble_eq_true rfl) (by decide) (by decide) m_nox (fun v9 M20 h9 => ?_)
    obtain ⟨rfl, R21, f22⟩ := h9
    refine m_aload_n hC 1 dX10_renderGoblin_45 rfl rfl ?_
    refine m_iload_n hC 2 dX10_renderGoblin_46 rfl rfl ?_
    refine m_iconst hC dX10_renderGoblin_47 ?_
    have k26 := R21
    obtain ⟨F23, v24, u25⟩ := k26
    refine m_callV hC (t_X10_of hF hl v24 ha hB (x := x) (y := 1) 5 rfl (by decide) hv) dX10_renderGoblin_48 kc_X10_of kV_X10_95 R21.ob rfl rfl rfl rfl (Nat.le_of_ble_eq_true rfl) (by decide) (by decide) m_nox (fun v9 M27 h9 => ?_)
    obtain ⟨rfl, h9⟩ := h9
    replace h9 := h9.symm
    subst h9
    refine m_callV hC (t_X10_writesNumber hF hl R21 ha (x := (((((((([] : List Int) ++ S_dig (x).toNat) ++ [115]) ++ S_dig (g 4 x).toNat) ++ [112])).length : Nat) : Int)) (y := g 5 x) rfl (by (try simp only [List.length_append, List.length_singleton, List.length_cons, List.length_nil]); omega) (by omega)) dX10_renderGoblin_51 kc_X10_writesNumber kV_X10_198 R21.ob rfl rfl rfl rfl (Nat.le_of_ble_eq_true rfl) (by decide) (by decide) m_nox (fun v9 M28 h9 => ?_)
    obtain ⟨rfl, R29, f30⟩ := h9
    refine m_istore_n hC dX10_renderGoblin_54 rfl (by decide) rfl ?_
    refine m_aload_n hC 1 dX10_renderGoblin_55 rfl rfl ?_
    refine m_iload_n hC 2 dX10_renderGoblin_56 rfl rfl ?_
    refine m_iconst hC dX10_renderGoblin_57 ?_
    have k34 := R29
    obtain ⟨F31, v32, u33⟩ := k34
    refine m_callV hC (t_X10_of hF hl v32 ha hB (x := x) (y := 2) 6 rfl (by decide) hv) dX10_renderGoblin_58 kc_X10_of kV_X10_95 R29.ob rfl rfl rfl rfl (Nat.le_of_ble_eq_true rfl) (by decide) (by decide) m_nox (fun v9 M35 h9 => ?_)
    obtain ⟨rfl, h9⟩ := h9
    replace h9 := h9.symm
    subst h9
    refine m_if_ne (tgt := 68) hC dX10_renderGoblin_61 (by decide) (by first | omega | (simp [hs_at] <;> omega)) (fun c61 => ?_) (fun c61 => ?_)
    · refine m_aload_n hC 1 dX10_renderGoblin_68 rfl rfl ?_
      refine m_aload_n hC 1 dX10_renderGoblin_69 rfl rfl ?_
      refine m_iload_n hC 0 dX10_renderGoblin_70 rfl rfl ?_
      refine m_bipush hC dX10_renderGoblin_71 (by decide) ?_
      refine m_callV hC (t_X10_put hF hl R29 ha (x := ((((((((([] : List Int) ++ S_dig (x).toNat) ++ [115]) ++ S_dig (g 4 x).toNat) ++ [112]) ++ S_dig (g 5 x).toNat)).length : Nat) : Int)) (y := 100) rfl (by (try simp only [List.length_append, List.length_singleton, List.length_cons, List.length_nil]); omega)) dX10_renderGoblin_73 kc_X10_put kV_X10_195 R29.ob rfl rfl rfl rfl (Nat.le_of_ble_eq_true rfl) (by decide) (by decide) m_nox (fun v9 M36 h9 => ?_)
      obtain ⟨rfl, R37, f38⟩ := h9
      refine m_aload_n hC 1 dX10_renderGoblin_76 rfl rfl ?_
      refine m_iload_n hC 2 dX10_renderGoblin_77 rfl rfl ?_
      refine m_iconst hC dX10_renderGoblin_78 ?_
      have k42 := R37
      obtain ⟨F39, v40, u41⟩ := k42
      refine m_callV hC (t_X10_of hF hl v40 ha hB (x := x) (y := 2) 6 rfl (by decide) hv) dX10_renderGoblin_79 kc_X10_of kV_X10_95 R37.ob rfl rfl rfl rfl (Nat.le_of_ble_eq_true rfl) (by decide) (by decide) m_nox (fun v9 M43 h9 => ?_)
      obtain ⟨rfl, h9⟩ := h9
      replace h9 := h9.symm
      subst h9
      refine m_callV hC (t_X10_writesNumber hF hl R37 ha (x := (((((((((([] : List Int) ++ S_dig (x).toNat) ++ [115]) ++ S_dig (g 4 x).toNat) ++ [112]) ++ S_dig (g 5 x).toNat) ++ [100])).length : Nat) : Int)) (y := g 6 x) rfl (by (try simp only [List.length_append, List.length_singleton, List.length_cons, List.length_nil]); omega) (by omega)) dX10_renderGoblin_82 kc_X10_writesNumber kV_X10_198 R37.ob rfl rfl rfl rfl (Nat.le_of_ble_eq_true rfl) (by decide) (by decide) m_nox (fun v9 M44 h9 => ?_)
      obtain ⟨rfl, R45, f46⟩ := h9
      refine m_istore_n hC dX10_renderGoblin_85 rfl (by decide) rfl ?_
      refine m_aload_n hC 1 dX10_renderGoblin_86 rfl rfl ?_
      refine m_aload_n hC 1 dX10_renderGoblin_87 rfl rfl ?_
      refine m_iload_n hC 2 dX10_renderGoblin_88 rfl rfl ?_
      refine m_iconst hC dX10_renderGoblin_89 ?_
      have k50 := R45
      obtain ⟨F47, v48, u49⟩ := k50
      refine m_callV hC (t_X10_of hF hl v48 ha hB (x := x) (y := 4) 8 rfl (by decide) hv) dX10_renderGoblin_90 kc_X10_of kV_X10_95 R45.ob rfl rfl rfl rfl (Nat.le_of_ble_eq_true rfl) (by decide) (by decide) m_nox (fun v9 M51 h9 => ?_)
      obtain ⟨rfl, h9⟩ := h9
      replace h9 := h9.symm
      subst h9
      refine m_iconst hC dX10_renderGoblin_93 ?_
      refine m_icmp_ne (tgt := 107) hC dX10_renderGoblin_94 (by decide) (by first | omega | (simp [hs_at] <;> omega)) (fun c94 => ?_) (fun c94 => ?_)
      · refine m_iload_n hC 0 dX10_renderGoblin_107 rfl rfl ?_
        have k55 := R45
        obtain ⟨F52, v53, u54⟩ := k55
        refine m_ws13 hC v53 ha dX10_renderGoblin_108 kf_X10_201 (fun M56 R57 f58 => ?_)
        refine m_aload_n hC 1 dX10_renderGoblin_111 rfl rfl ?_
        refine m_getf hC dX10_renderGoblin_112 kf_X10_201 R57.ob rfl ?_
        exact m_iret hC dX10_renderGoblin_115 hr (by decide) (by decide) (⟨fun _ => X_ren (R_gob_10 (by omega) (by omega)) R57 u54, fun z => absurd hv z, (f4.tr (f8.tr (f11.tr (f19.tr (f22.tr (f30.tr (f38.tr (f46.tr f58))))))))⟩)
      · refine m_aload_n hC 1 dX10_renderGoblin_97 rfl rfl ?_
        refine m_iload_n hC 0 dX10_renderGoblin_98 rfl rfl ?_
        refine m_bipush hC dX10_renderGoblin_99 (by decide) ?_
        refine m_callV hC (t_X10_put hF hl R45 ha (x := ((((((((((([] : List Int) ++ S_dig (x).toNat) ++ [115]) ++ S_dig (g 4 x).toNat) ++ [112]) ++ S_dig (g 5 x).toNat) ++ [100]) ++ S_dig (g 6 x).toNat)).length : Nat) : Int)) (y := 122) rfl (by (try simp only [List.length_append, List.length_singleton, List.length_cons, List.length_nil]); omega)) dX10_renderGoblin_101 kc_X10_put kV_X10_195 R45.ob rfl rfl rfl rfl (Nat.le_of_ble_eq_true rfl) (by decide) (by decide) m_nox (fun v9 M59 h9 => ?_)
        obtain ⟨rfl, R60, f61⟩ := h9
        refine m_goto (tgt := 108) hC dX10_renderGoblin_104 (by decide) ?_
        have k65 := R60
        obtain ⟨F62, v63, u64⟩ := k65
        refine m_ws13 hC v63 ha dX10_renderGoblin_108 kf_X10_201 (fun M66 R67 f68 => ?_)
        refine m_aload_n hC 1 dX10_renderGoblin_111 rfl rfl ?_
        refine m_getf hC dX10_renderGoblin_112 kf_X10_201 R67.ob rfl ?_
        exact m_iret hC dX10_renderGoblin_115 hr (by decide) (by decide) (⟨fun _ => X_ren (R_gob_11 (by omega) (by omega)) R67 u64, fun z => absurd hv z, (f4.tr (f8.tr (f11.tr (f19.tr (f22.tr (f30.tr (f38.tr (f46.tr (f61.tr f68)))))))))⟩)
    · refine m_iload_n hC 0 dX10_renderGoblin_64 rfl rfl ?_
      refine m_goto (tgt := 85) hC dX10_renderGoblin_65 (by decide) ?_
      refine m_istore_n hC dX10_renderGoblin_85 rfl (by decide) rfl ?_
      refine m_aload_n hC 1 dX10_renderGoblin_86 rfl rfl ?_
      refine m_aload_n hC 1 dX10_renderGoblin_87 rfl rfl ?_
      refine m_iload_n hC 2 dX10_renderGoblin_88 rfl rfl ?_
      refine m_iconst hC dX10_renderGoblin_89 ?_
      have k72 := R29
      obtain ⟨F69, v70, u71⟩ := k72
      refine m_callV hC (t_X10_of hF hl v70 ha hB (x := x) (y := 4) 8 rfl (by decide) hv) dX10_renderGoblin_90 kc_X10_of kV_X10_95 R29.ob rfl rfl rfl rfl (Nat.le_of_ble_eq_true rfl) (by decide) (by decide) m_nox (fun v9 M73 h9 => ?_)
      obtain ⟨rfl, h9⟩ := h9
      replace h9 := h9.symm
      subst h9
      refine m_iconst hC dX10_renderGoblin_93 ?_
      refine m_icmp_ne (tgt := 107) hC dX10_renderGoblin_94 (by decide) (by first | omega | (simp [hs_at] <;> omega)) (fun c94 => ?_) (fun c94 => ?_)
      · refine m_iload_n hC 0 dX10_renderGoblin_107 rfl rfl ?_
        have k77 := R29
        obtain ⟨F74, v75, u76⟩ := k77
        refine m_ws13 hC v75 ha dX10_renderGoblin_108 kf_X10_201 (fun M78 R79 f80 => ?_)
        refine m_aload_n hC 1 dX10_renderGoblin_111 rfl rfl ?_
        refine m_getf hC dX10_renderGoblin_112 kf_X10_201 R79.ob rfl ?_
        exact m_iret hC dX10_renderGoblin_115 hr (by decide) (by decide) (⟨fun _ => X_ren (R_gob_00 (by omega) (by omega)) R79 u76, fun z => absurd hv z, (f4.tr (f8.tr (f11.tr (f19.tr (f22.tr (f30.tr f80))))))⟩)
      · refine m_aload_n hC 1 dX10_renderGoblin_97 rfl rfl ?_
        refine m_iload_n hC 0 dX10_renderGoblin_98 rfl rfl ?_
        refine m_bipush hC dX10_renderGoblin_99 (by decide) ?_
        refine m_callV hC (t_X10_put hF hl R29 ha (x := ((((((((([] : List Int) ++ S_dig (x).toNat) ++ [115]) ++ S_dig (g 4 x).toNat) ++ [112]) ++ S_dig (g 5 x).toNat)).length : Nat) : Int)) (y := 122) rfl (by (try simp only [List.length_append, List.length_singleton, List.length_cons, List.length_nil]); omega)) dX10_renderGoblin_101 kc_X10_put kV_X10_195 R29.ob rfl rfl rfl rfl (Nat.le_of_ble_eq_true rfl) (by decide) (by decide) m_nox (fun v9 M81 h9 => ?_)
        obtain ⟨rfl, R82, f83⟩ := h9
        refine m_goto (tgt := 108) hC dX10_renderGoblin_104 (by decide) ?_
        have k87 := R82
        obtain ⟨F84, v85, u86⟩ := k87
        refine m_ws13 hC v85 ha dX10_renderGoblin_108 kf_X10_201 (fun M88 R89 f90 => ?_)
        refine m_aload_n hC 1 dX10_renderGoblin_111 rfl rfl ?_
        refine m_getf hC dX10_renderGoblin_112 kf_X10_201 R89.ob rfl ?_
        exact m_iret hC dX10_renderGoblin_115 hr (by decide) (by decide) (⟨fun _ => X_ren (R_gob_01 (by omega) (by omega)) R89 u86, fun z => absurd hv z, (f4.tr (f8.tr (f11.tr (f19.tr (f22.tr (f30.tr (f83.tr f90)))))))⟩)
  · refine m_iconst hC dX10_renderGoblin_12 ?_
    exact m_iret hC dX10_renderGoblin_13 hr (by decide) (by decide) (⟨fun z => absurd (b01_t z) (by have := b01_eq.mp ch; omega), fun z => ⟨rfl, by rw [if_pos (b01_f z)] at R3; exact R3⟩, f4⟩)

