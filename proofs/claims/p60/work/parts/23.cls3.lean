def h_sr (t t2 : h_T) (i j : Int) : h_T := hs (hs (hs (hs (hs t 9 i (t2 9 j)) 10 i (t2 10 j)) 11 i (t2 11 j)) 12 i (t2 12 j)) 13 i (t2 13 j)
theorem h_sr_sh {t : h_T} {p i : Int} (h : p ≤ i) : h_sr (S_sh t p i) (S_sh t p i) i (i + 1) = S_sh t p (i + 1) := by
  rw [← S_sh_1 h]
  unfold h_sr
  rw [S_sh_ge (c := 9) (show i ≤ i + 1 by omega), S_sh_ge (c := 10) (show i ≤ i + 1 by omega), S_sh_ge (c := 11) (show i ≤ i + 1 by omega), S_sh_ge (c := 12) (show i ≤ i + 1 by omega), S_sh_ge (c := 13) (show i ≤ i + 1 by omega)]
def h_up (b : Nat) (M : m_M) (g : h_T) : Option Value → m_M → Prop := fun v M' => v = none ∧ hhR b g M' ∧ m_fr b 17 M M'
def h_upt (b : Nat) (M : m_M) (t : h_T) : Option Value → m_M → Prop := fun v M' => v = none ∧ hhP b t M' ∧ m_fr b 17 M M'

set_option maxHeartbeats 4000000 in
set_option maxRecDepth 100000 in
theorem t_X3_setRow {D : va_G} {aC : Nat → ClassId} {s0 : State} {l : Launch} (hF : m_F D aC s0) (hl : l.stackTraces = false) {b : Nat} {t : h_T} {M : m_M} (hP : hhP b t M) (hb : s0.heap.size ≤ b) {i j : Int} (hi : 0 ≤ i ∧ i < 8) (hj : 0 ≤ j ∧ j < 8) : m_Met D aC s0 l yX3_setRow cX3_setRow 4 none 0 (0) (0) [.ref (b + 11), VI i, .ref (b + 11), VI j] M (h_upt b M (h_sr t t i j)) m_nx := by
  refine m_entry (lv := [(0, .ref (b + 11)), (1, VI i), (2, .ref (b + 11)), (3, VI j)]) (by decide +kernel) (Nat.le_of_ble_eq_true rfl) rfl hF hl ?_
  intro p e s m args below meth c hC hr hno hnm
  change m_C D aC s0 RX3 _ _ _ _ _ _ _ _ _ at hC
  refine m_aload_n hC 0 dX3_setRow_0 rfl rfl ?_
  refine m_getf hC dX3_setRow_1 kf_X3_9 hP.2.2.2.2.1 rfl ?_
  refine m_iload_n hC 1 dX3_setRow_4 rfl rfl ?_
  refine m_aload_n hC 2 dX3_setRow_5 rfl rfl ?_
  refine m_getf hC dX3_setRow_6 kf_X3_9 hP.2.2.2.2.1 rfl ?_
  refine m_iload_n hC 3 dX3_setRow_9 rfl rfl ?_
  refine m_iald hC dX3_setRow_10 hP.2.2.2.2.2.1 (by decide) (by first | omega | (simp [hs_at] <;> omega)) ?_
  refine m_hst9 hC hP hb dX3_setRow_11 (by first | omega | (simp [hs_at] <;> omega)) (fun M1 R2 f3 => ?_)
  refine m_aload_n hC 0 dX3_setRow_12 rfl rfl ?_
  refine m_getf hC dX3_setRow_13 kf_X3_15 R2.2.2.2.2.1 rfl ?_
  refine m_iload_n hC 1 dX3_setRow_16 rfl rfl ?_
  refine m_aload_n hC 2 dX3_setRow_17 rfl rfl ?_
  refine m_getf hC dX3_setRow_18 kf_X3_15 R2.2.2.2.2.1 rfl ?_
  refine m_iload_n hC 3 dX3_setRow_21 rfl rfl ?_
  refine m_iald hC dX3_setRow_22 R2.2.2.2.2.2.2.1 (by decide) (by first | omega | (simp [hs_at] <;> omega)) ?_
  refine m_hst10 hC R2 hb dX3_setRow_23 (by first | omega | (simp [hs_at] <;> omega)) (fun M4 R5 f6 => ?_)
  refine m_aload_n hC 0 dX3_setRow_24 rfl rfl ?_
  refine m_getf hC dX3_setRow_25 kf_X3_18 R5.2.2.2.2.1 rfl ?_
  refine m_iload_n hC 1 dX3_setRow_28 rfl rfl ?_
  refine m_aload_n hC 2 dX3_setRow_29 rfl rfl ?_
  refine m_getf hC dX3_setRow_30 kf_X3_18 R5.2.2.2.2.1 rfl ?_
  refine m_iload_n hC 3 dX3_setRow_33 rfl rfl ?_
  refine m_iald hC dX3_setRow_34 R5.2.2.2.2.2.2.2.1 (by decide) (by first | omega | (simp [hs_at] <;> omega)) ?_
  refine m_hst11 hC R5 hb dX3_setRow_35 (by first | omega | (simp [hs_at] <;> omega)) (fun M7 R8 f9 => ?_)
  refine m_aload_n hC 0 dX3_setRow_36 rfl rfl ?_
  refine m_getf hC dX3_setRow_37 kf_X3_21 R8.2.2.2.2.1 rfl ?_
  refine m_iload_n hC 1 dX3_setRow_40 rfl rfl ?_
  refine m_aload_n hC 2 dX3_setRow_41 rfl rfl ?_
  refine m_getf hC dX3_setRow_42 kf_X3_21 R8.2.2.2.2.1 rfl ?_
  refine m_iload_n hC 3 dX3_setRow_45 rfl rfl ?_
  refine m_iald hC dX3_setRow_46 R8.2.2.2.2.2.2.2.2.1 (by decide) (by first | omega | (simp [hs_at] <;> omega)) ?_
  refine m_hst12 hC R8 hb dX3_setRow_47 (by first | omega | (simp [hs_at] <;> omega)) (fun M10 R11 f12 => ?_)
  refine m_aload_n hC 0 dX3_setRow_48 rfl rfl ?_
  refine m_getf hC dX3_setRow_49 kf_X3_24 R11.2.2.2.2.1 rfl ?_
  refine m_iload_n hC 1 dX3_setRow_52 rfl rfl ?_
  refine m_aload_n hC 2 dX3_setRow_53 rfl rfl ?_
  refine m_getf hC dX3_setRow_54 kf_X3_24 R11.2.2.2.2.1 rfl ?_
  refine m_iload_n hC 3 dX3_setRow_57 rfl rfl ?_
  refine m_iald hC dX3_setRow_58 R11.2.2.2.2.2.2.2.2.2 (by decide) (by first | omega | (simp [hs_at] <;> omega)) ?_
  refine m_hst13 hC R11 hb dX3_setRow_59 (by first | omega | (simp [hs_at] <;> omega)) (fun M13 R14 f15 => ?_)
  exact m_vret hC dX3_setRow_60 hr (by decide) (by decide) (⟨rfl, R14, (f3.tr (f6.tr (f9.tr (f12.tr f15))))⟩)

set_option maxHeartbeats 4000000 in
set_option maxRecDepth 100000 in
theorem t_X3_setRow_2 {D : va_G} {aC : Nat → ClassId} {s0 : State} {l : Launch} (hF : m_F D aC s0) (hl : l.stackTraces = false) {b : Nat} {t : h_T} {M : m_M} (hP : hhP b t M) (hb : s0.heap.size ≤ b) {i j : Int} (hi : 0 ≤ i ∧ i < 8) (hj : 0 ≤ j ∧ j < 8) {b2 : Nat} {t2 : h_T} (hQ : hhP b2 t2 M) (hd : b + 17 ≤ b2 ∨ b2 + 17 ≤ b) : m_Met D aC s0 l yX3_setRow cX3_setRow 4 none 0 (0) (0) [.ref (b + 11), VI i, .ref (b2 + 11), VI j] M (h_upt b M (h_sr t t2 i j)) m_nx := by
  refine m_entry (lv := [(0, .ref (b + 11)), (1, VI i), (2, .ref (b2 + 11)), (3, VI j)]) (by decide +kernel) (Nat.le_of_ble_eq_true rfl) rfl hF hl ?_
  intro p e s m args below meth c hC hr hno hnm
  change m_C D aC s0 RX3 _ _ _ _ _ _ _ _ _ at hC
  refine m_aload_n hC 0 dX3_setRow_0 rfl rfl ?_
  refine m_getf hC dX3_setRow_1 kf_X3_9 hP.2.2.2.2.1 rfl ?_
  refine m_iload_n hC 1 dX3_setRow_4 rfl rfl ?_
  refine m_aload_n hC 2 dX3_setRow_5 rfl rfl ?_
  refine m_getf hC dX3_setRow_6 kf_X3_9 hQ.2.2.2.2.1 rfl ?_
  refine m_iload_n hC 3 dX3_setRow_9 rfl rfl ?_
  refine m_iald hC dX3_setRow_10 hQ.2.2.2.2.2.1 (by decide) (by first | omega | (simp [hs_at] <;> omega)) ?_
  refine m_hst9 hC hP hb dX3_setRow_11 (by first | omega | (simp [hs_at] <;> omega)) (fun M1 R2 f3 => ?_)
  have R4 := hQ.keep (fun q h1 h2 => f3.2 q (by omega))
  refine m_aload_n hC 0 dX3_setRow_12 rfl rfl ?_
  refine m_getf hC dX3_setRow_13 kf_X3_15 R2.2.2.2.2.1 rfl ?_
  refine m_iload_n hC 1 dX3_setRow_16 rfl rfl ?_
  refine m_aload_n hC 2 dX3_setRow_17 rfl rfl ?_
  refine m_getf hC dX3_setRow_18 kf_X3_15 R4.2.2.2.2.1 rfl ?_
  refine m_iload_n hC 3 dX3_setRow_21 rfl rfl ?_
  refine m_iald hC dX3_setRow_22 R4.2.2.2.2.2.2.1 (by decide) (by first | omega | (simp [hs_at] <;> omega)) ?_
  refine m_hst10 hC R2 hb dX3_setRow_23 (by first | omega | (simp [hs_at] <;> omega)) (fun M5 R6 f7 => ?_)
  have R8 := R4.keep (fun q h1 h2 => f7.2 q (by omega))
  refine m_aload_n hC 0 dX3_setRow_24 rfl rfl ?_
  refine m_getf hC dX3_setRow_25 kf_X3_18 R6.2.2.2.2.1 rfl ?_
  refine m_iload_n hC 1 dX3_setRow_28 rfl rfl ?_
  refine m_aload_n hC 2 dX3_setRow_29 rfl rfl ?_
  refine m_getf hC dX3_setRow_30 kf_X3_18 R8.2.2.2.2.1 rfl ?_
  refine m_iload_n hC 3 dX3_setRow_33 rfl rfl ?_
  refine m_iald hC dX3_setRow_34 R8.2.2.2.2.2.2.2.1 (by decide) (by first | omega | (simp [hs_at] <;> omega)) ?_
  refine m_hst11 hC R6 hb dX3_setRow_35 (by first | omega | (simp [hs_at] <;> omega)) (fun M9 R10 f11 => ?_)
  have R12 := R8.keep (fun q h1 h2 => f11.2 q (by omega))
  refine m_aload_n hC 0 dX3_setRow_36 rfl rfl ?_
  refine m_getf hC dX3_setRow_37 kf_X3_21 R10.2.2.2.2.1 rfl ?_
  refine m_iload_n hC 1 dX3_setRow_40 rfl rfl ?_
  refine m_aload_n hC 2 dX3_setRow_41 rfl rfl ?_
  refine m_getf hC dX3_setRow_42 kf_X3_21 R12.2.2.2.2.1 rfl ?_
  refine m_iload_n hC 3 dX3_setRow_45 rfl rfl ?_
  refine m_iald hC dX3_setRow_46 R12.2.2.2.2.2.2.2.2.1 (by decide) (by first | omega | (simp [hs_at] <;> omega)) ?_
  refine m_hst12 hC R10 hb dX3_setRow_47 (by first | omega | (simp [hs_at] <;> omega)) (fun M13 R14 f15 => ?_)
  have R16 := R12.keep (fun q h1 h2 => f15.2 q (by omega))
  refine m_aload_n hC 0 dX3_setRow_48 rfl rfl ?_
  refine m_getf hC dX3_setRow_49 kf_X3_24 R14.2.2.2.2.1 rfl ?_
  refine m_iload_n hC 1 dX3_setRow_52 rfl rfl ?_
  refine m_aload_n hC 2 dX3_setRow_53 rfl rfl ?_
  refine m_getf hC dX3_setRow_54 kf_X3_24 R16.2.2.2.2.1 rfl ?_
  refine m_iload_n hC 3 dX3_setRow_57 rfl rfl ?_
  refine m_iald hC dX3_setRow_58 R16.2.2.2.2.2.2.2.2.2 (by decide) (by first | omega | (simp [hs_at] <;> omega)) ?_
  refine m_hst13 hC R14 hb dX3_setRow_59 (by first | omega | (simp [hs_at] <;> omega)) (fun M17 R18 f19 => ?_)
  have R20 := R16.keep (fun q h1 h2 => f19.2 q (by omega))
  exact m_vret hC dX3_setRow_60 hr (by decide) (by decide) (⟨rfl, R18, (f3.tr (f7.tr (f11.tr (f15.tr f19))))⟩)

set_option maxHeartbeats 4000000 in
set_option maxRecDepth 100000 in
theorem t_X3_removeAt {D : va_G} {aC : Nat → ClassId} {s0 : State} {l : Launch} (hF : m_F D aC s0) (hl : l.stackTraces = false) {b : Nat} {g : h_T} {M : m_M} (hR : hhR b g M) (hb : s0.heap.size ≤ b) (h8 : g 0 11 ≤ 8) {x : Int} (hx : 0 ≤ x ∧ x < g 0 11) : m_Met D aC s0 l yX3_removeAt cX3_removeAt 3 none 1 (0) (0) [.ref (b + 11), VI x] M (h_up b M (S_del g x)) m_nx := by
  refine m_entry (lv := [(0, .ref (b + 11)), (1, VI x)]) (by decide +kernel) (Nat.le_of_ble_eq_true rfl) rfl hF hl ?_
  intro p e s m args below meth c hC hr hno hnm
  change m_C D aC s0 RX3 _ _ _ _ _ _ _ _ _ at hC
  obtain ⟨t, hP, he, hbt⟩ := hR
  have e11 := he.s 11 (by omega)
  refine m_iload_n hC 1 dX3_removeAt_0 rfl rfl ?_
  refine m_istore_n hC dX3_removeAt_1 rfl (by decide) rfl ?_
  have L : ∀ (n : Nat) (i : Int) (M1 : m_M), t 0 11 - i < (n : Int) → x ≤ i → i ≤ t 0 11 - 1 → hhP b (S_sh t x i) M1 → m_fr b 17 M M1 → m_W D aC s0 3 p l e (m_R 1 (0) (0)) s m args below meth c (0) (0) (m_Q D aC s0 below (h_up b M (S_del g x)) m_nx args s (0) (0)) 2 [(2, VI i), (1, VI x), (0, .ref (b + 11))] [] M1 := by
    intro n
    induction n with
    | zero =>
      intro i M1 hn h0 h1 hP1 hf1
      omega
    | succ n ih =>
      intro i M1 hn h0 h1 hP1 hf1
      have es : S_sh t x i 0 11 = t 0 11 := S_sh_s
      refine m_iload_n hC 0 dX3_removeAt_2 rfl rfl ?_
      refine m_aload_n hC 2 dX3_removeAt_3 rfl rfl ?_
      refine m_getf hC dX3_removeAt_4 kf_X3_27 hP1.2.2.2.2.1 rfl ?_
      refine m_iconst hC dX3_removeAt_7 ?_
      refine m_isub hC dX3_removeAt_8 ?_
      refine m_icmp_ge (tgt := 27) hC dX3_removeAt_9 (by decide) (by first | omega | (simp [hs_at] <;> omega)) (fun c1 => ?_) (fun c1 => ?_)
      · refine m_aload_n hC 2 dX3_removeAt_27 rfl rfl ?_
        refine m_dup hC dX3_removeAt_28 rfl ?_
        refine m_getf hC dX3_removeAt_29 kf_X3_27 hP1.2.2.2.2.1 rfl ?_
        refine m_iconst hC dX3_removeAt_32 ?_
        refine m_isub hC dX3_removeAt_33 ?_
        refine m_hss11 hC hP1 hb dX3_removeAt_34 kf_X3_27 (fun M2 R3 f4 => ?_)
        exact m_vret hC dX3_removeAt_37 hr (by decide) (by decide) (⟨rfl, ⟨_, R3, (by have q := S_sh_del (t := t) (p := x) (by omega); rw [show i = t 0 11 - 1 by omega] ; exact q.tr (he.del x)), fun j => by simpa [hs_at, S_sh] using hbt j⟩, (hf1.tr f4)⟩)
      · refine m_aload_n hC 2 dX3_removeAt_12 rfl rfl ?_
        refine m_iload_n hC 0 dX3_removeAt_13 rfl rfl ?_
        refine m_aload_n hC 2 dX3_removeAt_14 rfl rfl ?_
        refine m_iload_n hC 0 dX3_removeAt_15 rfl rfl ?_
        refine m_iconst hC dX3_removeAt_16 ?_
        refine m_iadd hC dX3_removeAt_17 ?_
        refine m_callV hC (t_X3_setRow hF hl hP1 hb (i := i) (j := i + 1) (by omega) (by omega)) dX3_removeAt_18 kc_X3_setRow kV_X3_34 hP1.2.2.2.2.1 rfl rfl rfl rfl (Nat.le_of_ble_eq_true rfl) (by decide) (by decide) m_nox (fun v9 M5 h9 => ?_)
        obtain ⟨rfl, R6, f7⟩ := h9
        rw [h_sr_sh (by omega)] at R6
        refine m_iinc hC 0 dX3_removeAt_21 rfl (by decide) rfl ?_
        refine m_goto (tgt := 2) hC dX3_removeAt_24 (by decide) ?_
        refine m_lvs [0, 1, 2] rfl (ih (i + 1) M5 (by omega) (by omega) (by omega) R6 (hf1.tr f7))
  refine m_lvs [0, 2, 1] rfl (L ((t 0 11 - x).toNat + 1) x M (by omega) (by omega) (by omega) (by rw [S_sh_0]; exact hP) m_fr.rf)

set_option maxHeartbeats 4000000 in
set_option maxRecDepth 100000 in
theorem t_X7_dropContract {D : va_G} {aC : Nat → ClassId} {s0 : State} {l : Launch} (hF : m_F D aC s0) (hl : l.stackTraces = false) {b : Nat} {g : h_T} {M : m_M} {K : Int} (hR : hhR b g M) (hB : h_BK K g) (hK : K ≤ 90000000) (hb : s0.heap.size ≤ b) {x : Int} (hx : -2147483648 ≤ x ∧ x < 2147483648) : m_Met D aC s0 l yX7_dropContract cX7_dropContract 4 (some .int) 2 (0) (0) [.ref b, VI x] M (h_op b M (S_cancel g x)) m_nx := by
  refine m_entry (lv := [(0, .ref b), (1, VI x)]) (by decide +kernel) (Nat.le_of_ble_eq_true rfl) rfl hF hl ?_
  intro p e s m args below meth c hC hr hno hnm
  change m_C D aC s0 RX7 _ _ _ _ _ _ _ _ _ at hC
  have hB0 := hB.toB (by omega)
  have h11 := hB.n11
  have h9n := hB.n9
  have h1 := hB.s 1 (by omega)
  refine m_aload_n hC 0 dX7_dropContract_0 rfl rfl ?_
  refine m_getf hC dX7_dropContract_1 kf_X7_32 hR.ob rfl ?_
  refine m_iload_n hC 1 dX7_dropContract_4 rfl rfl ?_
  refine m_callV hC (t_X3_positionOf hF hl hR hB0 hx) dX7_dropContract_5 kc_X3_positionOf kV_X7_186 hR.co rfl rfl rfl rfl (Nat.le_of_ble_eq_true rfl) (by decide) (by decide) m_nox (fun v9 M1 h9 => ?_)
  obtain ⟨rfl, rfl⟩ := h9
  have rg := S_pos_rg (g := g) x h11.1
  generalize hp9 : S_pos g x = p9 at *
  refine m_istore_n hC dX7_dropContract_8 rfl (by decide) rfl ?_
  refine m_iload_n hC 0 dX7_dropContract_9 rfl rfl ?_
  refine m_iconst hC dX7_dropContract_10 ?_
  refine m_icmp_ne (tgt := 17) hC dX7_dropContract_11 (by decide) (by first | omega | (simp [hs_at] <;> omega)) (fun c2 => ?_) (fun c2 => ?_)
  · have hco := hB.co (i := p9) (by omega)
    have hgo := hB.go (i := g 10 p9) (by omega)
    refine m_aload_n hC 1 dX7_dropContract_17 rfl rfl ?_
    refine m_getf hC dX7_dropContract_18 kf_X7_32 hR.ob rfl ?_
    refine m_getf hC dX7_dropContract_21 kf_X7_180 hR.co rfl ?_
    refine m_iload_n hC 0 dX7_dropContract_24 rfl rfl ?_
    refine m_ld12 hC hR dX7_dropContract_25 (by first | omega | (simp [hs_at] <;> omega)) (by first | omega | (simp [hs_at] <;> omega)) ?_
    refine m_bipush hC dX7_dropContract_26 (by decide) ?_
    refine m_idiv hC dX7_dropContract_28 (by first | omega | (simp [hs_at] <;> omega)) ?_
    refine m_aload_n hC 1 dX7_dropContract_29 rfl rfl ?_
    refine m_getf hC dX7_dropContract_30 kf_X7_40 hR.ob rfl ?_
    refine m_mmin hC dX7_dropContract_33 kM_X7_189 (by first | omega | (simp [hs_at] <;> omega)) (by decide) (Nat.le_of_ble_eq_true rfl) (by decide) (by decide) ?_
    refine m_istore_n hC dX7_dropContract_36 rfl (by decide) rfl ?_
    refine m_aload_n hC 2 dX7_dropContract_37 rfl rfl ?_
    refine m_dup hC dX7_dropContract_38 rfl ?_
    refine m_getf hC dX7_dropContract_39 kf_X7_40 hR.ob rfl ?_
    refine m_iload_n hC 0 dX7_dropContract_42 rfl rfl ?_
    refine m_isub hC dX7_dropContract_43 ?_
    refine m_ss1 hC hR hb dX7_dropContract_44 kf_X7_40 (fun M3 R4 f5 => ?_)
    refine m_aload_n hC 2 dX7_dropContract_47 rfl rfl ?_
    refine m_getf hC dX7_dropContract_48 kf_X7_25 R4.ob rfl ?_
    refine m_getf hC dX7_dropContract_51 kf_X7_136 R4.go rfl ?_
    refine m_aload_n hC 2 dX7_dropContract_54 rfl rfl ?_
    refine m_getf hC dX7_dropContract_55 kf_X7_32 R4.ob rfl ?_
    refine m_getf hC dX7_dropContract_58 kf_X7_175 R4.co rfl ?_
    refine m_iload_n hC 1 dX7_dropContract_61 rfl rfl ?_
    refine m_ld10 hC R4 dX7_dropContract_62 (by first | omega | (simp [hs_at] <;> omega)) (by first | omega | (simp [hs_at] <;> omega)) ?_
    refine m_dup2 hC dX7_dropContract_63 rfl rfl ?_
    refine m_ld5 hC R4 dX7_dropContract_64 (by first | omega | (simp [hs_at] <;> omega)) (by first | omega | (simp [hs_at] <;> omega)) ?_
    refine m_iload_n hC 0 dX7_dropContract_65 rfl rfl ?_
    refine m_iadd hC dX7_dropContract_66 ?_
    refine m_st5 hC R4 hb dX7_dropContract_67 (by first | omega | (simp [hs_at] <;> omega)) (fun M6 R7 f8 => ?_)
    refine m_aload_n hC 2 dX7_dropContract_68 rfl rfl ?_
    refine m_getf hC dX7_dropContract_69 kf_X7_32 R7.ob rfl ?_
    refine m_iload_n hC 1 dX7_dropContract_72 rfl rfl ?_
    refine m_callV hC (t_X3_removeAt hF hl R7 hb (by simp [hs_at]; omega) (show 0 ≤ p9 ∧ p9 < _ from by simp [hs_at]; omega)) dX7_dropContract_73 kc_X3_removeAt kV_X7_194 R7.co rfl rfl rfl rfl (Nat.le_of_ble_eq_true rfl) (by decide) (by decide) m_nox (fun v9 M9 h9 => ?_)
    obtain ⟨rfl, R10, f11⟩ := h9
    refine m_iload_n hC 0 dX7_dropContract_76 rfl rfl ?_
    exact m_iret hC dX7_dropContract_77 hr (by decide) (by decide) (h_op.mk (by unfold S_cancel S_cut; rw [if_neg (by omega), hp9]; try rfl) R10 (f5.tr (f8.tr f11)))
  · refine m_bipush hC dX7_dropContract_14 (by decide) ?_
    exact m_iret hC dX7_dropContract_16 hr (by decide) (by decide) (h_op.mk (by unfold S_cancel; rw [if_pos (by omega)]) hR m_fr.rf)

set_option maxHeartbeats 4000000 in
set_option maxRecDepth 100000 in
theorem t_X7_pay {D : va_G} {aC : Nat → ClassId} {s0 : State} {l : Launch} (hF : m_F D aC s0) (hl : l.stackTraces = false) {b : Nat} {g : h_T} {M : m_M} {K : Int} (hR : hhR b g M) (hB : h_BK K g) (hK : K ≤ 99000000) (hb : s0.heap.size ≤ b) {x w : Int} (hx : 0 ≤ x ∧ x < g 0 9) (hw : 1 ≤ w ∧ w ≤ 50) : m_Met D aC s0 l yX7_pay cX7_pay 5 none 1 (0) (0) [.ref b, VI x, VI w] M (h_up b M (S_pay g x w)) m_nx := by
  refine m_entry (lv := [(0, .ref b), (1, VI x), (2, VI w)]) (by decide +kernel) (Nat.le_of_ble_eq_true rfl) rfl hF hl ?_
  intro p e s m args below meth c hC hr hno hnm
  change m_C D aC s0 RX7 _ _ _ _ _ _ _ _ _ at hC
  have h9 := hB.n9
  have h1 := hB.s 1 (by omega)
  have hgo := hB.go hx
  refine m_iload_n hC 2 dX7_pay_0 rfl rfl ?_
  refine m_aload_n hC 0 dX7_pay_1 rfl rfl ?_
  refine m_getf hC dX7_pay_2 kf_X7_40 hR.ob rfl ?_
  refine m_mmin hC dX7_pay_5 kM_X7_189 (by first | omega | (simp [hs_at] <;> omega)) (by decide) (Nat.le_of_ble_eq_true rfl) (by decide) (by decide) ?_
  refine m_istore_n hC dX7_pay_8 rfl (by decide) rfl ?_
  refine m_iload_n hC 0 dX7_pay_9 rfl rfl ?_
  refine m_aload_n hC 1 dX7_pay_10 rfl rfl ?_
  refine m_getf hC dX7_pay_11 kf_X7_25 hR.ob rfl ?_
  refine m_getf hC dX7_pay_14 kf_X7_139 hR.go rfl ?_
  refine m_iload_n hC 2 dX7_pay_17 rfl rfl ?_
  refine m_ld6 hC hR dX7_pay_18 (by first | omega | (simp [hs_at] <;> omega)) (by first | omega | (simp [hs_at] <;> omega)) ?_
  refine m_mmin hC dX7_pay_19 kM_X7_189 (by first | omega | (simp [hs_at] <;> omega)) (by decide) (Nat.le_of_ble_eq_true rfl) (by decide) (by decide) ?_
  refine m_istore hC dX7_pay_22 (by decide) rfl ?_
  refine m_aload_n hC 2 dX7_pay_24 rfl rfl ?_
  refine m_dup hC dX7_pay_25 rfl ?_
  refine m_getf hC dX7_pay_26 kf_X7_55 hR.ob rfl ?_
  refine m_iload_n hC 4 dX7_pay_29 rfl rfl ?_
  refine m_iload_n hC 1 dX7_pay_30 rfl rfl ?_
  refine m_isub hC dX7_pay_31 ?_
  refine m_iadd hC dX7_pay_32 ?_
  refine m_ss6 hC hR hb dX7_pay_33 kf_X7_55 (fun M1 R2 f3 => ?_)
  refine m_aload_n hC 2 dX7_pay_36 rfl rfl ?_
  refine m_dup hC dX7_pay_37 rfl ?_
  refine m_getf hC dX7_pay_38 kf_X7_40 R2.ob rfl ?_
  refine m_iload hC 0 dX7_pay_41 rfl ?_
  refine m_iload_n hC 1 dX7_pay_43 rfl rfl ?_
  refine m_isub hC dX7_pay_44 ?_
  refine m_iadd hC dX7_pay_45 ?_
  refine m_ss1 hC R2 hb dX7_pay_46 kf_X7_40 (fun M4 R5 f6 => ?_)
  refine m_aload_n hC 2 dX7_pay_49 rfl rfl ?_
  refine m_getf hC dX7_pay_50 kf_X7_25 R5.ob rfl ?_
  refine m_getf hC dX7_pay_53 kf_X7_139 R5.go rfl ?_
  refine m_iload_n hC 3 dX7_pay_56 rfl rfl ?_
  refine m_dup2 hC dX7_pay_57 rfl rfl ?_
  refine m_ld6 hC R5 dX7_pay_58 (by first | omega | (simp [hs_at] <;> omega)) (by first | omega | (simp [hs_at] <;> omega)) ?_
  refine m_iload hC 0 dX7_pay_59 rfl ?_
  refine m_isub hC dX7_pay_61 ?_
  refine m_st6 hC R5 hb dX7_pay_62 (by first | omega | (simp [hs_at] <;> omega)) (fun M7 R8 f9 => ?_)
  refine m_aload_n hC 2 dX7_pay_63 rfl rfl ?_
  refine m_getf hC dX7_pay_64 kf_X7_25 R8.ob rfl ?_
  refine m_getf hC dX7_pay_67 kf_X7_136 R8.go rfl ?_
  refine m_iload_n hC 3 dX7_pay_70 rfl rfl ?_
  refine m_dup2 hC dX7_pay_71 rfl rfl ?_
  refine m_ld5 hC R8 dX7_pay_72 (by first | omega | (simp [hs_at] <;> omega)) (by first | omega | (simp [hs_at] <;> omega)) ?_
  refine m_iload_n hC 1 dX7_pay_73 rfl rfl ?_
  refine m_iload hC 0 dX7_pay_74 rfl ?_
  refine m_isub hC dX7_pay_76 ?_
  refine m_iadd hC dX7_pay_77 ?_
  refine m_st5 hC R8 hb dX7_pay_78 (by first | omega | (simp [hs_at] <;> omega)) (fun M10 R11 f12 => ?_)
  exact m_vret hC dX7_pay_79 hr (by decide) (by decide) (⟨rfl, R11, (f3.tr (f6.tr (f9.tr f12)))⟩)

