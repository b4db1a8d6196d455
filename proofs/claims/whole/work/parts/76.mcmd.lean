theorem rW_9 {w : h_T} {q wr i v : Int} : hs (rW w q wr) 9 i v = rW (hs w 9 i v) q wr := by
  unfold rW
  rw [hs_cm (c := 0) (c' := 9) (Or.inl (by decide)), hs_cm (c := 0) (i := 16) (c' := 9) (Or.inl (by decide))]
theorem rW_18 {w : h_T} {q wr v : Int} : hs (rW w q wr) 0 18 v = rW (hs w 0 18 v) q wr := by
  unfold rW
  rw [hs_cm (c := 0) (i := 17) (c' := 0) (i' := 18) (Or.inr (by decide)), hs_cm (c := 0) (i := 16) (c' := 0) (i' := 18) (Or.inr (by decide))]
theorem rX.st9 {w : h_T} {tx : List Int} {i v : Int} (h : rX w tx) : rX (hs w 9 i v) tx := ⟨h.1, h.2.1, h.2.2.1, h.2.2.2⟩
theorem rX.st18 {w : h_T} {tx : List Int} {v : Int} (h : rX w tx) : rX (hs w 0 18 v) tx := ⟨h.1, h.2.1, h.2.2.1, h.2.2.2⟩
theorem nu_rg {tx : List Int} : ∀ (k : Nat) (q wr n : Int), 0 ≤ q ∧ q ≤ (tx.length : Int) → -1 ≤ wr ∧ wr ≤ (tx.length : Int) → (0 ≤ (nu tx k q wr n).2.1 ∧ (nu tx k q wr n).2.1 ≤ (tx.length : Int)) ∧ -1 ≤ (nu tx k q wr n).2.2 ∧ (nu tx k q wr n).2.2 ≤ (tx.length : Int) := by
  intro k
  induction k with
  | zero => intro q wr n hq hw; exact ⟨hq, hw⟩
  | succ k ih =>
    intro q wr n hq hw
    rw [nu]
    split
    · rename_i z
      have := ltr_in z.2.1 (by decide)
      exact ih _ _ _ (by omega) hw
    · exact ⟨hq, hw⟩
theorem r_n_rg {tx : List Int} {q wr : Int} (hq : 0 ≤ q ∧ q ≤ (tx.length : Int)) (hw : -1 ≤ wr ∧ wr ≤ (tx.length : Int)) : (0 ≤ (r_n tx q wr).2.1 ∧ (r_n tx q wr).2.1 ≤ (tx.length : Int)) ∧ -1 ≤ (r_n tx q wr).2.2 ∧ (r_n tx q wr).2.2 ≤ (tx.length : Int) := nu_rg 2 _ _ _ (r_q_rg hq (by decide)) (r_w_rg hq hw)
/-- one step of reading, the error and the place: a digit, a sign, a number -/
def t_d (tx : List Int) (s : Int × Int) : Int × Int × Int := (r_v tx s.1 s.2 48 57, r_q tx s.1 s.2 48 57, r_w tx s.1 s.2 48 57)
def t_s (tx : List Int) (c : Int) (s : Int × Int) : Int × Int := (r_q tx s.1 s.2 c c, r_w tx s.1 s.2 c c)
def t_n (tx : List Int) (s : Int × Int) : Int × Int × Int := r_n tx s.1 s.2
def t_ok (tx : List Int) (s : Int × Int) : Prop := (0 ≤ s.1 ∧ s.1 ≤ (tx.length : Int)) ∧ -1 ≤ s.2 ∧ s.2 ≤ (tx.length : Int)
theorem t_d_ok {tx : List Int} {s : Int × Int} (h : t_ok tx s) : t_ok tx (t_d tx s).2 := ⟨r_q_rg h.1 (by decide), r_w_rg h.1 h.2⟩
theorem t_s_ok {tx : List Int} {s : Int × Int} {c : Int} (h : t_ok tx s) (hc : 0 ≤ c) : t_ok tx (t_s tx c s) := ⟨r_q_rg h.1 hc, r_w_rg h.1 h.2⟩
theorem t_n_ok {tx : List Int} {s : Int × Int} (h : t_ok tx s) : t_ok tx (t_n tx s).2 := r_n_rg h.1 h.2
/-- the four numbers of a hire, and where it ends -/
def t_h (tx : List Int) (s : Int × Int) : (Int × Int × Int × Int) × Int × Int :=
  (((t_d tx s).1, (t_d tx (t_s tx 32 (t_d tx s).2)).1, (t_n tx (t_s tx 32 (t_d tx (t_s tx 32 (t_d tx s).2)).2)).1, (t_n tx (t_s tx 47 (t_n tx (t_s tx 32 (t_d tx (t_s tx 32 (t_d tx s).2)).2)).2)).1), (t_n tx (t_s tx 47 (t_n tx (t_s tx 32 (t_d tx (t_s tx 32 (t_d tx s).2)).2)).2)).2)
theorem X_hire {a : Nat} {w g : h_T} {tx : List Int} {x q wr : Int} {M : m_M} {s0p p0 p1 p2 p3 p4 p5 p6 : Int × Int} {u0 u2 u4 u6 : Int × Int × Int} (hs0p : s0p = (q, wr)) (hu0 : u0 = t_d tx s0p) (hp0 : p0 = u0.2) (hp1 : p1 = t_s tx 32 p0) (hu2 : u2 = t_d tx p1) (hp2 : p2 = u2.2) (hp3 : p3 = t_s tx 32 p2) (hu4 : u4 = t_n tx p3) (hp4 : p4 = u4.2) (hp5 : p5 = t_s tx 47 p4) (hu6 : u6 = t_n tx p5) (hp6 : p6 = u6.2) (hV : mmV a (rW (hs (hs (hs (hs (w) 9 (x + 1) u0.1) 9 (x + 2) u2.1) 9 (x + 3) u4.1) 9 (x + 4) u6.1) p6.1 p6.2) g M) : mmV a (rW (hs (hs (hs (hs w 9 (x + 1) (t_h tx (q, wr)).1.1) 9 (x + 2) (t_h tx (q, wr)).1.2.1) 9 (x + 3) (t_h tx (q, wr)).1.2.2.1) 9 (x + 4) (t_h tx (q, wr)).1.2.2.2) (t_h tx (q, wr)).2.1 (t_h tx (q, wr)).2.2) g M := by
  subst hs0p hu0 hp0 hp1 hu2 hp2 hp3 hu4 hp4 hp5 hu6 hp6
  exact hV
set_option maxHeartbeats 4000000 in
set_option maxRecDepth 100000 in
theorem t_X10_readsHire {D : va_G} {aC : Nat → ClassId} {s0 : State} {l : Launch} (hF : m_F D aC s0) (hl : l.stackTraces = false) {a : Nat} {w g : h_T} {tx : List Int} {q wr : Int} {M : m_M} (hV : mmV a (rW w q wr) g M) (ha : s0.heap.size ≤ a) (hX : rX w tx) (hq : 0 ≤ q ∧ q ≤ (tx.length : Int)) (hwr : -1 ≤ wr ∧ wr ≤ (tx.length : Int)) {x : Int} (hx : 0 ≤ x ∧ x + 5 ≤ 150) : m_Met D aC s0 l yX10_readsHire cX10_readsHire 2 none 4 (0) (0) [.ref a, VI x] M (fun v M' => v = none ∧ mmV a (rW (hs (hs (hs (hs w 9 (x + 1) (t_h tx (q, wr)).1.1) 9 (x + 2) (t_h tx (q, wr)).1.2.1) 9 (x + 3) (t_h tx (q, wr)).1.2.2.1) 9 (x + 4) (t_h tx (q, wr)).1.2.2.2) (t_h tx (q, wr)).2.1 (t_h tx (q, wr)).2.2) g M' ∧ m_fr a 10 M M') m_nx := by
  refine m_entry (lv := [(0, .ref a), (1, VI x)]) (by decide +kernel) (Nat.le_of_ble_eq_true rfl) rfl hF hl ?_
  intro p e s m args below meth c hC hr hno hnm
  change m_C D aC s0 RX10 _ _ _ _ _ _ _ _ _ at hC
  obtain ⟨s0p, hs0p⟩ : ∃ z, z = (q, wr) := ⟨_, rfl⟩
  have oks0p : t_ok tx s0p := by rw [hs0p]; exact ⟨hq, hwr⟩
  have R00 : mmV a (rW w s0p.1 s0p.2) g M := by rw [hs0p]; exact hV
  refine m_aload_n hC 0 dX10_readsHire_0 rfl rfl ?_
  refine m_getf hC dX10_readsHire_1 kf_X10_41 R00.ob rfl ?_
  refine m_iload_n hC 1 dX10_readsHire_4 rfl rfl ?_
  refine m_iconst hC dX10_readsHire_5 ?_
  refine m_iadd hC dX10_readsHire_6 ?_
  refine m_aload_n hC 0 dX10_readsHire_7 rfl rfl ?_
  refine m_callV hC (t_X10_digit hF hl R00 ha hX oks0p.1 oks0p.2) dX10_readsHire_8 kc_X10_digit kV_X10_225 R00.ob rfl rfl rfl rfl (Nat.le_of_ble_eq_true rfl) (by decide) (by decide) m_nox (fun v9 M1 h9 => ?_)
  obtain ⟨rfl, R2, f3⟩ := h9
  obtain ⟨u0, hu0⟩ : ∃ z, z = t_d tx s0p := ⟨_, rfl⟩
  obtain ⟨p0, hp0⟩ : ∃ z, z = u0.2 := ⟨_, rfl⟩
  have okp0 : t_ok tx p0 := by rw [hp0, hu0]; exact t_d_ok oks0p
  have R4 : mmV a (rW (w) p0.1 p0.2) g M1 := by rw [hp0, hu0]; exact R2
  refine m_veq (z2 := u0.1) (by rw [hu0]; rfl) ?_
  refine m_w9 hC R4 ha dX10_readsHire_11 (by omega) (fun M5 R6 f7 => ?_)
  have R8 : mmV a (rW (hs (w) 9 (x + 1) u0.1) p0.1 p0.2) g M5 := by rw [← rW_9]; exact R6
  refine m_aload_n hC 0 dX10_readsHire_12 rfl rfl ?_
  refine m_bipush hC dX10_readsHire_13 (by decide) ?_
  refine m_callV hC (t_X10_sign hF hl R8 ha hX.st9 okp0.1 okp0.2 (x := 32) (by decide)) dX10_readsHire_15 kc_X10_sign kV_X10_239 R8.ob rfl rfl rfl rfl (Nat.le_of_ble_eq_true rfl) (by decide) (by decide) m_nox (fun v9 M9 h9 => ?_)
  obtain ⟨rfl, R10, f11⟩ := h9
  obtain ⟨p1, hp1⟩ : ∃ z, z = t_s tx 32 p0 := ⟨_, rfl⟩
  have okp1 : t_ok tx p1 := by rw [hp1]; exact t_s_ok okp0 (by decide)
  have R12 : mmV a (rW (hs (w) 9 (x + 1) u0.1) p1.1 p1.2) g M9 := by rw [hp1]; exact R10
  refine m_aload_n hC 0 dX10_readsHire_18 rfl rfl ?_
  refine m_getf hC dX10_readsHire_19 kf_X10_41 R12.ob rfl ?_
  refine m_iload_n hC 1 dX10_readsHire_22 rfl rfl ?_
  refine m_iconst hC dX10_readsHire_23 ?_
  refine m_iadd hC dX10_readsHire_24 ?_
  refine m_aload_n hC 0 dX10_readsHire_25 rfl rfl ?_
  refine m_callV hC (t_X10_digit hF hl R12 ha hX.st9 okp1.1 okp1.2) dX10_readsHire_26 kc_X10_digit kV_X10_225 R12.ob rfl rfl rfl rfl (Nat.le_of_ble_eq_true rfl) (by decide) (by decide) m_nox (fun v9 M13 h9 => ?_)
  obtain ⟨rfl, R14, f15⟩ := h9
  obtain ⟨u2, hu2⟩ : ∃ z, z = t_d tx p1 := ⟨_, rfl⟩
  obtain ⟨p2, hp2⟩ : ∃ z, z = u2.2 := ⟨_, rfl⟩
  have okp2 : t_ok tx p2 := by rw [hp2, hu2]; exact t_d_ok okp1
  have R16 : mmV a (rW (hs (w) 9 (x + 1) u0.1) p2.1 p2.2) g M13 := by rw [hp2, hu2]; exact R14
  refine m_veq (z2 := u2.1) (by rw [hu2]; rfl) ?_
  refine m_w9 hC R16 ha dX10_readsHire_29 (by omega) (fun M17 R18 f19 => ?_)
  have R20 : mmV a (rW (hs (hs (w) 9 (x + 1) u0.1) 9 (x + 2) u2.1) p2.1 p2.2) g M17 := by rw [← rW_9]; exact R18
  refine m_aload_n hC 0 dX10_readsHire_30 rfl rfl ?_
  refine m_bipush hC dX10_readsHire_31 (by decide) ?_
  refine m_callV hC (t_X10_sign hF hl R20 ha hX.st9.st9 okp2.1 okp2.2 (x := 32) (by decide)) dX10_readsHire_33 kc_X10_sign kV_X10_239 R20.ob rfl rfl rfl rfl (Nat.le_of_ble_eq_true rfl) (by decide) (by decide) m_nox (fun v9 M21 h9 => ?_)
  obtain ⟨rfl, R22, f23⟩ := h9
  obtain ⟨p3, hp3⟩ : ∃ z, z = t_s tx 32 p2 := ⟨_, rfl⟩
  have okp3 : t_ok tx p3 := by rw [hp3]; exact t_s_ok okp2 (by decide)
  have R24 : mmV a (rW (hs (hs (w) 9 (x + 1) u0.1) 9 (x + 2) u2.1) p3.1 p3.2) g M21 := by rw [hp3]; exact R22
  refine m_aload_n hC 0 dX10_readsHire_36 rfl rfl ?_
  refine m_getf hC dX10_readsHire_37 kf_X10_41 R24.ob rfl ?_
  refine m_iload_n hC 1 dX10_readsHire_40 rfl rfl ?_
  refine m_iconst hC dX10_readsHire_41 ?_
  refine m_iadd hC dX10_readsHire_42 ?_
  refine m_aload_n hC 0 dX10_readsHire_43 rfl rfl ?_
  refine m_callV hC (t_X10_number hF hl R24 ha hX.st9.st9 okp3.1 okp3.2) dX10_readsHire_44 kc_X10_number kV_X10_242 R24.ob rfl rfl rfl rfl (Nat.le_of_ble_eq_true rfl) (by decide) (by decide) m_nox (fun v9 M25 h9 => ?_)
  obtain ⟨rfl, R26, f27⟩ := h9
  obtain ⟨u4, hu4⟩ : ∃ z, z = t_n tx p3 := ⟨_, rfl⟩
  obtain ⟨p4, hp4⟩ : ∃ z, z = u4.2 := ⟨_, rfl⟩
  have okp4 : t_ok tx p4 := by rw [hp4, hu4]; exact t_n_ok okp3
  have R28 : mmV a (rW (hs (hs (w) 9 (x + 1) u0.1) 9 (x + 2) u2.1) p4.1 p4.2) g M25 := by rw [hp4, hu4]; exact R26
  refine m_veq (z2 := u4.1) (by rw [hu4]; rfl) ?_
  refine m_w9 hC R28 ha dX10_readsHire_47 (by omega) (fun M29 R30 f31 => ?_)
  have R32 : mmV a (rW (hs (hs (hs (w) 9 (x + 1) u0.1) 9 (x + 2) u2.1) 9 (x + 3) u4.1) p4.1 p4.2) g M29 := by rw [← rW_9]; exact R30
  refine m_aload_n hC 0 dX10_readsHire_48 rfl rfl ?_
  refine m_bipush hC dX10_readsHire_49 (by decide) ?_
  refine m_callV hC (t_X10_sign hF hl R32 ha hX.st9.st9.st9 okp4.1 okp4.2 (x := 47) (by decide)) dX10_readsHire_51 kc_X10_sign kV_X10_239 R32.ob rfl rfl rfl rfl (Nat.le_of_ble_eq_true rfl) (by decide) (by decide) m_nox (fun v9 M33 h9 => ?_)
  obtain ⟨rfl, R34, f35⟩ := h9
  obtain ⟨p5, hp5⟩ : ∃ z, z = t_s tx 47 p4 := ⟨_, rfl⟩
  have okp5 : t_ok tx p5 := by rw [hp5]; exact t_s_ok okp4 (by decide)
  have R36 : mmV a (rW (hs (hs (hs (w) 9 (x + 1) u0.1) 9 (x + 2) u2.1) 9 (x + 3) u4.1) p5.1 p5.2) g M33 := by rw [hp5]; exact R34
  refine m_aload_n hC 0 dX10_readsHire_54 rfl rfl ?_
  refine m_getf hC dX10_readsHire_55 kf_X10_41 R36.ob rfl ?_
  refine m_iload_n hC 1 dX10_readsHire_58 rfl rfl ?_
  refine m_iconst hC dX10_readsHire_59 ?_
  refine m_iadd hC dX10_readsHire_60 ?_
  refine m_aload_n hC 0 dX10_readsHire_61 rfl rfl ?_
  refine m_callV hC (t_X10_number hF hl R36 ha hX.st9.st9.st9 okp5.1 okp5.2) dX10_readsHire_62 kc_X10_number kV_X10_242 R36.ob rfl rfl rfl rfl (Nat.le_of_ble_eq_true rfl) (by decide) (by decide) m_nox (fun v9 M37 h9 => ?_)
  obtain ⟨rfl, R38, f39⟩ := h9
  obtain ⟨u6, hu6⟩ : ∃ z, z = t_n tx p5 := ⟨_, rfl⟩
  obtain ⟨p6, hp6⟩ : ∃ z, z = u6.2 := ⟨_, rfl⟩
  have okp6 : t_ok tx p6 := by rw [hp6, hu6]; exact t_n_ok okp5
  have R40 : mmV a (rW (hs (hs (hs (w) 9 (x + 1) u0.1) 9 (x + 2) u2.1) 9 (x + 3) u4.1) p6.1 p6.2) g M37 := by rw [hp6, hu6]; exact R38
  refine m_veq (z2 := u6.1) (by rw [hu6]; rfl) ?_
  refine m_w9 hC R40 ha dX10_readsHire_65 (by omega) (fun M41 R42 f43 => ?_)
  have R44 : mmV a (rW (hs (hs (hs (hs (w) 9 (x + 1) u0.1) 9 (x + 2) u2.1) 9 (x + 3) u4.1) 9 (x + 4) u6.1) p6.1 p6.2) g M41 := by rw [← rW_9]; exact R42
  exact m_vret hC dX10_readsHire_66 hr (by decide) (by decide) (⟨rfl, X_hire hs0p hu0 hp0 hp1 hu2 hp2 hp3 hu4 hp4 hp5 hu6 hp6 R44, (f3.tr (f7.tr (f11.tr (f15.tr (f19.tr (f23.tr (f27.tr (f31.tr (f35.tr (f39.tr f43))))))))))⟩)

