/-! every call of the reference in the one form -/
theorem R_addGoblin {D : va_G} {aC : Nat → ClassId} {s0 : State} {l : Launch} (hF : m_F D aC s0) (hl : l.stackTraces = false) {fo : Nat → Nat} {ks vs : Nat → Nat} {fA sA dO dT : Nat} (hJ : m_J s0 fo ks vs fA sA dO dT) {sa va : Nat} (hN : m_NM s0 sa va) {a : Nat} {W : gW} {M : m_M} {K th : Int} (hD : mIn a th W M) (ha : s0.heap.size ≤ a) (hI : lI K W) (hK : K ≤ 77000000) (htx : ∀ i : Nat, 0 ≤ W.2.2.2.2.1.getD i 0 ∧ W.2.2.2.2.1.getD i 0 < 128) (hot : ∀ i : Nat, 0 ≤ W.2.2.2.2.2.getD i 0 ∧ W.2.2.2.2.2.getD i 0 < 128) {y1 : Int} (hy1 : -2147483648 ≤ y1 ∧ y1 < 2147483648) : mU D aC s0 l a yX10_addGoblin cX10_addGoblin 2 (some .int) 8 [.ref a, VI y1] M (kS [-2, -3] (S_addGoblin W.1 y1)) (kW (S_addGoblin W.1 y1) W) := by
  exact mU.ch (t_X10_addGoblin hF hl hD ha hI.1 (by omega) hI.cL hy1)
theorem R_addBroom {D : va_G} {aC : Nat → ClassId} {s0 : State} {l : Launch} (hF : m_F D aC s0) (hl : l.stackTraces = false) {fo : Nat → Nat} {ks vs : Nat → Nat} {fA sA dO dT : Nat} (hJ : m_J s0 fo ks vs fA sA dO dT) {sa va : Nat} (hN : m_NM s0 sa va) {a : Nat} {W : gW} {M : m_M} {K th : Int} (hD : mIn a th W M) (ha : s0.heap.size ≤ a) (hI : lI K W) (hK : K ≤ 77000000) (htx : ∀ i : Nat, 0 ≤ W.2.2.2.2.1.getD i 0 ∧ W.2.2.2.2.1.getD i 0 < 128) (hot : ∀ i : Nat, 0 ≤ W.2.2.2.2.2.getD i 0 ∧ W.2.2.2.2.2.getD i 0 < 128) {y1 : Int} (hy1 : -2147483648 ≤ y1 ∧ y1 < 2147483648) : mU D aC s0 l a yX10_addBroom cX10_addBroom 2 (some .int) 8 [.ref a, VI y1] M (kS [-2, -3] (S_addBroom W.1 y1)) (kW (S_addBroom W.1 y1) W) := by
  exact mU.ch (t_X10_addBroom hF hl hD ha hI.1 (by omega) hI.cL hy1)
theorem R_banishBroom {D : va_G} {aC : Nat → ClassId} {s0 : State} {l : Launch} (hF : m_F D aC s0) (hl : l.stackTraces = false) {fo : Nat → Nat} {ks vs : Nat → Nat} {fA sA dO dT : Nat} (hJ : m_J s0 fo ks vs fA sA dO dT) {sa va : Nat} (hN : m_NM s0 sa va) {a : Nat} {W : gW} {M : m_M} {K th : Int} (hD : mIn a th W M) (ha : s0.heap.size ≤ a) (hI : lI K W) (hK : K ≤ 77000000) (htx : ∀ i : Nat, 0 ≤ W.2.2.2.2.1.getD i 0 ∧ W.2.2.2.2.1.getD i 0 < 128) (hot : ∀ i : Nat, 0 ≤ W.2.2.2.2.2.getD i 0 ∧ W.2.2.2.2.2.getD i 0 < 128) {y1 : Int} (hy1 : -2147483648 ≤ y1 ∧ y1 < 2147483648) : mU D aC s0 l a yX10_banishBroom cX10_banishBroom 2 (some .int) 8 [.ref a, VI y1] M (kS [-1, -3] (S_banish W.1 y1)) (kW (S_banish W.1 y1) W) := by
  exact mU.ch (t_X10_banishBroom hF hl hD ha hI.1 (by omega) hI.cL hy1)
theorem R_recallBroom {D : va_G} {aC : Nat → ClassId} {s0 : State} {l : Launch} (hF : m_F D aC s0) (hl : l.stackTraces = false) {fo : Nat → Nat} {ks vs : Nat → Nat} {fA sA dO dT : Nat} (hJ : m_J s0 fo ks vs fA sA dO dT) {sa va : Nat} (hN : m_NM s0 sa va) {a : Nat} {W : gW} {M : m_M} {K th : Int} (hD : mIn a th W M) (ha : s0.heap.size ≤ a) (hI : lI K W) (hK : K ≤ 77000000) (htx : ∀ i : Nat, 0 ≤ W.2.2.2.2.1.getD i 0 ∧ W.2.2.2.2.1.getD i 0 < 128) (hot : ∀ i : Nat, 0 ≤ W.2.2.2.2.2.getD i 0 ∧ W.2.2.2.2.2.getD i 0 < 128) {y1 : Int} (hy1 : -2147483648 ≤ y1 ∧ y1 < 2147483648) : mU D aC s0 l a yX10_recallBroom cX10_recallBroom 2 (some .int) 8 [.ref a, VI y1] M (kS [-1, -3] (S_recall W.1 y1)) (kW (S_recall W.1 y1) W) := by
  exact mU.ch (t_X10_recallBroom hF hl hD ha hI.1 (by omega) hI.cL hy1)
theorem R_hire {D : va_G} {aC : Nat → ClassId} {s0 : State} {l : Launch} (hF : m_F D aC s0) (hl : l.stackTraces = false) {fo : Nat → Nat} {ks vs : Nat → Nat} {fA sA dO dT : Nat} (hJ : m_J s0 fo ks vs fA sA dO dT) {sa va : Nat} (hN : m_NM s0 sa va) {a : Nat} {W : gW} {M : m_M} {K th : Int} (hD : mIn a th W M) (ha : s0.heap.size ≤ a) (hI : lI K W) (hK : K ≤ 77000000) (htx : ∀ i : Nat, 0 ≤ W.2.2.2.2.1.getD i 0 ∧ W.2.2.2.2.1.getD i 0 < 128) (hot : ∀ i : Nat, 0 ≤ W.2.2.2.2.2.getD i 0 ∧ W.2.2.2.2.2.getD i 0 < 128) {y1 : Int} (hy1 : -2147483648 ≤ y1 ∧ y1 < 2147483648) {y2 : Int} (hy2 : -2147483648 ≤ y2 ∧ y2 < 2147483648) {y3 : Int} (hy3 : -2147483648 ≤ y3 ∧ y3 < 2147483648) {y4 : Int} (hy4 : -2147483648 ≤ y4 ∧ y4 < 2147483648) : mU D aC s0 l a yX10_hire cX10_hire 5 (some .int) 8 [.ref a, VI y1, VI y2, VI y3, VI y4] M (kS [-1, -2, -3, -4] (S_hire W.1 y1 y2 y3 y4)) (kW (S_hire W.1 y1 y2 y3 y4) W) := by
  exact mU.ch (t_X10_hire hF hl hD ha hI.1 (by omega) hI.cL hy1 hy2 hy3 hy4)
theorem R_cancelContract {D : va_G} {aC : Nat → ClassId} {s0 : State} {l : Launch} (hF : m_F D aC s0) (hl : l.stackTraces = false) {fo : Nat → Nat} {ks vs : Nat → Nat} {fA sA dO dT : Nat} (hJ : m_J s0 fo ks vs fA sA dO dT) {sa va : Nat} (hN : m_NM s0 sa va) {a : Nat} {W : gW} {M : m_M} {K th : Int} (hD : mIn a th W M) (ha : s0.heap.size ≤ a) (hI : lI K W) (hK : K ≤ 77000000) (htx : ∀ i : Nat, 0 ≤ W.2.2.2.2.1.getD i 0 ∧ W.2.2.2.2.1.getD i 0 < 128) (hot : ∀ i : Nat, 0 ≤ W.2.2.2.2.2.getD i 0 ∧ W.2.2.2.2.2.getD i 0 < 128) {y1 : Int} (hy1 : -2147483648 ≤ y1 ∧ y1 < 2147483648) : mU D aC s0 l a yX10_cancelContract cX10_cancelContract 2 (some .int) 8 [.ref a, VI y1] M (kS [-5] (S_cancel W.1 y1)) (kW (S_cancel W.1 y1) W) := by
  exact mU.ch (t_X10_cancelContract hF hl hD ha hI.1 (by omega) hI.cL hy1)
theorem R_rest {D : va_G} {aC : Nat → ClassId} {s0 : State} {l : Launch} (hF : m_F D aC s0) (hl : l.stackTraces = false) {fo : Nat → Nat} {ks vs : Nat → Nat} {fA sA dO dT : Nat} (hJ : m_J s0 fo ks vs fA sA dO dT) {sa va : Nat} (hN : m_NM s0 sa va) {a : Nat} {W : gW} {M : m_M} {K th : Int} (hD : mIn a th W M) (ha : s0.heap.size ≤ a) (hI : lI K W) (hK : K ≤ 77000000) (htx : ∀ i : Nat, 0 ≤ W.2.2.2.2.1.getD i 0 ∧ W.2.2.2.2.1.getD i 0 < 128) (hot : ∀ i : Nat, 0 ≤ W.2.2.2.2.2.getD i 0 ∧ W.2.2.2.2.2.getD i 0 < 128) {y1 : Int} (hy1 : -2147483648 ≤ y1 ∧ y1 < 2147483648) : mU D aC s0 l a yX10_rest cX10_rest 2 (some .int) 8 [.ref a, VI y1] M (kS [-1, -3] (S_rest W.1 y1)) (kW (S_rest W.1 y1) W) := by
  exact mU.ch (t_X10_rest hF hl hD ha hI.1 (by omega) hI.cL hy1)
theorem R_wake {D : va_G} {aC : Nat → ClassId} {s0 : State} {l : Launch} (hF : m_F D aC s0) (hl : l.stackTraces = false) {fo : Nat → Nat} {ks vs : Nat → Nat} {fA sA dO dT : Nat} (hJ : m_J s0 fo ks vs fA sA dO dT) {sa va : Nat} (hN : m_NM s0 sa va) {a : Nat} {W : gW} {M : m_M} {K th : Int} (hD : mIn a th W M) (ha : s0.heap.size ≤ a) (hI : lI K W) (hK : K ≤ 77000000) (htx : ∀ i : Nat, 0 ≤ W.2.2.2.2.1.getD i 0 ∧ W.2.2.2.2.1.getD i 0 < 128) (hot : ∀ i : Nat, 0 ≤ W.2.2.2.2.2.getD i 0 ∧ W.2.2.2.2.2.getD i 0 < 128) {y1 : Int} (hy1 : -2147483648 ≤ y1 ∧ y1 < 2147483648) : mU D aC s0 l a yX10_wake cX10_wake 2 (some .int) 8 [.ref a, VI y1] M (kS [-1, -3] (S_wake W.1 y1)) (kW (S_wake W.1 y1) W) := by
  exact mU.ch (t_X10_wake hF hl hD ha hI.1 (by omega) hI.cL hy1)
theorem R_lend {D : va_G} {aC : Nat → ClassId} {s0 : State} {l : Launch} (hF : m_F D aC s0) (hl : l.stackTraces = false) {fo : Nat → Nat} {ks vs : Nat → Nat} {fA sA dO dT : Nat} (hJ : m_J s0 fo ks vs fA sA dO dT) {sa va : Nat} (hN : m_NM s0 sa va) {a : Nat} {W : gW} {M : m_M} {K th : Int} (hD : mIn a th W M) (ha : s0.heap.size ≤ a) (hI : lI K W) (hK : K ≤ 77000000) (htx : ∀ i : Nat, 0 ≤ W.2.2.2.2.1.getD i 0 ∧ W.2.2.2.2.1.getD i 0 < 128) (hot : ∀ i : Nat, 0 ≤ W.2.2.2.2.2.getD i 0 ∧ W.2.2.2.2.2.getD i 0 < 128) {y1 : Int} (hy1 : -2147483648 ≤ y1 ∧ y1 < 2147483648) {y2 : Int} (hy2 : -2147483648 ≤ y2 ∧ y2 < 2147483648) : mU D aC s0 l a yX10_lend cX10_lend 3 (some .int) 8 [.ref a, VI y1, VI y2] M (kS [-1, -2, -4] (S_lend W.1 y1 y2)) (kW (S_lend W.1 y1 y2) W) := by
  exact mU.ch (t_X10_lend hF hl hD ha hI.1 (by omega) hI.cL hy1 hy2)
theorem R_fund {D : va_G} {aC : Nat → ClassId} {s0 : State} {l : Launch} (hF : m_F D aC s0) (hl : l.stackTraces = false) {fo : Nat → Nat} {ks vs : Nat → Nat} {fA sA dO dT : Nat} (hJ : m_J s0 fo ks vs fA sA dO dT) {sa va : Nat} (hN : m_NM s0 sa va) {a : Nat} {W : gW} {M : m_M} {K th : Int} (hD : mIn a th W M) (ha : s0.heap.size ≤ a) (hI : lI K W) (hK : K ≤ 77000000) (htx : ∀ i : Nat, 0 ≤ W.2.2.2.2.1.getD i 0 ∧ W.2.2.2.2.1.getD i 0 < 128) (hot : ∀ i : Nat, 0 ≤ W.2.2.2.2.2.getD i 0 ∧ W.2.2.2.2.2.getD i 0 < 128) {y1 : Int} (hy1 : -2147483648 ≤ y1 ∧ y1 < 2147483648) : mU D aC s0 l a yX10_fund cX10_fund 2 (some .int) 8 [.ref a, VI y1] M (kS [-2] (S_fund W.1 y1)) (kW (S_fund W.1 y1) W) := by
  exact mU.ch (t_X10_fund hF hl hD ha hI.1 (by omega) hI.cL hy1)
theorem R_spend {D : va_G} {aC : Nat → ClassId} {s0 : State} {l : Launch} (hF : m_F D aC s0) (hl : l.stackTraces = false) {fo : Nat → Nat} {ks vs : Nat → Nat} {fA sA dO dT : Nat} (hJ : m_J s0 fo ks vs fA sA dO dT) {sa va : Nat} (hN : m_NM s0 sa va) {a : Nat} {W : gW} {M : m_M} {K th : Int} (hD : mIn a th W M) (ha : s0.heap.size ≤ a) (hI : lI K W) (hK : K ≤ 77000000) (htx : ∀ i : Nat, 0 ≤ W.2.2.2.2.1.getD i 0 ∧ W.2.2.2.2.1.getD i 0 < 128) (hot : ∀ i : Nat, 0 ≤ W.2.2.2.2.2.getD i 0 ∧ W.2.2.2.2.2.getD i 0 < 128) {y1 : Int} (hy1 : -2147483648 ≤ y1 ∧ y1 < 2147483648) : mU D aC s0 l a yX10_spend cX10_spend 2 (some .int) 8 [.ref a, VI y1] M (kS [-2, -4] (S_spend W.1 y1)) (kW (S_spend W.1 y1) W) := by
  exact mU.ch (t_X10_spend hF hl hD ha hI.1 (by omega) hI.cL hy1)
theorem R_passNights {D : va_G} {aC : Nat → ClassId} {s0 : State} {l : Launch} (hF : m_F D aC s0) (hl : l.stackTraces = false) {fo : Nat → Nat} {ks vs : Nat → Nat} {fA sA dO dT : Nat} (hJ : m_J s0 fo ks vs fA sA dO dT) {sa va : Nat} (hN : m_NM s0 sa va) {a : Nat} {W : gW} {M : m_M} {K th : Int} (hD : mIn a th W M) (ha : s0.heap.size ≤ a) (hI : lI K W) (hK : K ≤ 77000000) (htx : ∀ i : Nat, 0 ≤ W.2.2.2.2.1.getD i 0 ∧ W.2.2.2.2.1.getD i 0 < 128) (hot : ∀ i : Nat, 0 ≤ W.2.2.2.2.2.getD i 0 ∧ W.2.2.2.2.2.getD i 0 < 128) {y1 : Int} (hy1 : -2147483648 ≤ y1 ∧ y1 < 2147483648) : mU D aC s0 l a yX10_passNights cX10_passNights 2 (some .int) 8 [.ref a, VI y1] M (kS [-2] (S_pass W.1 y1)) (kW (S_pass W.1 y1) W) := by
  exact mU.ch (t_X10_passNights hF hl hD ha hI.1 (by omega) hI.cL hy1)
theorem R_dust {D : va_G} {aC : Nat → ClassId} {s0 : State} {l : Launch} (hF : m_F D aC s0) (hl : l.stackTraces = false) {fo : Nat → Nat} {ks vs : Nat → Nat} {fA sA dO dT : Nat} (hJ : m_J s0 fo ks vs fA sA dO dT) {sa va : Nat} (hN : m_NM s0 sa va) {a : Nat} {W : gW} {M : m_M} {K th : Int} (hD : mIn a th W M) (ha : s0.heap.size ≤ a) (hI : lI K W) (hK : K ≤ 77000000) (htx : ∀ i : Nat, 0 ≤ W.2.2.2.2.1.getD i 0 ∧ W.2.2.2.2.1.getD i 0 < 128) (hot : ∀ i : Nat, 0 ≤ W.2.2.2.2.2.getD i 0 ∧ W.2.2.2.2.2.getD i 0 < 128) {y1 : Int} (hy1 : -2147483648 ≤ y1 ∧ y1 < 2147483648) : mU D aC s0 l a yX10_dust cX10_dust 2 (some .int) 4 [.ref a, VI y1] M (G_dust W.1 y1) (W) := by
  obtain ⟨wd, hV, hW⟩ := hD
  exact mU.qu rfl hW (t_X10_dust hF hl hV ha (hI.B (by omega)) hy1)
theorem R_roomByDust {D : va_G} {aC : Nat → ClassId} {s0 : State} {l : Launch} (hF : m_F D aC s0) (hl : l.stackTraces = false) {fo : Nat → Nat} {ks vs : Nat → Nat} {fA sA dO dT : Nat} (hJ : m_J s0 fo ks vs fA sA dO dT) {sa va : Nat} (hN : m_NM s0 sa va) {a : Nat} {W : gW} {M : m_M} {K th : Int} (hD : mIn a th W M) (ha : s0.heap.size ≤ a) (hI : lI K W) (hK : K ≤ 77000000) (htx : ∀ i : Nat, 0 ≤ W.2.2.2.2.1.getD i 0 ∧ W.2.2.2.2.1.getD i 0 < 128) (hot : ∀ i : Nat, 0 ≤ W.2.2.2.2.2.getD i 0 ∧ W.2.2.2.2.2.getD i 0 < 128) {y1 : Int} (hy1 : -2147483648 ≤ y1 ∧ y1 < 2147483648) : mU D aC s0 l a yX10_roomByDust cX10_roomByDust 7 (some .int) 4 [.ref a, VI y1] M (G_rbd W.1 y1) (W) := by
  obtain ⟨wd, hV, hW⟩ := hD
  exact mU.qu rfl hW (t_X10_roomByDust hF hl hV ha (hI.B (by omega)) hy1)
theorem R_broomCount {D : va_G} {aC : Nat → ClassId} {s0 : State} {l : Launch} (hF : m_F D aC s0) (hl : l.stackTraces = false) {fo : Nat → Nat} {ks vs : Nat → Nat} {fA sA dO dT : Nat} (hJ : m_J s0 fo ks vs fA sA dO dT) {sa va : Nat} (hN : m_NM s0 sa va) {a : Nat} {W : gW} {M : m_M} {K th : Int} (hD : mIn a th W M) (ha : s0.heap.size ≤ a) (hI : lI K W) (hK : K ≤ 77000000) (htx : ∀ i : Nat, 0 ≤ W.2.2.2.2.1.getD i 0 ∧ W.2.2.2.2.1.getD i 0 < 128) (hot : ∀ i : Nat, 0 ≤ W.2.2.2.2.2.getD i 0 ∧ W.2.2.2.2.2.getD i 0 < 128)  : mU D aC s0 l a yX10_broomCount cX10_broomCount 1 (some .int) 0 [.ref a] M (((0 : Int), W.1 0 8)) (W) := by
  obtain ⟨wd, hV, hW⟩ := hD
  exact mU.qu rfl hW (t_X10_broomCount hF hl hV ha (hI.B (by omega)) )
theorem R_power {D : va_G} {aC : Nat → ClassId} {s0 : State} {l : Launch} (hF : m_F D aC s0) (hl : l.stackTraces = false) {fo : Nat → Nat} {ks vs : Nat → Nat} {fA sA dO dT : Nat} (hJ : m_J s0 fo ks vs fA sA dO dT) {sa va : Nat} (hN : m_NM s0 sa va) {a : Nat} {W : gW} {M : m_M} {K th : Int} (hD : mIn a th W M) (ha : s0.heap.size ≤ a) (hI : lI K W) (hK : K ≤ 77000000) (htx : ∀ i : Nat, 0 ≤ W.2.2.2.2.1.getD i 0 ∧ W.2.2.2.2.1.getD i 0 < 128) (hot : ∀ i : Nat, 0 ≤ W.2.2.2.2.2.getD i 0 ∧ W.2.2.2.2.2.getD i 0 < 128) {y1 : Int} (hy1 : -2147483648 ≤ y1 ∧ y1 < 2147483648) : mU D aC s0 l a yX10_power cX10_power 2 (some .int) 4 [.ref a, VI y1] M (G_bro W.1 2 y1) (W) := by
  obtain ⟨wd, hV, hW⟩ := hD
  exact mU.qu rfl hW (t_X10_power hF hl hV ha (hI.B (by omega)) hy1)
theorem R_isBanished {D : va_G} {aC : Nat → ClassId} {s0 : State} {l : Launch} (hF : m_F D aC s0) (hl : l.stackTraces = false) {fo : Nat → Nat} {ks vs : Nat → Nat} {fA sA dO dT : Nat} (hJ : m_J s0 fo ks vs fA sA dO dT) {sa va : Nat} (hN : m_NM s0 sa va) {a : Nat} {W : gW} {M : m_M} {K th : Int} (hD : mIn a th W M) (ha : s0.heap.size ≤ a) (hI : lI K W) (hK : K ≤ 77000000) (htx : ∀ i : Nat, 0 ≤ W.2.2.2.2.1.getD i 0 ∧ W.2.2.2.2.1.getD i 0 < 128) (hot : ∀ i : Nat, 0 ≤ W.2.2.2.2.2.getD i 0 ∧ W.2.2.2.2.2.getD i 0 < 128) {y1 : Int} (hy1 : -2147483648 ≤ y1 ∧ y1 < 2147483648) : mU D aC s0 l a yX10_isBanished cX10_isBanished 2 (some .boolean) 4 [.ref a, VI y1] M (G_bro W.1 3 y1) (W) := by
  obtain ⟨wd, hV, hW⟩ := hD
  exact mU.qu rfl hW (t_X10_isBanished hF hl hV ha (hI.B (by omega)) hy1)
theorem R_goblinCount {D : va_G} {aC : Nat → ClassId} {s0 : State} {l : Launch} (hF : m_F D aC s0) (hl : l.stackTraces = false) {fo : Nat → Nat} {ks vs : Nat → Nat} {fA sA dO dT : Nat} (hJ : m_J s0 fo ks vs fA sA dO dT) {sa va : Nat} (hN : m_NM s0 sa va) {a : Nat} {W : gW} {M : m_M} {K th : Int} (hD : mIn a th W M) (ha : s0.heap.size ≤ a) (hI : lI K W) (hK : K ≤ 77000000) (htx : ∀ i : Nat, 0 ≤ W.2.2.2.2.1.getD i 0 ∧ W.2.2.2.2.1.getD i 0 < 128) (hot : ∀ i : Nat, 0 ≤ W.2.2.2.2.2.getD i 0 ∧ W.2.2.2.2.2.getD i 0 < 128)  : mU D aC s0 l a yX10_goblinCount cX10_goblinCount 1 (some .int) 0 [.ref a] M (((0 : Int), W.1 0 9)) (W) := by
  obtain ⟨wd, hV, hW⟩ := hD
  exact mU.qu rfl hW (t_X10_goblinCount hF hl hV ha (hI.B (by omega)) )
theorem R_strength {D : va_G} {aC : Nat → ClassId} {s0 : State} {l : Launch} (hF : m_F D aC s0) (hl : l.stackTraces = false) {fo : Nat → Nat} {ks vs : Nat → Nat} {fA sA dO dT : Nat} (hJ : m_J s0 fo ks vs fA sA dO dT) {sa va : Nat} (hN : m_NM s0 sa va) {a : Nat} {W : gW} {M : m_M} {K th : Int} (hD : mIn a th W M) (ha : s0.heap.size ≤ a) (hI : lI K W) (hK : K ≤ 77000000) (htx : ∀ i : Nat, 0 ≤ W.2.2.2.2.1.getD i 0 ∧ W.2.2.2.2.1.getD i 0 < 128) (hot : ∀ i : Nat, 0 ≤ W.2.2.2.2.2.getD i 0 ∧ W.2.2.2.2.2.getD i 0 < 128) {y1 : Int} (hy1 : -2147483648 ≤ y1 ∧ y1 < 2147483648) : mU D aC s0 l a yX10_strength cX10_strength 2 (some .int) 5 [.ref a, VI y1] M (G_gob W.1 4 y1) (W) := by
  obtain ⟨wd, hV, hW⟩ := hD
  exact mU.qu rfl hW (t_X10_strength hF hl hV ha (hI.B (by omega)) hy1)
theorem R_purse {D : va_G} {aC : Nat → ClassId} {s0 : State} {l : Launch} (hF : m_F D aC s0) (hl : l.stackTraces = false) {fo : Nat → Nat} {ks vs : Nat → Nat} {fA sA dO dT : Nat} (hJ : m_J s0 fo ks vs fA sA dO dT) {sa va : Nat} (hN : m_NM s0 sa va) {a : Nat} {W : gW} {M : m_M} {K th : Int} (hD : mIn a th W M) (ha : s0.heap.size ≤ a) (hI : lI K W) (hK : K ≤ 77000000) (htx : ∀ i : Nat, 0 ≤ W.2.2.2.2.1.getD i 0 ∧ W.2.2.2.2.1.getD i 0 < 128) (hot : ∀ i : Nat, 0 ≤ W.2.2.2.2.2.getD i 0 ∧ W.2.2.2.2.2.getD i 0 < 128) {y1 : Int} (hy1 : -2147483648 ≤ y1 ∧ y1 < 2147483648) : mU D aC s0 l a yX10_purse cX10_purse 2 (some .int) 5 [.ref a, VI y1] M (G_gob W.1 5 y1) (W) := by
  obtain ⟨wd, hV, hW⟩ := hD
  exact mU.qu rfl hW (t_X10_purse hF hl hV ha (hI.B (by omega)) hy1)
theorem R_debt {D : va_G} {aC : Nat → ClassId} {s0 : State} {l : Launch} (hF : m_F D aC s0) (hl : l.stackTraces = false) {fo : Nat → Nat} {ks vs : Nat → Nat} {fA sA dO dT : Nat} (hJ : m_J s0 fo ks vs fA sA dO dT) {sa va : Nat} (hN : m_NM s0 sa va) {a : Nat} {W : gW} {M : m_M} {K th : Int} (hD : mIn a th W M) (ha : s0.heap.size ≤ a) (hI : lI K W) (hK : K ≤ 77000000) (htx : ∀ i : Nat, 0 ≤ W.2.2.2.2.1.getD i 0 ∧ W.2.2.2.2.1.getD i 0 < 128) (hot : ∀ i : Nat, 0 ≤ W.2.2.2.2.2.getD i 0 ∧ W.2.2.2.2.2.getD i 0 < 128) {y1 : Int} (hy1 : -2147483648 ≤ y1 ∧ y1 < 2147483648) : mU D aC s0 l a yX10_debt cX10_debt 2 (some .int) 5 [.ref a, VI y1] M (G_gob W.1 6 y1) (W) := by
  obtain ⟨wd, hV, hW⟩ := hD
  exact mU.qu rfl hW (t_X10_debt hF hl hV ha (hI.B (by omega)) hy1)
theorem R_skippedNights {D : va_G} {aC : Nat → ClassId} {s0 : State} {l : Launch} (hF : m_F D aC s0) (hl : l.stackTraces = false) {fo : Nat → Nat} {ks vs : Nat → Nat} {fA sA dO dT : Nat} (hJ : m_J s0 fo ks vs fA sA dO dT) {sa va : Nat} (hN : m_NM s0 sa va) {a : Nat} {W : gW} {M : m_M} {K th : Int} (hD : mIn a th W M) (ha : s0.heap.size ≤ a) (hI : lI K W) (hK : K ≤ 77000000) (htx : ∀ i : Nat, 0 ≤ W.2.2.2.2.1.getD i 0 ∧ W.2.2.2.2.1.getD i 0 < 128) (hot : ∀ i : Nat, 0 ≤ W.2.2.2.2.2.getD i 0 ∧ W.2.2.2.2.2.getD i 0 < 128) {y1 : Int} (hy1 : -2147483648 ≤ y1 ∧ y1 < 2147483648) : mU D aC s0 l a yX10_skippedNights cX10_skippedNights 2 (some .int) 5 [.ref a, VI y1] M (G_gob W.1 7 y1) (W) := by
  obtain ⟨wd, hV, hW⟩ := hD
  exact mU.qu rfl hW (t_X10_skippedNights hF hl hV ha (hI.B (by omega)) hy1)
theorem R_isResting {D : va_G} {aC : Nat → ClassId} {s0 : State} {l : Launch} (hF : m_F D aC s0) (hl : l.stackTraces = false) {fo : Nat → Nat} {ks vs : Nat → Nat} {fA sA dO dT : Nat} (hJ : m_J s0 fo ks vs fA sA dO dT) {sa va : Nat} (hN : m_NM s0 sa va) {a : Nat} {W : gW} {M : m_M} {K th : Int} (hD : mIn a th W M) (ha : s0.heap.size ≤ a) (hI : lI K W) (hK : K ≤ 77000000) (htx : ∀ i : Nat, 0 ≤ W.2.2.2.2.1.getD i 0 ∧ W.2.2.2.2.1.getD i 0 < 128) (hot : ∀ i : Nat, 0 ≤ W.2.2.2.2.2.getD i 0 ∧ W.2.2.2.2.2.getD i 0 < 128) {y1 : Int} (hy1 : -2147483648 ≤ y1 ∧ y1 < 2147483648) : mU D aC s0 l a yX10_isResting cX10_isResting 2 (some .boolean) 5 [.ref a, VI y1] M (G_gob W.1 8 y1) (W) := by
  obtain ⟨wd, hV, hW⟩ := hD
  exact mU.qu rfl hW (t_X10_isResting hF hl hV ha (hI.B (by omega)) hy1)
theorem R_energy {D : va_G} {aC : Nat → ClassId} {s0 : State} {l : Launch} (hF : m_F D aC s0) (hl : l.stackTraces = false) {fo : Nat → Nat} {ks vs : Nat → Nat} {fA sA dO dT : Nat} (hJ : m_J s0 fo ks vs fA sA dO dT) {sa va : Nat} (hN : m_NM s0 sa va) {a : Nat} {W : gW} {M : m_M} {K th : Int} (hD : mIn a th W M) (ha : s0.heap.size ≤ a) (hI : lI K W) (hK : K ≤ 77000000) (htx : ∀ i : Nat, 0 ≤ W.2.2.2.2.1.getD i 0 ∧ W.2.2.2.2.1.getD i 0 < 128) (hot : ∀ i : Nat, 0 ≤ W.2.2.2.2.2.getD i 0 ∧ W.2.2.2.2.2.getD i 0 < 128) {y1 : Int} (hy1 : -2147483648 ≤ y1 ∧ y1 < 2147483648) : mU D aC s0 l a yX10_energy cX10_energy 2 (some .int) 5 [.ref a, VI y1] M (G_ene W.1 y1) (W) := by
  obtain ⟨wd, hV, hW⟩ := hD
  exact mU.qu rfl hW (t_X10_energy hF hl hV ha (hI.B (by omega)) hy1)
theorem R_goblinByWealth {D : va_G} {aC : Nat → ClassId} {s0 : State} {l : Launch} (hF : m_F D aC s0) (hl : l.stackTraces = false) {fo : Nat → Nat} {ks vs : Nat → Nat} {fA sA dO dT : Nat} (hJ : m_J s0 fo ks vs fA sA dO dT) {sa va : Nat} (hN : m_NM s0 sa va) {a : Nat} {W : gW} {M : m_M} {K th : Int} (hD : mIn a th W M) (ha : s0.heap.size ≤ a) (hI : lI K W) (hK : K ≤ 77000000) (htx : ∀ i : Nat, 0 ≤ W.2.2.2.2.1.getD i 0 ∧ W.2.2.2.2.1.getD i 0 < 128) (hot : ∀ i : Nat, 0 ≤ W.2.2.2.2.2.getD i 0 ∧ W.2.2.2.2.2.getD i 0 < 128) {y1 : Int} (hy1 : -2147483648 ≤ y1 ∧ y1 < 2147483648) : mU D aC s0 l a yX10_goblinByWealth cX10_goblinByWealth 8 (some .int) 4 [.ref a, VI y1] M (G_gbw W.1 y1) (W) := by
  obtain ⟨wd, hV, hW⟩ := hD
  exact mU.qu rfl hW (t_X10_goblinByWealth hF hl hV ha (hI.B (by omega)) hy1)
theorem R_bestWages {D : va_G} {aC : Nat → ClassId} {s0 : State} {l : Launch} (hF : m_F D aC s0) (hl : l.stackTraces = false) {fo : Nat → Nat} {ks vs : Nat → Nat} {fA sA dO dT : Nat} (hJ : m_J s0 fo ks vs fA sA dO dT) {sa va : Nat} (hN : m_NM s0 sa va) {a : Nat} {W : gW} {M : m_M} {K th : Int} (hD : mIn a th W M) (ha : s0.heap.size ≤ a) (hI : lI K W) (hK : K ≤ 77000000) (htx : ∀ i : Nat, 0 ≤ W.2.2.2.2.1.getD i 0 ∧ W.2.2.2.2.1.getD i 0 < 128) (hot : ∀ i : Nat, 0 ≤ W.2.2.2.2.2.getD i 0 ∧ W.2.2.2.2.2.getD i 0 < 128) {y1 : Int} (hy1 : -2147483648 ≤ y1 ∧ y1 < 2147483648) : mU D aC s0 l a yX10_bestWages cX10_bestWages 2 (some .int) 6 [.ref a, VI y1] M (G_best W.1 y1) (W) := by
  obtain ⟨wd, hV, hW⟩ := hD
  exact mU.qx rfl hW (t_X10_bestWages hF hl hV ha (hI.B (by omega)) hy1)
theorem R_bestWagesByTable {D : va_G} {aC : Nat → ClassId} {s0 : State} {l : Launch} (hF : m_F D aC s0) (hl : l.stackTraces = false) {fo : Nat → Nat} {ks vs : Nat → Nat} {fA sA dO dT : Nat} (hJ : m_J s0 fo ks vs fA sA dO dT) {sa va : Nat} (hN : m_NM s0 sa va) {a : Nat} {W : gW} {M : m_M} {K th : Int} (hD : mIn a th W M) (ha : s0.heap.size ≤ a) (hI : lI K W) (hK : K ≤ 77000000) (htx : ∀ i : Nat, 0 ≤ W.2.2.2.2.1.getD i 0 ∧ W.2.2.2.2.1.getD i 0 < 128) (hot : ∀ i : Nat, 0 ≤ W.2.2.2.2.2.getD i 0 ∧ W.2.2.2.2.2.getD i 0 < 128) {y1 : Int} (hy1 : -2147483648 ≤ y1 ∧ y1 < 2147483648) : mU D aC s0 l a yX10_bestWagesByTable cX10_bestWagesByTable 2 (some .int) 6 [.ref a, VI y1] M (G_best W.1 y1) (W) := by
  obtain ⟨wd, hV, hW⟩ := hD
  exact mU.qx rfl hW (t_X10_bestWagesByTable hF hl hV ha (hI.B (by omega)) hy1)
theorem R_openContracts {D : va_G} {aC : Nat → ClassId} {s0 : State} {l : Launch} (hF : m_F D aC s0) (hl : l.stackTraces = false) {fo : Nat → Nat} {ks vs : Nat → Nat} {fA sA dO dT : Nat} (hJ : m_J s0 fo ks vs fA sA dO dT) {sa va : Nat} (hN : m_NM s0 sa va) {a : Nat} {W : gW} {M : m_M} {K th : Int} (hD : mIn a th W M) (ha : s0.heap.size ≤ a) (hI : lI K W) (hK : K ≤ 77000000) (htx : ∀ i : Nat, 0 ≤ W.2.2.2.2.1.getD i 0 ∧ W.2.2.2.2.1.getD i 0 < 128) (hot : ∀ i : Nat, 0 ≤ W.2.2.2.2.2.getD i 0 ∧ W.2.2.2.2.2.getD i 0 < 128)  : mU D aC s0 l a yX10_openContracts cX10_openContracts 1 (some .int) 0 [.ref a] M (((0 : Int), W.1 0 11)) (W) := by
  obtain ⟨wd, hV, hW⟩ := hD
  exact mU.qu rfl hW (t_X10_openContracts hF hl hV ha (hI.B (by omega)) )
theorem R_contractAt {D : va_G} {aC : Nat → ClassId} {s0 : State} {l : Launch} (hF : m_F D aC s0) (hl : l.stackTraces = false) {fo : Nat → Nat} {ks vs : Nat → Nat} {fA sA dO dT : Nat} (hJ : m_J s0 fo ks vs fA sA dO dT) {sa va : Nat} (hN : m_NM s0 sa va) {a : Nat} {W : gW} {M : m_M} {K th : Int} (hD : mIn a th W M) (ha : s0.heap.size ≤ a) (hI : lI K W) (hK : K ≤ 77000000) (htx : ∀ i : Nat, 0 ≤ W.2.2.2.2.1.getD i 0 ∧ W.2.2.2.2.1.getD i 0 < 128) (hot : ∀ i : Nat, 0 ≤ W.2.2.2.2.2.getD i 0 ∧ W.2.2.2.2.2.getD i 0 < 128) {y1 : Int} (hy1 : -2147483648 ≤ y1 ∧ y1 < 2147483648) : mU D aC s0 l a yX10_contractAt cX10_contractAt 2 (some .int) 4 [.ref a, VI y1] M (G_cat W.1 y1) (W) := by
  obtain ⟨wd, hV, hW⟩ := hD
  exact mU.qu rfl hW (t_X10_contractAt hF hl hV ha (hI.B (by omega)) hy1)
theorem R_goblinOf {D : va_G} {aC : Nat → ClassId} {s0 : State} {l : Launch} (hF : m_F D aC s0) (hl : l.stackTraces = false) {fo : Nat → Nat} {ks vs : Nat → Nat} {fA sA dO dT : Nat} (hJ : m_J s0 fo ks vs fA sA dO dT) {sa va : Nat} (hN : m_NM s0 sa va) {a : Nat} {W : gW} {M : m_M} {K th : Int} (hD : mIn a th W M) (ha : s0.heap.size ≤ a) (hI : lI K W) (hK : K ≤ 77000000) (htx : ∀ i : Nat, 0 ≤ W.2.2.2.2.1.getD i 0 ∧ W.2.2.2.2.1.getD i 0 < 128) (hot : ∀ i : Nat, 0 ≤ W.2.2.2.2.2.getD i 0 ∧ W.2.2.2.2.2.getD i 0 < 128) {y1 : Int} (hy1 : -2147483648 ≤ y1 ∧ y1 < 2147483648) : mU D aC s0 l a yX10_goblinOf cX10_goblinOf 2 (some .int) 5 [.ref a, VI y1] M (G_con W.1 10 y1) (W) := by
  obtain ⟨wd, hV, hW⟩ := hD
  exact mU.qu rfl hW (t_X10_goblinOf hF hl hV ha (hI.B (by omega)) hy1 hI.1.2.2.2.1)
theorem R_roomOf {D : va_G} {aC : Nat → ClassId} {s0 : State} {l : Launch} (hF : m_F D aC s0) (hl : l.stackTraces = false) {fo : Nat → Nat} {ks vs : Nat → Nat} {fA sA dO dT : Nat} (hJ : m_J s0 fo ks vs fA sA dO dT) {sa va : Nat} (hN : m_NM s0 sa va) {a : Nat} {W : gW} {M : m_M} {K th : Int} (hD : mIn a th W M) (ha : s0.heap.size ≤ a) (hI : lI K W) (hK : K ≤ 77000000) (htx : ∀ i : Nat, 0 ≤ W.2.2.2.2.1.getD i 0 ∧ W.2.2.2.2.1.getD i 0 < 128) (hot : ∀ i : Nat, 0 ≤ W.2.2.2.2.2.getD i 0 ∧ W.2.2.2.2.2.getD i 0 < 128) {y1 : Int} (hy1 : -2147483648 ≤ y1 ∧ y1 < 2147483648) : mU D aC s0 l a yX10_roomOf cX10_roomOf 2 (some .int) 5 [.ref a, VI y1] M (G_con W.1 11 y1) (W) := by
  obtain ⟨wd, hV, hW⟩ := hD
  exact mU.qu rfl hW (t_X10_roomOf hF hl hV ha (hI.B (by omega)) hy1 hI.1.2.2.2.1)
theorem R_wage {D : va_G} {aC : Nat → ClassId} {s0 : State} {l : Launch} (hF : m_F D aC s0) (hl : l.stackTraces = false) {fo : Nat → Nat} {ks vs : Nat → Nat} {fA sA dO dT : Nat} (hJ : m_J s0 fo ks vs fA sA dO dT) {sa va : Nat} (hN : m_NM s0 sa va) {a : Nat} {W : gW} {M : m_M} {K th : Int} (hD : mIn a th W M) (ha : s0.heap.size ≤ a) (hI : lI K W) (hK : K ≤ 77000000) (htx : ∀ i : Nat, 0 ≤ W.2.2.2.2.1.getD i 0 ∧ W.2.2.2.2.1.getD i 0 < 128) (hot : ∀ i : Nat, 0 ≤ W.2.2.2.2.2.getD i 0 ∧ W.2.2.2.2.2.getD i 0 < 128) {y1 : Int} (hy1 : -2147483648 ≤ y1 ∧ y1 < 2147483648) : mU D aC s0 l a yX10_wage cX10_wage 2 (some .int) 5 [.ref a, VI y1] M (G_con W.1 12 y1) (W) := by
  obtain ⟨wd, hV, hW⟩ := hD
  exact mU.qu rfl hW (t_X10_wage hF hl hV ha (hI.B (by omega)) hy1 hI.1.2.2.2.1)
theorem R_effort {D : va_G} {aC : Nat → ClassId} {s0 : State} {l : Launch} (hF : m_F D aC s0) (hl : l.stackTraces = false) {fo : Nat → Nat} {ks vs : Nat → Nat} {fA sA dO dT : Nat} (hJ : m_J s0 fo ks vs fA sA dO dT) {sa va : Nat} (hN : m_NM s0 sa va) {a : Nat} {W : gW} {M : m_M} {K th : Int} (hD : mIn a th W M) (ha : s0.heap.size ≤ a) (hI : lI K W) (hK : K ≤ 77000000) (htx : ∀ i : Nat, 0 ≤ W.2.2.2.2.1.getD i 0 ∧ W.2.2.2.2.1.getD i 0 < 128) (hot : ∀ i : Nat, 0 ≤ W.2.2.2.2.2.getD i 0 ∧ W.2.2.2.2.2.getD i 0 < 128) {y1 : Int} (hy1 : -2147483648 ≤ y1 ∧ y1 < 2147483648) : mU D aC s0 l a yX10_effort cX10_effort 2 (some .int) 5 [.ref a, VI y1] M (G_con W.1 13 y1) (W) := by
  obtain ⟨wd, hV, hW⟩ := hD
  exact mU.qu rfl hW (t_X10_effort hF hl hV ha (hI.B (by omega)) hy1 hI.1.2.2.2.1)
theorem R_nightsUntilDone {D : va_G} {aC : Nat → ClassId} {s0 : State} {l : Launch} (hF : m_F D aC s0) (hl : l.stackTraces = false) {fo : Nat → Nat} {ks vs : Nat → Nat} {fA sA dO dT : Nat} (hJ : m_J s0 fo ks vs fA sA dO dT) {sa va : Nat} (hN : m_NM s0 sa va) {a : Nat} {W : gW} {M : m_M} {K th : Int} (hD : mIn a th W M) (ha : s0.heap.size ≤ a) (hI : lI K W) (hK : K ≤ 77000000) (htx : ∀ i : Nat, 0 ≤ W.2.2.2.2.1.getD i 0 ∧ W.2.2.2.2.1.getD i 0 < 128) (hot : ∀ i : Nat, 0 ≤ W.2.2.2.2.2.getD i 0 ∧ W.2.2.2.2.2.getD i 0 < 128) {y1 : Int} (hy1 : -2147483648 ≤ y1 ∧ y1 < 2147483648) : mU D aC s0 l a yX10_nightsUntilDone cX10_nightsUntilDone 8 (some .int) 7 [.ref a, VI y1] M (G_nud W.1 y1) (W) := by
  obtain ⟨wd, hV, hW⟩ := hD
  exact mU.qx rfl hW (t_X10_nightsUntilDone hF hl hV ha (hI.B (by omega)) hy1 hI.1 (by omega))
theorem R_chestAfter {D : va_G} {aC : Nat → ClassId} {s0 : State} {l : Launch} (hF : m_F D aC s0) (hl : l.stackTraces = false) {fo : Nat → Nat} {ks vs : Nat → Nat} {fA sA dO dT : Nat} (hJ : m_J s0 fo ks vs fA sA dO dT) {sa va : Nat} (hN : m_NM s0 sa va) {a : Nat} {W : gW} {M : m_M} {K th : Int} (hD : mIn a th W M) (ha : s0.heap.size ≤ a) (hI : lI K W) (hK : K ≤ 77000000) (htx : ∀ i : Nat, 0 ≤ W.2.2.2.2.1.getD i 0 ∧ W.2.2.2.2.1.getD i 0 < 128) (hot : ∀ i : Nat, 0 ≤ W.2.2.2.2.2.getD i 0 ∧ W.2.2.2.2.2.getD i 0 < 128) {y1 : Int} (hy1 : -2147483648 ≤ y1 ∧ y1 < 2147483648) : mU D aC s0 l a yX10_chestAfter cX10_chestAfter 2 (some .int) 8 [.ref a, VI y1] M (G_ca W.1 y1) (W) := by
  obtain ⟨wd, hV, hW⟩ := hD
  exact mU.qx rfl hW (t_X10_chestAfter hF hl hV ha (hI.B (by omega)) hy1 hI.1.1 (by omega))
theorem R_debtAfter {D : va_G} {aC : Nat → ClassId} {s0 : State} {l : Launch} (hF : m_F D aC s0) (hl : l.stackTraces = false) {fo : Nat → Nat} {ks vs : Nat → Nat} {fA sA dO dT : Nat} (hJ : m_J s0 fo ks vs fA sA dO dT) {sa va : Nat} (hN : m_NM s0 sa va) {a : Nat} {W : gW} {M : m_M} {K th : Int} (hD : mIn a th W M) (ha : s0.heap.size ≤ a) (hI : lI K W) (hK : K ≤ 77000000) (htx : ∀ i : Nat, 0 ≤ W.2.2.2.2.1.getD i 0 ∧ W.2.2.2.2.1.getD i 0 < 128) (hot : ∀ i : Nat, 0 ≤ W.2.2.2.2.2.getD i 0 ∧ W.2.2.2.2.2.getD i 0 < 128) {y1 : Int} (hy1 : -2147483648 ≤ y1 ∧ y1 < 2147483648) {y2 : Int} (hy2 : -2147483648 ≤ y2 ∧ y2 < 2147483648) : mU D aC s0 l a yX10_debtAfter cX10_debtAfter 3 (some .int) 8 [.ref a, VI y1, VI y2] M (G_da W.1 y1 y2) (W) := by
  obtain ⟨wd, hV, hW⟩ := hD
  exact mU.qx rfl hW (t_X10_debtAfter hF hl hV ha (hI.B (by omega)) hy1 hy2 hI.1.1 (by omega))
theorem R_night {D : va_G} {aC : Nat → ClassId} {s0 : State} {l : Launch} (hF : m_F D aC s0) (hl : l.stackTraces = false) {fo : Nat → Nat} {ks vs : Nat → Nat} {fA sA dO dT : Nat} (hJ : m_J s0 fo ks vs fA sA dO dT) {sa va : Nat} (hN : m_NM s0 sa va) {a : Nat} {W : gW} {M : m_M} {K th : Int} (hD : mIn a th W M) (ha : s0.heap.size ≤ a) (hI : lI K W) (hK : K ≤ 77000000) (htx : ∀ i : Nat, 0 ≤ W.2.2.2.2.1.getD i 0 ∧ W.2.2.2.2.1.getD i 0 < 128) (hot : ∀ i : Nat, 0 ≤ W.2.2.2.2.2.getD i 0 ∧ W.2.2.2.2.2.getD i 0 < 128)  : mU D aC s0 l a yX10_night cX10_night 1 (some .int) 1 [.ref a] M (((0 : Int), W.1 0 0)) (W) := by
  obtain ⟨wd, hV, hW⟩ := hD
  exact mU.qu rfl hW (t_X10_night hF hl hV ha (hI.B (by omega)) )
theorem R_chest {D : va_G} {aC : Nat → ClassId} {s0 : State} {l : Launch} (hF : m_F D aC s0) (hl : l.stackTraces = false) {fo : Nat → Nat} {ks vs : Nat → Nat} {fA sA dO dT : Nat} (hJ : m_J s0 fo ks vs fA sA dO dT) {sa va : Nat} (hN : m_NM s0 sa va) {a : Nat} {W : gW} {M : m_M} {K th : Int} (hD : mIn a th W M) (ha : s0.heap.size ≤ a) (hI : lI K W) (hK : K ≤ 77000000) (htx : ∀ i : Nat, 0 ≤ W.2.2.2.2.1.getD i 0 ∧ W.2.2.2.2.1.getD i 0 < 128) (hot : ∀ i : Nat, 0 ≤ W.2.2.2.2.2.getD i 0 ∧ W.2.2.2.2.2.getD i 0 < 128)  : mU D aC s0 l a yX10_chest cX10_chest 1 (some .int) 1 [.ref a] M (((0 : Int), W.1 0 1)) (W) := by
  obtain ⟨wd, hV, hW⟩ := hD
  exact mU.qu rfl hW (t_X10_chest hF hl hV ha (hI.B (by omega)) )
theorem R_allCrumbs {D : va_G} {aC : Nat → ClassId} {s0 : State} {l : Launch} (hF : m_F D aC s0) (hl : l.stackTraces = false) {fo : Nat → Nat} {ks vs : Nat → Nat} {fA sA dO dT : Nat} (hJ : m_J s0 fo ks vs fA sA dO dT) {sa va : Nat} (hN : m_NM s0 sa va) {a : Nat} {W : gW} {M : m_M} {K th : Int} (hD : mIn a th W M) (ha : s0.heap.size ≤ a) (hI : lI K W) (hK : K ≤ 77000000) (htx : ∀ i : Nat, 0 ≤ W.2.2.2.2.1.getD i 0 ∧ W.2.2.2.2.1.getD i 0 < 128) (hot : ∀ i : Nat, 0 ≤ W.2.2.2.2.2.getD i 0 ∧ W.2.2.2.2.2.getD i 0 < 128)  : mU D aC s0 l a yX10_allCrumbs cX10_allCrumbs 3 (some .int) 4 [.ref a] M (((0 : Int), W.1 0 1 + S_purses W.1)) (W) := by
  obtain ⟨wd, hV, hW⟩ := hD
  exact mU.qu rfl hW (t_X10_allCrumbs hF hl hV ha (hI.B (by omega)) )
theorem R_allCrumbsByAccounts {D : va_G} {aC : Nat → ClassId} {s0 : State} {l : Launch} (hF : m_F D aC s0) (hl : l.stackTraces = false) {fo : Nat → Nat} {ks vs : Nat → Nat} {fA sA dO dT : Nat} (hJ : m_J s0 fo ks vs fA sA dO dT) {sa va : Nat} (hN : m_NM s0 sa va) {a : Nat} {W : gW} {M : m_M} {K th : Int} (hD : mIn a th W M) (ha : s0.heap.size ≤ a) (hI : lI K W) (hK : K ≤ 77000000) (htx : ∀ i : Nat, 0 ≤ W.2.2.2.2.1.getD i 0 ∧ W.2.2.2.2.1.getD i 0 < 128) (hot : ∀ i : Nat, 0 ≤ W.2.2.2.2.2.getD i 0 ∧ W.2.2.2.2.2.getD i 0 < 128)  : mU D aC s0 l a yX10_allCrumbsByAccounts cX10_allCrumbsByAccounts 1 (some .int) 0 [.ref a] M (((0 : Int), 100 + W.1 0 2 - W.1 0 3)) (W) := by
  obtain ⟨wd, hV, hW⟩ := hD
  exact mU.qu rfl hW (t_X10_allCrumbsByAccounts hF hl hV ha (hI.B (by omega)) )
theorem R_doneTotal {D : va_G} {aC : Nat → ClassId} {s0 : State} {l : Launch} (hF : m_F D aC s0) (hl : l.stackTraces = false) {fo : Nat → Nat} {ks vs : Nat → Nat} {fA sA dO dT : Nat} (hJ : m_J s0 fo ks vs fA sA dO dT) {sa va : Nat} (hN : m_NM s0 sa va) {a : Nat} {W : gW} {M : m_M} {K th : Int} (hD : mIn a th W M) (ha : s0.heap.size ≤ a) (hI : lI K W) (hK : K ≤ 77000000) (htx : ∀ i : Nat, 0 ≤ W.2.2.2.2.1.getD i 0 ∧ W.2.2.2.2.1.getD i 0 < 128) (hot : ∀ i : Nat, 0 ≤ W.2.2.2.2.2.getD i 0 ∧ W.2.2.2.2.2.getD i 0 < 128)  : mU D aC s0 l a yX10_doneTotal cX10_doneTotal 1 (some .int) 1 [.ref a] M (((0 : Int), W.1 0 4)) (W) := by
  obtain ⟨wd, hV, hW⟩ := hD
  exact mU.qu rfl hW (t_X10_doneTotal hF hl hV ha (hI.B (by omega)) )
theorem R_brokenTotal {D : va_G} {aC : Nat → ClassId} {s0 : State} {l : Launch} (hF : m_F D aC s0) (hl : l.stackTraces = false) {fo : Nat → Nat} {ks vs : Nat → Nat} {fA sA dO dT : Nat} (hJ : m_J s0 fo ks vs fA sA dO dT) {sa va : Nat} (hN : m_NM s0 sa va) {a : Nat} {W : gW} {M : m_M} {K th : Int} (hD : mIn a th W M) (ha : s0.heap.size ≤ a) (hI : lI K W) (hK : K ≤ 77000000) (htx : ∀ i : Nat, 0 ≤ W.2.2.2.2.1.getD i 0 ∧ W.2.2.2.2.1.getD i 0 < 128) (hot : ∀ i : Nat, 0 ≤ W.2.2.2.2.2.getD i 0 ∧ W.2.2.2.2.2.getD i 0 < 128)  : mU D aC s0 l a yX10_brokenTotal cX10_brokenTotal 1 (some .int) 1 [.ref a] M (((0 : Int), W.1 0 5)) (W) := by
  obtain ⟨wd, hV, hW⟩ := hD
  exact mU.qu rfl hW (t_X10_brokenTotal hF hl hV ha (hI.B (by omega)) )
theorem R_unpaidTotal {D : va_G} {aC : Nat → ClassId} {s0 : State} {l : Launch} (hF : m_F D aC s0) (hl : l.stackTraces = false) {fo : Nat → Nat} {ks vs : Nat → Nat} {fA sA dO dT : Nat} (hJ : m_J s0 fo ks vs fA sA dO dT) {sa va : Nat} (hN : m_NM s0 sa va) {a : Nat} {W : gW} {M : m_M} {K th : Int} (hD : mIn a th W M) (ha : s0.heap.size ≤ a) (hI : lI K W) (hK : K ≤ 77000000) (htx : ∀ i : Nat, 0 ≤ W.2.2.2.2.1.getD i 0 ∧ W.2.2.2.2.1.getD i 0 < 128) (hot : ∀ i : Nat, 0 ≤ W.2.2.2.2.2.getD i 0 ∧ W.2.2.2.2.2.getD i 0 < 128)  : mU D aC s0 l a yX10_unpaidTotal cX10_unpaidTotal 1 (some .int) 1 [.ref a] M (((0 : Int), W.1 0 6)) (W) := by
  obtain ⟨wd, hV, hW⟩ := hD
  exact mU.qu rfl hW (t_X10_unpaidTotal hF hl hV ha (hI.B (by omega)) )
theorem R_interestTotal {D : va_G} {aC : Nat → ClassId} {s0 : State} {l : Launch} (hF : m_F D aC s0) (hl : l.stackTraces = false) {fo : Nat → Nat} {ks vs : Nat → Nat} {fA sA dO dT : Nat} (hJ : m_J s0 fo ks vs fA sA dO dT) {sa va : Nat} (hN : m_NM s0 sa va) {a : Nat} {W : gW} {M : m_M} {K th : Int} (hD : mIn a th W M) (ha : s0.heap.size ≤ a) (hI : lI K W) (hK : K ≤ 77000000) (htx : ∀ i : Nat, 0 ≤ W.2.2.2.2.1.getD i 0 ∧ W.2.2.2.2.1.getD i 0 < 128) (hot : ∀ i : Nat, 0 ≤ W.2.2.2.2.2.getD i 0 ∧ W.2.2.2.2.2.getD i 0 < 128)  : mU D aC s0 l a yX10_interestTotal cX10_interestTotal 1 (some .int) 1 [.ref a] M (((0 : Int), W.1 0 7)) (W) := by
  obtain ⟨wd, hV, hW⟩ := hD
  exact mU.qu rfl hW (t_X10_interestTotal hF hl hV ha (hI.B (by omega)) )
theorem R_isConsistent {D : va_G} {aC : Nat → ClassId} {s0 : State} {l : Launch} (hF : m_F D aC s0) (hl : l.stackTraces = false) {fo : Nat → Nat} {ks vs : Nat → Nat} {fA sA dO dT : Nat} (hJ : m_J s0 fo ks vs fA sA dO dT) {sa va : Nat} (hN : m_NM s0 sa va) {a : Nat} {W : gW} {M : m_M} {K th : Int} (hD : mIn a th W M) (ha : s0.heap.size ≤ a) (hI : lI K W) (hK : K ≤ 77000000) (htx : ∀ i : Nat, 0 ≤ W.2.2.2.2.1.getD i 0 ∧ W.2.2.2.2.1.getD i 0 < 128) (hot : ∀ i : Nat, 0 ≤ W.2.2.2.2.2.getD i 0 ∧ W.2.2.2.2.2.getD i 0 < 128)  : mU D aC s0 l a yX10_isConsistent cX10_isConsistent 1 (some .boolean) 0 [.ref a] M (((0 : Int), (1 : Int))) (W) := by
  obtain ⟨wd, hV, hW⟩ := hD
  exact mU.qu rfl hW (t_X10_isConsistent hF hl hV ha (hI.B (by omega)) )
theorem R_renderGoblin {D : va_G} {aC : Nat → ClassId} {s0 : State} {l : Launch} (hF : m_F D aC s0) (hl : l.stackTraces = false) {fo : Nat → Nat} {ks vs : Nat → Nat} {fA sA dO dT : Nat} (hJ : m_J s0 fo ks vs fA sA dO dT) {sa va : Nat} (hN : m_NM s0 sa va) {a : Nat} {W : gW} {M : m_M} {K th : Int} (hD : mIn a th W M) (ha : s0.heap.size ≤ a) (hI : lI K W) (hK : K ≤ 77000000) (htx : ∀ i : Nat, 0 ≤ W.2.2.2.2.1.getD i 0 ∧ W.2.2.2.2.1.getD i 0 < 128) (hot : ∀ i : Nat, 0 ≤ W.2.2.2.2.2.getD i 0 ∧ W.2.2.2.2.2.getD i 0 < 128) {y1 : Int} (hy1 : -2147483648 ≤ y1 ∧ y1 < 2147483648) : mU D aC s0 l a yX10_renderGoblin cX10_renderGoblin 3 (some .int) 4 [.ref a, VI y1] M (G_if (0 ≤ y1 ∧ y1 < W.1 0 9) ((R_gob W.1 y1).length : Int)) (if (G_if (0 ≤ y1 ∧ y1 < W.1 0 9) ((R_gob W.1 y1).length : Int)).1 = 0 then wOt W (R_gob W.1 y1) else W) := by
  obtain ⟨wd, hV, hW⟩ := hD
  refine m_Met.mono (t_X10_renderGoblin hF hl hV ha (hI.B (by omega)) hy1) (fun v M' h => ?_) (fun _ _ h => h)
  obtain ⟨h1, h2, h3⟩ := h
  by_cases c : 0 ≤ y1 ∧ y1 < W.1 0 9
  · obtain ⟨rfl, h5⟩ := h1 c
    rw [G_if.t c]
    exact ⟨_, rfl, fun _ => rfl, h5.W (hW.th 0), h3⟩
  · obtain ⟨rfl, h5⟩ := h2 c
    rw [G_if.f c]
    exact ⟨_, rfl, fun z => absurd z (by decide), md_th hW h5, h3⟩
theorem R_renderContracts {D : va_G} {aC : Nat → ClassId} {s0 : State} {l : Launch} (hF : m_F D aC s0) (hl : l.stackTraces = false) {fo : Nat → Nat} {ks vs : Nat → Nat} {fA sA dO dT : Nat} (hJ : m_J s0 fo ks vs fA sA dO dT) {sa va : Nat} (hN : m_NM s0 sa va) {a : Nat} {W : gW} {M : m_M} {K th : Int} (hD : mIn a th W M) (ha : s0.heap.size ≤ a) (hI : lI K W) (hK : K ≤ 77000000) (htx : ∀ i : Nat, 0 ≤ W.2.2.2.2.1.getD i 0 ∧ W.2.2.2.2.1.getD i 0 < 128) (hot : ∀ i : Nat, 0 ≤ W.2.2.2.2.2.getD i 0 ∧ W.2.2.2.2.2.getD i 0 < 128)  : mU D aC s0 l a yX10_renderContracts cX10_renderContracts 3 (some .int) 3 [.ref a] M (((0 : Int), ((R_con W.1 (W.1 0 11).toNat).length : Int))) (wOt W (R_con W.1 (W.1 0 11).toNat)) := by
  obtain ⟨wd, hV, hW⟩ := hD
  refine m_Met.mono (t_X10_renderContracts hF hl hV ha (hI.B (by omega))) (fun v M' h => ?_) (fun _ _ h => h)
  obtain ⟨rfl, h2, h3⟩ := h
  exact ⟨_, rfl, fun _ => rfl, h2.W (hW.th 0), h3⟩
theorem R_outputAt {D : va_G} {aC : Nat → ClassId} {s0 : State} {l : Launch} (hF : m_F D aC s0) (hl : l.stackTraces = false) {fo : Nat → Nat} {ks vs : Nat → Nat} {fA sA dO dT : Nat} (hJ : m_J s0 fo ks vs fA sA dO dT) {sa va : Nat} (hN : m_NM s0 sa va) {a : Nat} {W : gW} {M : m_M} {K th : Int} (hD : mIn a th W M) (ha : s0.heap.size ≤ a) (hI : lI K W) (hK : K ≤ 77000000) (htx : ∀ i : Nat, 0 ≤ W.2.2.2.2.1.getD i 0 ∧ W.2.2.2.2.1.getD i 0 < 128) (hot : ∀ i : Nat, 0 ≤ W.2.2.2.2.2.getD i 0 ∧ W.2.2.2.2.2.getD i 0 < 128) {y1 : Int} (hy1 : -2147483648 ≤ y1 ∧ y1 < 2147483648) : mU D aC s0 l a yX10_outputAt cX10_outputAt 2 (some .char) 2 [.ref a, VI y1] M (G_if (0 ≤ y1 ∧ y1 < (W.2.2.2.2.2.length : Int)) (W.2.2.2.2.2.getD y1.toNat 0)) (W) := by
  obtain ⟨wd, hV, hW⟩ := hD
  obtain ⟨eo, ho⟩ := hW.2.2.2.2.2.2.2
  have h9 := hI.2.2.2.2.2.2.2.2
  have hc : ∀ i : Int, 0 ≤ i → i < wd 0 13 → 0 ≤ wd 8 i ∧ wd 8 i < 128 := fun i i0 i1 => by
    have e := ho i.toNat (by omega)
    rw [show ((i.toNat : Nat) : Int) = i by omega] at e
    rw [e]
    exact hot _
  have h := t_X10_outputAt hF hl hV ha (hI.B (by omega)) hy1 (by omega) hc
  have er : G_if (0 ≤ y1 ∧ y1 < wd 0 13) (wd 8 y1) = G_if (0 ≤ y1 ∧ y1 < (W.2.2.2.2.2.length : Int)) (W.2.2.2.2.2.getD y1.toNat 0) := by
    unfold G_if
    rw [eo]
    by_cases c : 0 ≤ y1 ∧ y1 < (W.2.2.2.2.2.length : Int)
    · rw [if_pos c, if_pos c]
      have e := ho y1.toNat (by omega)
      rw [show ((y1.toNat : Nat) : Int) = y1 by omega] at e
      rw [e]
    · rw [if_neg c, if_neg c]
  rw [er] at h
  exact mU.qu rfl hW h
theorem R_type {D : va_G} {aC : Nat → ClassId} {s0 : State} {l : Launch} (hF : m_F D aC s0) (hl : l.stackTraces = false) {fo : Nat → Nat} {ks vs : Nat → Nat} {fA sA dO dT : Nat} (hJ : m_J s0 fo ks vs fA sA dO dT) {sa va : Nat} (hN : m_NM s0 sa va) {a : Nat} {W : gW} {M : m_M} {K th : Int} (hD : mIn a th W M) (ha : s0.heap.size ≤ a) (hI : lI K W) (hK : K ≤ 77000000) (htx : ∀ i : Nat, 0 ≤ W.2.2.2.2.1.getD i 0 ∧ W.2.2.2.2.1.getD i 0 < 128) (hot : ∀ i : Nat, 0 ≤ W.2.2.2.2.2.getD i 0 ∧ W.2.2.2.2.2.getD i 0 < 128) {y1 : Int} (hy1 : 0 ≤ y1 ∧ y1 < 65536) : mU D aC s0 l a yX10_type cX10_type 2 (some .int) 1 [.ref a, VI y1] M (rType W y1) (if (rType W y1).1 = 0 then wTx W (W.2.2.2.2.1 ++ [y1]) else W) := by
  obtain ⟨wd, hV, hW⟩ := hD
  have et := hW.2.2.2.2.2.2.1.1
  have h6 := hI.2.2.2.2.2.2.2.1
  refine m_Met.mono (t_X10_type hF hl hV ha (hI.B (by omega)) (x := y1) (by omega) (by omega)) (fun v M' h => ?_) (fun _ _ h => h)
  obtain ⟨h1, h2, h3⟩ := h
  by_cases c : 32 ≤ y1 ∧ y1 ≤ 126 ∧ wd 0 11 < 60
  · obtain ⟨rfl, h5⟩ := h1 c
    have er : rType W y1 = (0, (W.2.2.2.2.1.length : Int) + 1) := by
      unfold rType
      rw [if_neg (by omega), if_neg (by omega)]
    rw [er]
    exact ⟨_, rfl, fun _ => by rw [et], md_type hW h5, h3⟩
  · obtain ⟨rfl, h5⟩ := h2 c
    have er : rType W y1 = (if 32 ≤ y1 ∧ y1 ≤ 126 then 2 else 1, 0) := by
      unfold rType
      by_cases z : 32 ≤ y1 ∧ y1 ≤ 126
      · rw [if_neg (by omega), if_pos (by omega), if_pos z]
      · rw [if_pos (by omega), if_neg z]
    rw [er]
    have en : (if 32 ≤ y1 ∧ y1 ≤ 126 then (2 : Int) else 1) ≠ 0 := by split <;> decide
    refine ⟨_, rfl, fun z => absurd z en, ?_, h3⟩
    dsimp only
    rw [if_neg en]
    exact md_th hW h5
theorem R_runScript {D : va_G} {aC : Nat → ClassId} {s0 : State} {l : Launch} (hF : m_F D aC s0) (hl : l.stackTraces = false) {fo : Nat → Nat} {ks vs : Nat → Nat} {fA sA dO dT : Nat} (hJ : m_J s0 fo ks vs fA sA dO dT) {sa va : Nat} (hN : m_NM s0 sa va) {a : Nat} {W : gW} {M : m_M} {K th : Int} (hD : mIn a th W M) (ha : s0.heap.size ≤ a) (hI : lI K W) (hK : K ≤ 77000000) (htx : ∀ i : Nat, 0 ≤ W.2.2.2.2.1.getD i 0 ∧ W.2.2.2.2.1.getD i 0 < 128) (hot : ∀ i : Nat, 0 ≤ W.2.2.2.2.2.getD i 0 ∧ W.2.2.2.2.2.getD i 0 < 128)  : mU D aC s0 l a yX10_runScript cX10_runScript 3 (some .int) 12 [.ref a] M (rRun W) (wRun W) := by
  refine m_Met.mono (t_X10_runScript hF hl hD ha hI.1 (by omega) hI.cL hI.2.2.2.2.2.2.2.1 htx hJ hN) (fun v M' h => ?_) (fun _ _ h => h)
  obtain ⟨h, h3⟩ := h
  rcases h with ⟨h1, rfl, h5⟩ | ⟨h1, h2, rfl, h5⟩ | ⟨h1, h2, rfl, h5⟩
  · have e1 : (rsc W).1 = false := h1
    have er : rRun W = (1, 0) := if_pos e1
    have ew : wRun W = (W.1, W.2.1, W.2.2.1, m_ug W.2.2.2.1 2 (rsc W).2.1, [], W.2.2.2.2.2) := if_pos e1
    rw [er, ew]
    exact ⟨_, rfl, fun z => absurd z (by decide), h5, h3⟩
  · have e1 : (rsc W).1 = true := h1
    have e2 : (S_runs (rsc W).2.2 0 W.1).1 ≠ -1 := h2
    have er : rRun W = (2, 0) := by
      unfold rRun
      rw [if_neg (by rw [e1]; decide), if_pos e2]
    have ew : wRun W = (W.1, W.2.1, W.2.2.1, m_ug W.2.2.2.1 3 (S_runs (rsc W).2.2 0 W.1).1, [], W.2.2.2.2.2) := by
      unfold wRun
      rw [if_neg (by rw [e1]; decide), if_pos e2]
    rw [er, ew]
    exact ⟨_, rfl, fun z => absurd z (by decide), h5, h3⟩
  · have e1 : (rsc W).1 = true := h1
    have e2 : (S_runs (rsc W).2.2 0 W.1).1 = -1 := h2
    have er : rRun W = (0, ((rsc W).2.2.length : Int)) := by
      unfold rRun
      rw [if_neg (by rw [e1]; decide), if_neg (by rw [e2]; decide)]
    have ew : wRun W = ((S_runs (rsc W).2.2 0 W.1).2, W.2.1, c_L (W.2.2.2.1 0) W.1 W.2.2.1, c_q W.2.2.2.1, [], W.2.2.2.2.2) := by
      unfold wRun
      rw [if_neg (by rw [e1]; decide), if_neg (by rw [e2]; decide)]
    rw [er, ew]
    exact ⟨_, rfl, fun _ => rfl, h5, h3⟩
theorem R_errorPosition {D : va_G} {aC : Nat → ClassId} {s0 : State} {l : Launch} (hF : m_F D aC s0) (hl : l.stackTraces = false) {fo : Nat → Nat} {ks vs : Nat → Nat} {fA sA dO dT : Nat} (hJ : m_J s0 fo ks vs fA sA dO dT) {sa va : Nat} (hN : m_NM s0 sa va) {a : Nat} {W : gW} {M : m_M} {K th : Int} (hD : mIn a th W M) (ha : s0.heap.size ≤ a) (hI : lI K W) (hK : K ≤ 77000000) (htx : ∀ i : Nat, 0 ≤ W.2.2.2.2.1.getD i 0 ∧ W.2.2.2.2.1.getD i 0 < 128) (hot : ∀ i : Nat, 0 ≤ W.2.2.2.2.2.getD i 0 ∧ W.2.2.2.2.2.getD i 0 < 128)  : mU D aC s0 l a yX10_errorPosition cX10_errorPosition 1 (some .int) 2 [.ref a] M (G_if (W.2.2.2.1 2 ≠ -1) (W.2.2.2.1 2)) (W) := by
  obtain ⟨wd, hV, hW⟩ := hD
  have e : wd 0 7 = W.2.2.2.1 2 := hW.2.1.2.2.1
  have h := t_X10_errorPosition hF hl hV ha (hI.B (by omega)) (by rw [e]; exact hI.2.2.2.2.2.1)
  rw [e] at h
  exact mU.qu rfl hW h
theorem R_failedCommand {D : va_G} {aC : Nat → ClassId} {s0 : State} {l : Launch} (hF : m_F D aC s0) (hl : l.stackTraces = false) {fo : Nat → Nat} {ks vs : Nat → Nat} {fA sA dO dT : Nat} (hJ : m_J s0 fo ks vs fA sA dO dT) {sa va : Nat} (hN : m_NM s0 sa va) {a : Nat} {W : gW} {M : m_M} {K th : Int} (hD : mIn a th W M) (ha : s0.heap.size ≤ a) (hI : lI K W) (hK : K ≤ 77000000) (htx : ∀ i : Nat, 0 ≤ W.2.2.2.2.1.getD i 0 ∧ W.2.2.2.2.1.getD i 0 < 128) (hot : ∀ i : Nat, 0 ≤ W.2.2.2.2.2.getD i 0 ∧ W.2.2.2.2.2.getD i 0 < 128)  : mU D aC s0 l a yX10_failedCommand cX10_failedCommand 1 (some .int) 2 [.ref a] M (G_if (W.2.2.2.1 3 ≠ -1) (W.2.2.2.1 3)) (W) := by
  obtain ⟨wd, hV, hW⟩ := hD
  have e : wd 0 8 = W.2.2.2.1 3 := hW.2.1.2.2.2
  have h := t_X10_failedCommand hF hl hV ha (hI.B (by omega)) (by rw [e]; exact hI.2.2.2.2.2.2.1)
  rw [e] at h
  exact mU.qu rfl hW h
theorem R_undo {D : va_G} {aC : Nat → ClassId} {s0 : State} {l : Launch} (hF : m_F D aC s0) (hl : l.stackTraces = false) {fo : Nat → Nat} {ks vs : Nat → Nat} {fA sA dO dT : Nat} (hJ : m_J s0 fo ks vs fA sA dO dT) {sa va : Nat} (hN : m_NM s0 sa va) {a : Nat} {W : gW} {M : m_M} {K th : Int} (hD : mIn a th W M) (ha : s0.heap.size ≤ a) (hI : lI K W) (hK : K ≤ 77000000) (htx : ∀ i : Nat, 0 ≤ W.2.2.2.2.1.getD i 0 ∧ W.2.2.2.2.1.getD i 0 < 128) (hot : ∀ i : Nat, 0 ≤ W.2.2.2.2.2.getD i 0 ∧ W.2.2.2.2.2.getD i 0 < 128)  : mU D aC s0 l a yX10_undo cX10_undo 1 (some .int) 2 [.ref a] M (rUndo W) (if (rUndo W).1 = 0 then wUndo W else W) := by
  obtain ⟨wd, hV, hW⟩ := hD
  have e6 := hW.2.1.1
  have hq := hI.q0
  have hgl := md_hgl hW hI.cL
  refine m_Met.mono (t_X10_undo hF hl hV ha (hI.B (by omega)) (by omega) hgl) (fun v M' h => ?_) (fun _ _ h => h)
  rcases h with ⟨⟨c, rfl, h5⟩ | ⟨c, rfl, h5⟩, h3⟩
  · have er : rUndo W = (1, 0) := G_if.f (by omega)
    rw [er]
    exact ⟨_, rfl, fun z => absurd z (by decide), md_th hW h5, h3⟩
  · have er : rUndo W = (0, W.2.2.2.1 0 - 1) := G_if.t (by omega)
    rw [er]
    exact ⟨_, rfl, fun _ => by rw [e6], md_undo hW (by omega) h5, h3⟩
theorem R_save {D : va_G} {aC : Nat → ClassId} {s0 : State} {l : Launch} (hF : m_F D aC s0) (hl : l.stackTraces = false) {fo : Nat → Nat} {ks vs : Nat → Nat} {fA sA dO dT : Nat} (hJ : m_J s0 fo ks vs fA sA dO dT) {sa va : Nat} (hN : m_NM s0 sa va) {a : Nat} {W : gW} {M : m_M} {K th : Int} (hD : mIn a th W M) (ha : s0.heap.size ≤ a) (hI : lI K W) (hK : K ≤ 77000000) (htx : ∀ i : Nat, 0 ≤ W.2.2.2.2.1.getD i 0 ∧ W.2.2.2.2.1.getD i 0 < 128) (hot : ∀ i : Nat, 0 ≤ W.2.2.2.2.2.getD i 0 ∧ W.2.2.2.2.2.getD i 0 < 128)  : mU D aC s0 l a yX10_save cX10_save 1 (some .int) 1 [.ref a] M (((0 : Int), W.1 0 11)) (wSave W) := by
  obtain ⟨wd, hV, hW⟩ := hD
  refine m_Met.mono (t_X10_save hF hl hV ha (hI.B (by omega))) (fun v M' h => ?_) (fun _ _ h => h)
  obtain ⟨rfl, ⟨B9, hB9, h5⟩, h3⟩ := h
  exact ⟨_, rfl, fun _ => rfl, md_save hW hB9 h5, h3⟩
theorem R_restore {D : va_G} {aC : Nat → ClassId} {s0 : State} {l : Launch} (hF : m_F D aC s0) (hl : l.stackTraces = false) {fo : Nat → Nat} {ks vs : Nat → Nat} {fA sA dO dT : Nat} (hJ : m_J s0 fo ks vs fA sA dO dT) {sa va : Nat} (hN : m_NM s0 sa va) {a : Nat} {W : gW} {M : m_M} {K th : Int} (hD : mIn a th W M) (ha : s0.heap.size ≤ a) (hI : lI K W) (hK : K ≤ 77000000) (htx : ∀ i : Nat, 0 ≤ W.2.2.2.2.1.getD i 0 ∧ W.2.2.2.2.1.getD i 0 < 128) (hot : ∀ i : Nat, 0 ≤ W.2.2.2.2.2.getD i 0 ∧ W.2.2.2.2.2.getD i 0 < 128)  : mU D aC s0 l a yX10_restore cX10_restore 1 (some .int) 2 [.ref a] M (rRes W) (if (rRes W).1 = 0 then wRes W else W) := by
  obtain ⟨wd, hV, hW⟩ := hD
  have e5 := hW.2.1.2.1
  refine m_Met.mono (t_X10_restore hF hl hV ha (hI.B (by omega)) (gl := W.2.1) (by rw [e5]; exact hI.2.2.2.2.1) (fun z => ⟨hW.2.2.2.2.1 (by rw [← e5]; exact z), ?_⟩)) (fun v M' h => ?_) (fun _ _ h => h)
  · have h9 := (hI.2.1 (by rw [← e5]; exact z)).1
    exact ⟨h9.n8.2, h9.n9.2, h9.n11.2⟩
  · rcases h with ⟨⟨c, rfl, h5⟩ | ⟨c, rfl, h5⟩, h3⟩
    · have er : rRes W = (1, 0) := G_if.f (by omega)
      rw [er]
      exact ⟨_, rfl, fun z => absurd z (by decide), md_th hW h5, h3⟩
    · have er : rRes W = (0, W.2.1 0 11) := G_if.t (by omega)
      rw [er]
      exact ⟨_, rfl, fun _ => rfl, md_res hW h5, h3⟩
