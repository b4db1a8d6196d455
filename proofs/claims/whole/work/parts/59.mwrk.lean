def S_dm (g : h_T) (x p : Int) : h_T := S_del (S_pay (S_sweep g p) x (g 12 p)) p
def S_wm (x : Int) : Nat → h_T → Int → h_T
  | 0, g, _ => g
  | n + 1, g, e => if S_first g x = -1 ∨ e < g 13 (S_first g x) then g else S_wm x n (S_dm g x (S_first g x)) (e - g 13 (S_first g x))
def S_wc (x : Int) : Nat → h_T → Int → Int
  | 0, _, _ => 0
  | n + 1, g, e => if S_first g x = -1 ∨ e < g 13 (S_first g x) then 0 else S_wc x n (S_dm g x (S_first g x)) (e - g 13 (S_first g x)) + 1
theorem S_wm_0 {x : Int} {n : Nat} {g : h_T} {e : Int} (h : S_first g x = -1 ∨ e < g 13 (S_first g x)) : S_wm x n g e = g ∧ S_wc x n g e = 0 := by
  cases n with
  | zero => exact ⟨rfl, rfl⟩
  | succ n => exact ⟨if_pos h, if_pos h⟩
theorem S_wm_1 {x : Int} {n : Nat} {g : h_T} {e k : Int} (hf : S_first g x = k) (hk : 0 ≤ k) (he : g 13 k ≤ e) (hn : 0 < n) : S_wm x n g e = S_wm x (n - 1) (S_dm g x k) (e - g 13 k) ∧ S_wc x n g e = S_wc x (n - 1) (S_dm g x k) (e - g 13 k) + 1 := by
  cases n with
  | zero => omega
  | succ n =>
    subst hf
    exact ⟨if_neg (by omega), if_neg (by omega)⟩
theorem X_first0 {g : h_T} {x k : Int} (hb : ∀ j : Int, 0 ≤ j → j < k → g 10 j ≠ x) (hk : g 0 11 ≤ k) (h0 : 0 ≤ g 0 11) : S_first g x = -1 := by
  rcases S_first_rg (g := g) x h0 with h | ⟨h1, h2, h3⟩
  · exact h
  · exact absurd h3 (hb _ h1 (by omega))
theorem X_first1 {g : h_T} {x k : Int} (hb : ∀ j : Int, 0 ≤ j → j < k → g 10 j ≠ x) (hk : 0 ≤ k ∧ k < g 0 11) (hx : g 10 k = x) : S_first g x = k := by
  unfold S_first
  rcases h_find_rg (p := fun i => decide (g 10 i = x)) (g 0 11).toNat 0 (by omega) with h | ⟨h1, h2, h3, h4⟩
  · have := h_find_no (p := fun i => decide (g 10 i = x)) (g 0 11).toNat 0 h (by omega) k hk.1 (by omega)
    simp [hx] at this
  · have e3 : g 10 (h_find (fun i => decide (g 10 i = x)) (g 0 11).toNat 0) = x := of_decide_eq_true h3
    by_cases q : h_find (fun i => decide (g 10 i = x)) (g 0 11).toNat 0 < k
    · exact absurd e3 (hb _ h1 q)
    · by_cases q2 : k < h_find (fun i => decide (g 10 i = x)) (g 0 11).toNat 0
      · have := h4 k hk.1 q2
        simp [hx] at this
      · omega
theorem X_nb {g : h_T} {x k : Int} (hb : ∀ j : Int, 0 ≤ j → j < k → g 10 j ≠ x) (hc : g 10 k ≠ x) : ∀ j : Int, 0 ≤ j → j < k + 1 → g 10 j ≠ x := by
  intro j j0 j1
  by_cases z : j = k
  · rw [z]
    exact hc
  · exact hb j j0 (by omega)
theorem S_dm_c {g : h_T} {x p : Int} {c : Nat} (h : c = 2 ∨ c = 3 ∨ c = 4 ∨ c = 7 ∨ c = 8) : S_dm g x p c = g c := by
  funext j
  rcases h with rfl | rfl | rfl | rfl | rfl <;> simp [S_dm, S_del, S_pay, S_sweep, hs_at]
theorem S_dm_n {g : h_T} {x p k : Int} (hk : k ≠ 6 ∧ k ≠ 1) : S_dm g x p 0 k = if k = 11 then g 0 11 - 1 else g 0 k := by
  unfold S_dm S_del
  rw [if_neg (by omega)]
  by_cases q : k = 11
  · rw [if_pos ⟨rfl, q⟩, if_pos q, S_pay_n (by decide)]
    rfl
  · rw [if_neg (fun z => q z.2), if_neg q, S_pay_n hk]
    rfl
theorem S_great_dm {g : h_T} {x p : Int} : S_great (S_dm g x p) = S_great g := by
  unfold S_great
  rw [S_dm_c (c := 3) (by decide), S_dm_c (c := 2) (by decide), S_dm_n (by decide), if_neg (by decide)]
theorem h_BK.dm {K : Int} {g : h_T} (h : h_BK K g) {x p : Int} (hx : 0 ≤ x ∧ x < g 0 9) (hp : 0 ≤ p ∧ p < g 0 11) : h_BK (K + 50) (S_dm g x p) := by
  have hco := h.co hp
  have h1 := h.sweep hp h.great.1
  have h2 := h1.pay (x := x) (w := g 12 p) hx (by omega)
  exact h2.del (p := p) (by rw [S_pay_n (by decide)]; exact hp)
theorem S_sweep_9 {g : h_T} {p : Int} : S_sweep g p 0 9 = g 0 9 := rfl
theorem X_d11 {g : h_T} {x p : Int} : S_dm g x p 0 11 = g 0 11 - 1 := by rw [S_dm_n (by decide), if_pos rfl]
theorem X_dl {g : h_T} {x p j : Int} (h : j < p) : S_dm g x p 10 j = g 10 j := by
  unfold S_dm S_del
  rw [if_pos (by decide), if_pos h]
  simp [S_pay, S_sweep, hs_at]
theorem X_en {g : h_T} {x : Int} (hB : h_B g) (hx : 0 ≤ x ∧ x < g 0 9) : 0 ≤ S_energy g x ∧ S_energy g x ≤ 45 := by
  have h1 := S_inUse_bd hB
  have h2 := hB.go hx
  unfold S_energy
  have h3 : 0 ≤ g 4 x * (S_inUse g + 1) := Int.mul_nonneg (by omega) (by omega)
  have h4 : g 4 x * (S_inUse g + 1) ≤ 9 * 5 := Int.mul_le_mul (by omega) (by omega) (by omega) (by omega)
  omega
set_option maxHeartbeats 4000000 in
set_option maxRecDepth 100000 in
theorem t_X10_works {D : va_G} {aC : Nat → ClassId} {s0 : State} {l : Launch} (hF : m_F D aC s0) (hl : l.stackTraces = false) {a : Nat} {w g : h_T} {M : m_M} (hV : mmV a w g M) (ha : s0.heap.size ≤ a) (hB : h_B g) {x : Int} (hx : 0 ≤ x ∧ x < g 0 9) {K : Int} (hK : h_BK K g) (hKb : K ≤ 88000000) : m_Met D aC s0 l yX10_works cX10_works 7 (some .int) 5 (0) (0) [.ref a, VI x] M (fun v M' => v = some (VI (S_wc x 8 g (S_energy g x))) ∧ mmV a w (S_wm x 8 g (S_energy g x)) M' ∧ m_fr a 10 M M') m_nx := by
  refine m_entry (lv := [(0, .ref a), (1, VI x)]) (by decide +kernel) (Nat.le_of_ble_eq_true rfl) rfl hF hl ?_
  intro p e s m args below meth c hC hr hno hnm
  change m_C D aC s0 RX10 _ _ _ _ _ _ _ _ _ at hC
  have hn8 := hB.n8
  have hn9 := hB.n9
  have hn11 := hB.n11
  refine m_aload_n hC 0 dX10_works_0 rfl rfl ?_
  refine m_iload_n hC 1 dX10_works_1 rfl rfl ?_
  refine m_callV hC (t_X10_energyOf hF hl hV ha hB (x := x) hx) dX10_works_2 kc_X10_energyOf kV_X10_154 hV.ob rfl rfl rfl rfl (Nat.le_of_ble_eq_true rfl) (by decide) (by decide) m_nox (fun v9 M1 h9 => ?_)
  obtain ⟨rfl, h9⟩ := h9
  replace h9 := h9.symm
  subst h9
  refine m_istore_n hC dX10_works_5 rfl (by decide) rfl ?_
  refine m_bipush hC dX10_works_6 (by decide) ?_
  refine m_aload_n hC 1 dX10_works_8 rfl rfl ?_
  refine m_callV hC (t_X10_greatestPower hF hl hV ha hB) dX10_works_9 kc_X10_greatestPower kV_X10_157 hV.ob rfl rfl rfl rfl (Nat.le_of_ble_eq_true rfl) (by decide) (by decide) m_nox (fun v9 M2 h9 => ?_)
  obtain ⟨rfl, h9⟩ := h9
  replace h9 := h9.symm
  subst h9
  refine m_iadd hC dX10_works_12 ?_
  refine m_istore_n hC dX10_works_13 rfl (by decide) rfl ?_
  refine m_iconst hC dX10_works_14 ?_
  refine m_istore hC dX10_works_15 (by decide) rfl ?_
  refine m_iconst hC dX10_works_17 ?_
  refine m_istore hC dX10_works_18 (by decide) rfl ?_
  have hen : 0 ≤ S_energy g x ∧ S_energy g x ≤ 45 := X_en hB hx
  have L : ∀ (n : Nat) (k : Int) (g1 : h_T) (e1 q : Int) (f : Nat) (K1 : Int) (M1 : m_M), g1 0 11 - k < (n : Int) → 0 ≤ k → k ≤ g1 0 11 → mmV a w g1 M1 → m_fr a 10 M M1 → h_BK K1 g1 → K1 + 50 * (f : Int) ≤ 89000000 → g1 0 11 ≤ (f : Int) → g1 0 9 = g 0 9 → S_great g1 = S_great g → (∀ j : Int, 0 ≤ j → j < k → g1 10 j ≠ x) → 0 ≤ e1 ∧ e1 ≤ 45 → S_wm x 8 g (S_energy g x) = S_wm x f g1 e1 → S_wc x 8 g (S_energy g x) = q + S_wc x f g1 e1 → m_W D aC s0 7 p l e (m_R 5 (0) (0)) s m args below meth c (0) (0) (m_Q D aC s0 below (fun v M' => v = some (VI (S_wc x 8 g (S_energy g x))) ∧ mmV a w (S_wm x 8 g (S_energy g x)) M' ∧ m_fr a 10 M M') m_nx args s (0) (0)) 20 [(5, VI k), (4, VI q), (3, VI (10 + S_great g)), (2, VI e1), (1, VI x), (0, .ref a)] [] M1 := by
    intro n
    induction n with
    | zero =>
      intro k g1 e1 q f K1 M1 hn h0 h1 hV1 hfr hK1 hKf hf h99 hgr hbf he1 hwm hwc
      omega
    | succ n ih =>
      intro k g1 e1 q f K1 M1 hn h0 h1 hV1 hfr hK1 hKf hf h99 hgr hbf he1 hwm hwc
      have hB1 := hK1.toB (by omega)
      have hn11 := hB1.n11
      have hn9 := hB1.n9
      have hn8 := hB1.n8
      have hgr1 := hK1.great
      refine m_iload hC 0 dX10_works_20 rfl ?_
      refine m_aload_n hC 5 dX10_works_22 rfl rfl ?_
      refine m_getf hC dX10_works_23 kf_X10_9 hV1.ob rfl ?_
      refine m_bipush hC dX10_works_26 (by decide) ?_
      refine m_n0 hC hV1 dX10_works_28 (by decide) ?_
      refine m_icmp_ge (tgt := 123) hC dX10_works_29 (by decide) (by first | omega | (simp [hs_at] <;> omega)) (fun ck => ?_) (fun ck => ?_)
      · refine m_iload hC 1 dX10_works_123 rfl ?_
        exact m_iret hC dX10_works_125 hr (by decide) (by decide) (⟨by rw [hwc, (S_wm_0 (n := f) (g := g1) (e := e1) (Or.inl (X_first0 hbf (by omega) (by omega)))).2, Int.add_zero], by rw [hwm, (S_wm_0 (n := f) (g := g1) (e := e1) (Or.inl (X_first0 hbf (by omega) (by omega)))).1]; exact hV1, hfr.tr m_fr.rf⟩)
      · have hco := hB1.co (i := k) (by omega)
        refine m_aload_n hC 5 dX10_works_32 rfl rfl ?_
        refine m_iload hC 0 dX10_works_33 rfl ?_
        refine m_iconst hC dX10_works_35 ?_
        refine m_callV hC (t_X10_ofContract hF hl hV1 ha hB1 (x := k) (y := 1) 10 rfl (by decide) (by omega)) dX10_works_36 kc_X10_ofContract kV_X10_84 hV1.ob rfl rfl rfl rfl (Nat.le_of_ble_eq_true rfl) (by decide) (by decide) m_nox (fun v9 M3 h9 => ?_)
        obtain ⟨rfl, h9⟩ := h9
        replace h9 := h9.symm
        subst h9
        refine m_iload_n hC 4 dX10_works_39 rfl rfl ?_
        refine m_icmp_eq (tgt := 49) hC dX10_works_40 (by decide) (by first | omega | (simp [hs_at] <;> omega)) (fun cx => ?_) (fun cx => ?_)
        · have hfi := X_first1 hbf (by omega) cx
          refine m_aload_n hC 5 dX10_works_49 rfl rfl ?_
          refine m_iload hC 0 dX10_works_50 rfl ?_
          refine m_iconst hC dX10_works_52 ?_
          refine m_callV hC (t_X10_ofContract hF hl hV1 ha hB1 (x := k) (y := 4) 13 rfl (by decide) (by omega)) dX10_works_53 kc_X10_ofContract kV_X10_84 hV1.ob rfl rfl rfl rfl (Nat.le_of_ble_eq_true rfl) (by decide) (by decide) m_nox (fun v9 M4 h9 => ?_)
          obtain ⟨rfl, h9⟩ := h9
          replace h9 := h9.symm
          subst h9
          refine m_iload_n hC 3 dX10_works_56 rfl rfl ?_
          refine m_icmp_gt (tgt := 120) hC dX10_works_57 (by decide) (by first | omega | (simp [hs_at] <;> omega)) (fun ce => ?_) (fun ce => ?_)
          · refine m_iload hC 1 dX10_works_120 rfl ?_
            exact m_iret hC dX10_works_122 hr (by decide) (by decide) (⟨by rw [hwc, (S_wm_0 (n := f) (g := g1) (e := e1) (Or.inr (by rw [hfi]; omega))).2, Int.add_zero], by rw [hwm, (S_wm_0 (n := f) (g := g1) (e := e1) (Or.inr (by rw [hfi]; omega))).1]; exact hV1, hfr.tr m_fr.rf⟩)
          · have hdu := hB1.du (i := g1 11 k) (by omega)
            refine m_iload_n hC 3 dX10_works_60 rfl rfl ?_
            refine m_aload_n hC 5 dX10_works_61 rfl rfl ?_
            refine m_iload hC 0 dX10_works_62 rfl ?_
            refine m_iconst hC dX10_works_64 ?_
            refine m_callV hC (t_X10_ofContract hF hl hV1 ha hB1 (x := k) (y := 4) 13 rfl (by decide) (by omega)) dX10_works_65 kc_X10_ofContract kV_X10_84 hV1.ob rfl rfl rfl rfl (Nat.le_of_ble_eq_true rfl) (by decide) (by decide) m_nox (fun v9 M5 h9 => ?_)
            obtain ⟨rfl, h9⟩ := h9
            replace h9 := h9.symm
            subst h9
            refine m_isub hC dX10_works_68 ?_
            refine m_istore_n hC dX10_works_69 rfl (by decide) rfl ?_
            refine m_bipush hC dX10_works_70 (by decide) ?_
            refine m_aload_n hC 5 dX10_works_72 rfl rfl ?_
            refine m_iload hC 1 dX10_works_73 rfl ?_
            refine m_iconst hC dX10_works_75 ?_
            refine m_callV hC (t_X10_ofContract hF hl hV1 ha hB1 (x := k) (y := 2) 11 rfl (by decide) (by omega)) dX10_works_76 kc_X10_ofContract kV_X10_84 hV1.ob rfl rfl rfl rfl (Nat.le_of_ble_eq_true rfl) (by decide) (by decide) m_nox (fun v9 M6 h9 => ?_)
            obtain ⟨rfl, h9⟩ := h9
            replace h9 := h9.symm
            subst h9
            refine m_iadd hC dX10_works_79 ?_
            refine m_istore hC dX10_works_80 (by decide) rfl ?_
            refine m_aload_n hC 6 dX10_works_82 rfl rfl ?_
            refine m_getf hC dX10_works_83 kf_X10_9 hV1.ob rfl ?_
            refine m_iload hC 0 dX10_works_86 rfl ?_
            refine m_iconst hC dX10_works_88 ?_
            refine m_aload_n hC 6 dX10_works_89 rfl rfl ?_
            refine m_getf hC dX10_works_90 kf_X10_9 hV1.ob rfl ?_
            refine m_iload hC 0 dX10_works_93 rfl ?_
            refine m_n1 hC (g1 11 k) hV1 dX10_works_95 (by omega) (by omega) (by decide) ?_
            refine m_iload_n hC 4 dX10_works_96 rfl rfl ?_
            refine m_isub hC dX10_works_97 ?_
            refine m_mmax hC dX10_works_98 kM_X10_90 (by first | omega | (simp [hs_at] <;> omega)) (by decide) (Nat.le_of_ble_eq_true rfl) (by decide) (by decide) ?_
            refine m_s1 hC (g1 11 k) hV1 ha ⟨by omega, by omega, by omega⟩ dX10_works_101 (by omega) (by omega) (fun M7 R8 f9 => ?_)
            have R10 : mmV a w (S_sweep g1 k) M7 := by unfold S_sweep; rw [hgr, Int.max_comm]; exact R8
            have hK2 : h_BK K1 (S_sweep g1 k) := hK1.sweep (by omega) hgr1.1
            have hB2 := hK2.toB (by omega)
            refine m_aload_n hC 6 dX10_works_102 rfl rfl ?_
            refine m_iload hC 2 dX10_works_103 rfl ?_
            refine m_callV hC (t_X10_pays hF hl R10 ha hB2 (x := k) (by show 0 ≤ k ∧ k < g1 0 11; omega) hK2 (by omega)) dX10_works_105 kc_X10_pays kV_X10_160 R10.ob rfl rfl rfl rfl (Nat.le_of_ble_eq_true rfl) (by decide) (by decide) m_nox (fun v9 M11 h9 => ?_)
            obtain ⟨rfl, R12, f13⟩ := h9
            have R14 : mmV a w (S_pay (S_sweep g1 k) x (g1 12 k)) M11 := by rw [← cx]; exact R12
            have hB3 : h_B (S_pay (S_sweep g1 k) x (g1 12 k)) := (hK2.pay (by rw [S_sweep_9]; omega) (by omega)).toB (by omega)
            refine m_aload_n hC 6 dX10_works_108 rfl rfl ?_
            refine m_iload hC 2 dX10_works_109 rfl ?_
            refine m_callV hC (t_X10_drops hF hl R14 ha hB3 (x := k) (by rw [S_pay_n (by decide)]; show 0 ≤ k ∧ k < g1 0 11; omega)) dX10_works_111 kc_X10_drops kV_X10_138 R14.ob rfl rfl rfl rfl (Nat.le_of_ble_eq_true rfl) (by decide) (by decide) m_nox (fun v9 M15 h9 => ?_)
            obtain ⟨rfl, R16, f17⟩ := h9
            refine m_iinc hC 3 dX10_works_114 rfl (by decide) rfl ?_
            refine m_goto (tgt := 20) hC dX10_works_117 (by decide) ?_
            refine m_lvs [3, 0, 4, 2, 5, 6] rfl (ih k (S_dm g1 x k) (e1 - g1 13 k) (q + 1) (f - 1) (K1 + 50) M15 (by rw [X_d11]; omega) (by omega) (by rw [X_d11]; omega) R16 (hfr.tr (f9.tr (f13.tr f17))) (hK1.dm (by omega) (by omega)) (by omega) (by rw [X_d11]; omega) (by rw [S_dm_n (by decide), if_neg (by decide)]; exact h99) (S_great_dm.trans hgr) (fun j j0 j1 => by rw [X_dl j1]; exact hbf j j0 j1) (by omega) (hwm.trans (S_wm_1 hfi (by omega) (by omega) (by omega)).1) (by rw [hwc, (S_wm_1 hfi (by omega) (by omega) (by omega)).2]; omega))
        · refine m_iinc hC 0 dX10_works_43 rfl (by decide) rfl ?_
          refine m_goto (tgt := 20) hC dX10_works_46 (by decide) ?_
          refine m_lvs [0, 1, 2, 3, 4, 5] rfl (ih (k + 1) g1 e1 q f K1 M1 (by omega) (by omega) (by omega) hV1 hfr hK1 hKf hf h99 hgr (X_nb hbf cx) he1 hwm hwc)
  refine m_lvs [0, 1, 2, 3, 5, 4] rfl (L 9 0 g (S_energy g x) 0 8 K M (by omega) (by omega) (by omega) hV m_fr.rf hK (by omega) (by omega) rfl rfl (fun j j0 j1 => by omega) hen rfl (by omega))

