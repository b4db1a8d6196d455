/-! the start, in the forms of the walk -/
theorem n_eqr {args : Array Value} {s : State} {t u : Term} {a : Nat} (h : (Cond.eq t u).before args s = true) (hu : u.eval args s none [] s = some (.ref a)) : t.eval args s none [] s = some (.ref a) := by
  cases hv : t.eval args s none [] s with
  | none => simp [Cond.before, Cond.holds, Cond.value, hv] at h
  | some w =>
    simp only [Cond.before, Cond.holds, Cond.value, hv, hu] at h
    cases w <;> simp_all
theorem n_exe {args : Array Value} {s : State} {t : Term} {cls : String} (h : (Cond.exactly t cls).before args s = true) : ∃ a : Nat, t.eval args s none [] s = some (.ref a) := by
  obtain ⟨a, c, cA, kA, q1, -⟩ := Cond.exactly_spec (args := args) (first := s) (o := none) (s := s) (idx := []) (t := t) (cls := cls) h
  exact ⟨a, q1⟩
theorem n_str {args : Array Value} {s : State} {A : Nat → Prop} {tm : Term} {z : List Int} (hN : z.length < 2 ^ 31) (hex : (Cond.exactly tm "java/lang/String").before args s = true) (hco : (Cond.eq (.field tm "java/lang/String" "coder" "B") (.int (Int32.ofInt 0))).before args s = true) (har : (Cond.arrayOf (vT tm) .byte).before args s = true) (hle : (Cond.eq (.length (vT tm)) (.int (Int32.ofNat z.length))).before args s = true) (hel : ∀ j : Nat, j < z.length → (Cond.eq (.elem (vT tm) (.int (Int32.ofNat j))) (.int (Int32.ofInt (z.getD j 0)))).before args s = true) (hA : ∀ a : Nat, a < s.heap.size → ¬ A a) : ∃ a v : Nat, tm.eval args s none [] s = some (.ref a) ∧ va_O "java/lang/String" a A s s.heap ∧ va_OF "java/lang/String" "coder" "B" (VI 0) a A s s.heap ∧ va_OF "java/lang/String" "value" "[B" (.ref v) a A s s.heap ∧ va_T .byte v z.length (fun j => VI (z.getD j 0)) A s s.heap := by
  obtain ⟨a, ha⟩ := n_exe hex
  obtain ⟨v, hv, hT⟩ := va_Tof (f := fun j => VI (z.getD j 0)) (A := A) hN har (va_eqt hle) (fun j hj => va_eqt (hel j hj)) hA
  exact ⟨a, v, ha, va_Oof hex ha hA, vk_OFof ha (va_eqt hco) hA, vk_OFof ha hv hA, hT⟩
theorem n_sel {args : Array Value} {s : State} {C : String} {y x : MethodName} (h0 : (Cond.selects C y y).before args s = true) (hc : y.cls = x.cls) (hx : x.cls ≠ "java/lang/invoke/MethodHandle" ∧ x.cls ≠ "java/lang/invoke/VarHandle") (hp : (Cond.privateMethod x).before args s = true) (hi : (Cond.instanceMethod x).before args s = true) : (Cond.selects C x x).before args s = true := by
  obtain ⟨mk, methM, hnamed, hmethM, -, -⟩ := Cond.instanceMethod_spec hi
  have hfound : s.methodFound? x.cls x.name x.desc = some mk := State.methodFound?_of_named hnamed hx
  have hfc := findClass_of_methodNamed hnamed
  simp only [Cond.before, Cond.holds, Cond.value] at h0
  cases h1 : s.vm.findClass C with
  | none => simp [h1] at h0
  | some c =>
    cases h2 : s.methodFound? y.cls y.name y.desc with
    | none => simp [h1, h2] at h0
    | some r =>
      cases h3 : s.methodNamed? y with
      | none => simp [h1, h2, h3] at h0
      | some m0 =>
        have hfc0 := findClass_of_methodNamed h3
        rw [hc] at hfc0
        have e : mk.cls = m0.cls := Option.some.inj (hfc.symm.trans hfc0)
        have hni : (s.vm.classes[m0.cls]?).any (!·.isInterface) = true := by
          simp only [h1, h2, h3] at h0
          cases h4 : selectMethod {} s.vm c r with
          | method m' =>
            rw [h4] at h0
            simp only [beq_iff_eq, Option.some.injEq, Bool.and_eq_true] at h0
            exact h0.2
          | _ => rw [h4] at h0; simp at h0
        have hsel : selectMethod {} s.vm c mk = .method mk := selectMethod_private hmethM (Cond.privateMethod_at hp mk methM hnamed hmethM)
        simp only [Cond.before, Cond.holds, Cond.value, h1, hfound, hnamed, hsel, e, hni]
        simp
theorem n_arP {args : Array Value} {s : State} {ty : FieldType} (h : (Cond.arrayClass ty).before args s = true) : ∃ cA, ArrOfT s cA ty ∧ s.vm.findClass ("[" ++ ty.toString) = some cA := by
  obtain ⟨cA, kA, comp, h1, h2, h3⟩ := Cond.arrayClass_spec (args := args) (first := s) (o := none) (s := s) (idx := []) h
  exact ⟨cA, fun n z => ⟨(fun k h => by cases h), kA, h2, comp, h3⟩, h1⟩
theorem n_arO {args : Array Value} {s : State} {C : String} (h : (Cond.arrayOver (.object C)).before args s = true) : ∃ cA, ArrOfT s cA (.object C) ∧ va_RA s cA (.object C) := by
  obtain ⟨comp, cA, kA, h1, h2, h3, h4, h5⟩ := Cond.arrayOver_spec (args := args) (first := s) (o := none) (s := s) (idx := []) h
  exact ⟨cA, fun n z => ⟨(fun k h => by cases h), kA, h3, comp, h4⟩, kA, comp, h3, h4, h1, h5⟩
section m_START
variable {args : Array Value} {s : State}
theorem n_A (a : Nat) (ha : a < s.heap.size) : ¬ m_A s a := fun h => absurd h (Nat.not_le.mpr ha)
/-- the premises: words of the tables, parts of what is given -/
def n_P (args : Array Value) (s : State) : Prop := (∀ w ∈ lw_tbl, w.before args s = true) ∧ ∀ w ∈ zF, w.before args s = true
theorem n_P.f (h : n_P args s) {i : Nat} {w : Cond} (hi : zF[i]? = some w) : w.before args s = true := h.2 w (List.mem_of_getElem? hi)
theorem n_P.t (h : n_P args s) {i : Nat} {w : Cond} (hi : tables_1[i]? = some w) : w.before args s = true := h.1 w (List.mem_append_right _ (List.mem_of_getElem? hi))
theorem n_P.m (h : n_P args s) {w : Cond} (hi : w ∈ tables_1) : w.before args s = true := h.1 w (List.mem_append_right _ hi)
theorem n_K (h : n_P args s) : ∃ (D : va_G) (aC : Nat → ClassId), m_K D aC s := by
  have hg := m_lwg_ok h.1
  change ∀ w ∈ lwg, w.before args s = true at hg
  obtain ⟨c0, i0, k0⟩ := u_known (C := RJ0) (T := TJ0) (N := 4) (n := 4) hg inJ0 (hg _ kn_J0)
  obtain ⟨c1, i1, k1⟩ := u_known (C := RJ4) (T := TJ4) (N := 4) (n := 4) hg inJ4 (hg _ kn_J4)
  obtain ⟨c2, i2, k2⟩ := u_known (C := RJx00060) (T := TJx00060) (N := 6) (n := 6) hg inJx00060 (hg _ kn_Jx00060)
  obtain ⟨c3, i3, k3⟩ := u_known (C := RJx7c733) (T := TJx7c733) (N := 6) (n := 6) hg inJx7c733 (hg _ kn_Jx7c733)
  obtain ⟨c4, i4, k4⟩ := u_known (C := RX1) (T := TX1) (N := 3) (n := 3) hg inX1 (hg _ kn_X1)
  obtain ⟨c5, i5, k5⟩ := u_known (C := RX2) (T := TX2) (N := 3) (n := 3) hg inX2 (hg _ kn_X2)
  obtain ⟨c6, i6, k6⟩ := u_known (C := RX3) (T := TX3) (N := 7) (n := 7) hg inX3 (hg _ kn_X3)
  obtain ⟨c7, i7, k7⟩ := u_known (C := RX5) (T := TX5) (N := 6) (n := 6) hg inX5 (hg _ kn_X5)
  obtain ⟨c8, i8, k8⟩ := u_known (C := RX6) (T := TX6) (N := 2) (n := 2) hg inX6 (hg _ kn_X6)
  obtain ⟨c9, i9, k9⟩ := u_known (C := RX7) (T := TX7) (N := 12) (n := 12) hg inX7 (hg _ kn_X7)
  obtain ⟨c10, i10, k10⟩ := u_known (C := RX8) (T := TX8) (N := 4) (n := 4) hg inX8 (hg _ kn_X8)
  obtain ⟨c11, i11, k11⟩ := u_known (C := RX9) (T := TX9) (N := 10) (n := 10) hg inX9 (hg _ kn_X9)
  obtain ⟨a0, b0, d0⟩ := n_arP (h.t nT_c0)
  obtain ⟨a1, b1, d1⟩ := n_arP (h.t nT_c1)
  obtain ⟨a2, b2, d2⟩ := n_arP (h.t nT_c2)
  obtain ⟨a5, b5, d5⟩ := n_arO (h.t nT_a7)
  obtain ⟨a6, b6, d6⟩ := n_arO (h.t nT_a2)
  refine ⟨(fun c => match c with | 0 => c0 | 1 => c1 | 2 => c2 | 3 => c3 | 4 => c4 | 5 => c5 | 6 => c6 | 7 => c7 | 8 => c8 | 9 => c9 | 10 => c10 | _ => c11, fun c => match c with | 0 => i0 | 1 => i1 | 2 => i2 | 3 => i3 | 4 => i4 | 5 => i5 | 6 => i6 | 7 => i7 | 8 => i8 | 9 => i9 | 10 => i10 | _ => i11), fun k => match k with | 0 => a0 | 1 => a1 | 2 => a2 | 3 => a0 | 4 => a0 | 5 => a5 | _ => a6, fun c q hq => ?_, fun k hk => ?_⟩
  · match c, hq with
    | 0, hq => exact (show (RJ0, TJ0, 4) = q from Option.some.inj hq) ▸ k0
    | 1, hq => exact (show (RJ4, TJ4, 4) = q from Option.some.inj hq) ▸ k1
    | 2, hq => exact (show (RJx00060, TJx00060, 6) = q from Option.some.inj hq) ▸ k2
    | 3, hq => exact (show (RJx7c733, TJx7c733, 6) = q from Option.some.inj hq) ▸ k3
    | 4, hq => exact (show (RX1, TX1, 3) = q from Option.some.inj hq) ▸ k4
    | 5, hq => exact (show (RX2, TX2, 3) = q from Option.some.inj hq) ▸ k5
    | 6, hq => exact (show (RX3, TX3, 7) = q from Option.some.inj hq) ▸ k6
    | 7, hq => exact (show (RX5, TX5, 6) = q from Option.some.inj hq) ▸ k7
    | 8, hq => exact (show (RX6, TX6, 2) = q from Option.some.inj hq) ▸ k8
    | 9, hq => exact (show (RX7, TX7, 12) = q from Option.some.inj hq) ▸ k9
    | 10, hq => exact (show (RX8, TX8, 4) = q from Option.some.inj hq) ▸ k10
    | 11, hq => exact (show (RX9, TX9, 10) = q from Option.some.inj hq) ▸ k11
    | c + 12, hq => exact absurd (List.getElem?_eq_some_iff.mp hq).1 (by have e : vwCl.length = 12 := rfl; omega)
  · match k, hk with
    | 0, _ => exact ⟨b0, d0⟩
    | 1, _ => exact ⟨b1, d1⟩
    | 2, _ => exact ⟨b2, d2⟩
    | 3, _ => exact ⟨b0, d0⟩
    | 4, _ => exact ⟨b0, d0⟩
    | 5, _ => exact ⟨b5, d5⟩
    | 6, _ => exact ⟨b6, d6⟩
    | 7, _ => exact ⟨b6, d6⟩
    | k + 8, hk => exact absurd hk (by omega)
theorem n_F (h : n_P args s) : ∃ (D : va_G) (aC : Nat → ClassId), m_F D aC s := by
  obtain ⟨D, aC, hK⟩ := n_K h
  exact ⟨D, aC, hK, vx_Zqof (h.t nT_lU) (h.t nT_iU) (h.f zF_us) n_A, vx_Zqof (h.t nT_lS) (h.t nT_iU) (h.f zF_ss) n_A, va_Nw.of rfl (h.t nT_w1), va_Nw.of rfl (h.t nT_w5), va_Nw.of rfl (h.t nT_w3), va_Nw.of rfl (h.t nT_w2)⟩
theorem n_TH (h : n_P args s) : m_TH s := by
  refine ⟨fun q hq w hw => ?_, fun w hw => ?_, fun q hq => ?_⟩
  · have z := nT_th q hq w hw
    exact va_Nw.of z.2 (h.1 w z.1)
  · have z := nT_an w hw
    exact va_Nw.of z.2 (h.1 w z.1)
  · have z := nT_ss q hq
    obtain ⟨a, ha⟩ := n_exe (h.2 _ z.2)
    exact ⟨a, vk_R.of (h.m z.1) ha⟩
theorem n_AO (h : n_P args s) : m_AO s := ⟨va_AO.of (h.t nT_a7), va_AO.of (h.t nT_a2)⟩
theorem n_NC (h : n_P args s) : m_NC s := ⟨fun E hE => va_Nw.of rfl (h.m (nT_ca E hE)), fun E hE nm hnm hne => va_Nc.of (h.2 _ (zF_nc E hE nm hnm hne))⟩
theorem n_JS (h : n_P args s) : m_JS s := ⟨va_Nw.of (w := .selects RJ4 yJ5_putStringAt_47b60 yJ5_putStringAt_47b60) rfl (n_sel (h.t nT_s0) rfl ⟨by decide, by decide⟩ (h.t nT_p3) (h.t nT_n3)), va_Nw.of (w := .selects RJ4 yJ5_inflateIfNeededFor_a7421 yJ5_inflateIfNeededFor_a7421) rfl (n_sel (h.t nT_s0) rfl ⟨by decide, by decide⟩ (h.t nT_p4) (h.t nT_n4)), va_Nw.of rfl (h.t nT_cl)⟩
theorem n_LS (h : n_P args s) : ∃ sa va : Nat → Nat, m_LS s sa va := by
  have h0 : ∀ k : Nat, ∃ q : Nat × Nat, k < 10 → vk_R RL (ls_i.getD k 0) (ls_t.getD k "") q.1 s ∧ m_str s q.1 q.2 (ls_z.getD k []) := by
    intro k
    by_cases hk : k < 10
    · obtain ⟨a, v, ha, h1, h2, h3, h4⟩ := n_str (A := m_A s) (z := ls_z.getD k []) (tm := LT_ k) ((by decide : ∀ k : Nat, k < 10 → (ls_z.getD k []).length < 2 ^ 31) k hk) (h.f (zF_lx k hk)) (h.f (zF_lc k hk)) (h.f (zF_la k hk)) (h.f (zF_ll k hk)) (fun j hj => h.f (zF_le k hk j hj)) n_A
      refine ⟨(a, v), fun _ => ⟨vk_R.of (h.t (nT_ls k hk)) ha, h1, h2, h3, h4, fun j => ?_, (by decide : ∀ k : Nat, k < 10 → (ls_z.getD k []).length ≤ 1000) k hk⟩⟩
      by_cases hj : j < (ls_z.getD k []).length
      · exact (by decide : ∀ k : Nat, k < 10 → ∀ j : Nat, j < (ls_z.getD k []).length → 0 ≤ (ls_z.getD k []).getD j 0 ∧ (ls_z.getD k []).getD j 0 < 128) k hk j hj
      · rw [List.getD_eq_getElem?_getD, List.getElem?_eq_none (Nat.not_lt.mp hj)]; decide
    · exact ⟨(0, 0), fun hk2 => absurd hk2 hk⟩
  obtain ⟨ad, had⟩ := Classical.axiomOfChoice h0
  exact ⟨fun k => (ad k).1, fun k => (ad k).2, had⟩
theorem n_J (h : n_P args s) : ∃ (fo ks vs : Nat → Nat) (fA sA dO dT : Nat), m_J s fo ks vs fA sA dO dT := by
  have h0 : ∀ k : Nat, ∃ q : Nat × Nat × Nat, k < 13 → (fT k).eval args s none [] s = some (.ref q.1) ∧ (sT k).eval args s none [] s = some (.ref q.2.1) ∧ va_O "java/lang/String" q.2.1 (m_A s) s s.heap ∧ va_OF "java/lang/String" "coder" "B" (VI 0) q.2.1 (m_A s) s s.heap ∧ va_OF "java/lang/String" "value" "[B" (.ref q.2.2) q.2.1 (m_A s) s s.heap ∧ va_T .byte q.2.2 (fo_z.getD k []).length (fun j => VI ((fo_z.getD k []).getD j 0)) (m_A s) s s.heap := by
    intro k
    by_cases hk : k < 13
    · obtain ⟨f, hf⟩ := n_exe (h.f (zF_ex k hk))
      obtain ⟨a, v, ha, h1, h2, h3, h4⟩ := n_str (A := m_A s) (z := fo_z.getD k []) (tm := sT k) ((by decide : ∀ k : Nat, k < 13 → (fo_z.getD k []).length < 2 ^ 31) k hk) (h.f (zF_sx k hk)) (h.f (zF_sc k hk)) (h.f (zF_sa k hk)) (h.f (zF_sl k hk)) (fun j hj => h.f (zF_se k hk j hj)) n_A
      exact ⟨(f, a, v), fun _ => ⟨hf, ha, h1, h2, h3, h4⟩⟩
    · exact ⟨(0, 0, 0), fun hk2 => absurd hk2 hk⟩
  obtain ⟨ad, had⟩ := Classical.axiomOfChoice h0
  obtain ⟨fA, hfA, hfT⟩ := va_Tof (tm := FT) (ty := .object "GoblinHousehold$Form") (N := 13) (f := fun k => .ref (ad k).1) (A := m_A s) (by decide) (h.f zF_fa) (va_eqt (h.f zF_fl)) (fun k hk => n_eqr (h.f (zF_fe k hk)) (had k hk).1) n_A
  obtain ⟨sA, hsA, hsT⟩ := va_Tof (tm := WT) (ty := .int) (N := 13) (f := fun k => VI (sw_z.getD k 0)) (A := m_A s) (by decide) (h.f zF_wa) (va_eqt (h.f zF_wl)) (fun k hk => va_eqt (h.f (zF_we k hk))) n_A
  obtain ⟨dO, hdO, hdOT⟩ := va_Tof (tm := OT1) (ty := .byte) (N := 100) (f := fun k => VI (48 + (k : Int) % 10)) (A := m_A s) (by decide) (h.f zF_oa) (va_eqt (h.f zF_ol)) (fun k hk => va_eqt (h.f (zF_oe k hk))) n_A
  obtain ⟨dT, hdT, hdTT⟩ := va_Tof (tm := TT1) (ty := .byte) (N := 100) (f := fun k => VI (48 + (k : Int) / 10)) (A := m_A s) (by decide) (h.f zF_ta) (va_eqt (h.f zF_tl)) (fun k hk => va_eqt (h.f (zF_te k hk))) n_A
  have hP : ∃ v : Value, (v = .null ∨ ∃ a, v = .ref a) ∧ va_Z "jdk/internal/util/Preconditions" "SIOOBE_FORMATTER" "Ljava/util/function/BiFunction;" v (m_A s) s s.heap := by
    rcases va_Zqof (A := m_A s) (h.t nT_lP) (h.t nT_iP) (h.f zF_pf) n_A with z | ⟨t, z⟩
    · exact ⟨_, Or.inl rfl, z⟩
    · exact ⟨_, Or.inr ⟨t, rfl⟩, z⟩
  refine ⟨fun k => (ad k).1, fun k => (ad k).2.1, fun k => (ad k).2.2, fA, sA, dO, dT, fun k hk => va_Oof (h.f (zF_ex k hk)) (had k hk).1 n_A, fun k hk => vk_OFof (had k hk).1 (va_eqt (h.f (zF_or k hk))) n_A, fun k hk => vk_OFof (had k hk).1 (n_eqr (h.f (zF_si k hk)) (had k hk).2.1) n_A, fun k hk => (had k hk).2.2.1, fun k hk => (had k hk).2.2.2.1, fun k hk => (had k hk).2.2.2.2.1, fun k hk => (had k hk).2.2.2.2.2, va_Zref (h.t nT_lF) (h.t nT_iF) hfA n_A, hfT, va_Zref (h.t nT_lN) (h.t nT_iN) (had 11 (by decide)).1 n_A, va_Zref (h.t nT_lW) (h.t nT_iW) hsA n_A, hsT, va_Zref (h.t nT_lO) (h.t nT_iO) hdO n_A, hdOT, va_Zref (h.t nT_lT) (h.t nT_iO) hdT n_A, hdTT, va_Zof (h.t nT_lC) (h.t nT_iC) (va_eqt (h.f zF_cs)) n_A, hP, ?_, ?_, fun i j hi hj e => ?_⟩
  · exact va_Nw.of (w := .selects RJ4 yJ5_ensureCapacityInternal_d00df yJ5_ensureCapacityInternal_d00df) rfl (n_sel (h.t nT_s0) rfl ⟨by decide, by decide⟩ (h.t nT_p1) (h.t nT_n1))
  · exact va_Nw.of (w := .selects RJ4 yJ5_newCapacity_0f7a4 yJ5_newCapacity_0f7a4) rfl (n_sel (h.t nT_s0) rfl ⟨by decide, by decide⟩ (h.t nT_p2) (h.t nT_n2))
  · by_cases hij : i = j
    · exact hij
    · rcases zF_ne i hi j hj hij with z | z
      · exact absurd e (va_neR (h.f z) (had i hi).1 (had j hj).1)
      · exact absurd e.symm (va_neR (h.f z) (had j hj).1 (had i hi).1)
end m_START
