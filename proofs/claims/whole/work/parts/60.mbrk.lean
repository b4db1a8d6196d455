def S_rw (g : h_T) (L : List (Nat → Int)) : h_T := fun c i => if 9 ≤ c ∧ c ≤ 13 then (L.getD i.toNat (fun _ => 0)) c else if c = 0 ∧ i = 11 then (L.length : Int) else if c = 0 ∧ i = 5 then g 0 5 + (g 0 11 - (L.length : Int)) else g c i
def cR (g : h_T) : List (Nat → Int) := (List.range (g 0 11).toNat).map (fun (i : Nat) (c : Nat) => g c (i : Int))
theorem S_rw_11 {g : h_T} {L : List (Nat → Int)} : S_rw g L 0 11 = (L.length : Int) := by simp [S_rw]
theorem S_rw_5 {g : h_T} {L : List (Nat → Int)} : S_rw g L 0 5 = g 0 5 + (g 0 11 - (L.length : Int)) := by simp [S_rw]
theorem S_rw_n {g : h_T} {L : List (Nat → Int)} {k : Int} (h : k ≠ 5 ∧ k ≠ 11) : S_rw g L 0 k = g 0 k := by simp [S_rw, h]
theorem S_rw_c {g : h_T} {L : List (Nat → Int)} {c : Nat} (h : 1 ≤ c ∧ c ≤ 8) : S_rw g L c = g c := by
  funext i
  unfold S_rw
  rw [if_neg (by omega), if_neg (by omega), if_neg (by omega)]
theorem S_rw_r {g : h_T} {L : List (Nat → Int)} {c : Nat} {i : Int} (h : 9 ≤ c ∧ c ≤ 13) : S_rw g L c i = (L.getD i.toNat (fun _ => 0)) c := if_pos h
theorem X_er {A B : List (Nat → Int)} {b : Nat → Int} : (A ++ b :: B).eraseIdx A.length = A ++ B := by
  induction A with
  | nil => rfl
  | cons x A ih => simp [ih]
theorem X_gd {A B : List (Nat → Int)} {b d : Nat → Int} : (A ++ b :: B).getD A.length d = b := by
  induction A with
  | nil => rfl
  | cons x A ih => simpa using ih
theorem X_gl {A B : List (Nat → Int)} {d : Nat → Int} {i : Nat} (h : i < A.length) : (A ++ B).getD i d = A.getD i d := by
  induction A generalizing i with
  | nil => exact absurd h (Nat.not_lt_zero _)
  | cons x A ih =>
    cases i with
    | zero => rfl
    | succ i => simpa using ih (i := i) (by simpa using h)
theorem X_gr {A B : List (Nat → Int)} {b d : Nat → Int} {i : Nat} (h : A.length ≤ i) : (A ++ b :: B).getD (i + 1) d = (A ++ B).getD i d := by
  induction A generalizing i with
  | nil => rfl
  | cons x A ih =>
    cases i with
    | zero => exact absurd h (by simp)
    | succ i => simpa using ih (i := i) (by simpa using h)
theorem X_rwd {g : h_T} {A B : List (Nat → Int)} {b : Nat → Int} : h_eq (hs (S_del (S_rw g (A ++ b :: B)) (A.length : Int)) 0 5 (S_del (S_rw g (A ++ b :: B)) (A.length : Int) 0 5 + 1)) (S_rw g (A ++ B)) := by
  have hl : ((A ++ b :: B).length : Int) = ((A ++ B).length : Int) + 1 := by simp; omega
  refine ⟨fun k hk => ?_, fun c i hc hi => ?_⟩
  · rw [hs_at]
    by_cases q : k = 5
    · subst q
      rw [if_pos ⟨rfl, rfl⟩, S_del_n (by decide), S_rw_5, S_rw_5]
      omega
    · rw [if_neg (fun z => q z.2)]
      by_cases q2 : k = 11
      · subst q2
        rw [S_rw_11]
        have e : S_del (S_rw g (A ++ b :: B)) (A.length : Int) 0 11 = S_rw g (A ++ b :: B) 0 11 - 1 := by simp [S_del]
        rw [e, S_rw_11]
        omega
      · rw [S_del_n q2, S_rw_n ⟨q, q2⟩, S_rw_n ⟨q, q2⟩]
  · rw [hs_c (by omega)]
    by_cases q : 9 ≤ c
    · rw [h_n_co _ q, S_rw_11] at hi
      have e : S_del (S_rw g (A ++ b :: B)) (A.length : Int) c i = if i < (A.length : Int) then S_rw g (A ++ b :: B) c i else S_rw g (A ++ b :: B) c (i + 1) := if_pos ⟨q, hc.2⟩
      rw [e, S_rw_r ⟨q, hc.2⟩, S_rw_r ⟨q, hc.2⟩, S_rw_r ⟨q, hc.2⟩]
      by_cases z : i < (A.length : Int)
      · rw [if_pos z, X_gl (by omega), X_gl (by omega)]
      · rw [if_neg z, show (i + 1).toNat = i.toNat + 1 by omega, X_gr (by omega)]
    · have e : S_del (S_rw g (A ++ b :: B)) (A.length : Int) c i = S_rw g (A ++ b :: B) c i := by
        unfold S_del
        rw [if_neg (by omega), if_neg (by omega)]
      rw [e, S_rw_c (by omega), S_rw_c (by omega)]
theorem X_rwi {g : h_T} (h : 0 ≤ g 0 11) : h_eq g (S_rw g (cR g)) := by
  have hl : ((cR g).length : Int) = g 0 11 := by simp [cR]; omega
  refine ⟨fun k hk => ?_, fun c i hc hi => ?_⟩
  · by_cases q : k = 5
    · subst q
      rw [S_rw_5]
      omega
    · by_cases q2 : k = 11
      · subst q2
        rw [S_rw_11, hl]
      · rw [S_rw_n ⟨q, q2⟩]
  · by_cases q : 9 ≤ c
    · rw [h_n_co _ q, S_rw_11, hl] at hi
      rw [S_rw_r ⟨q, hc.2⟩]
      have hi2 : i.toNat < (g 0 11).toNat := by omega
      simp [cR, List.getD, hi2]
      rw [show max i 0 = i by omega]
    · rw [S_rw_c (by omega)]
def rOK (g : h_T) (L : List (Nat → Int)) : Prop := (L.length : Int) ≤ g 0 11 ∧ ∀ r ∈ L, 0 ≤ r 9 ∧ r 9 ≤ 100000000 ∧ 0 ≤ r 10 ∧ r 10 < g 0 9 ∧ 0 ≤ r 11 ∧ r 11 < 6 ∧ 1 ≤ r 12 ∧ r 12 ≤ 50 ∧ 1 ≤ r 13 ∧ r 13 ≤ 20
theorem X_mem {L : List (Nat → Int)} {i : Nat} {d : Nat → Int} (h : i < L.length) : L.getD i d ∈ L := by
  have : L.getD i d = L[i] := by simp [List.getD, h]
  rw [this]
  exact List.getElem_mem h
theorem rOK.ofc {K : Int} {g : h_T} (h : h_BK K g) (hK : K ≤ 100000000) : rOK g (cR g) := by
  have n11 := h.n11
  refine ⟨by simp [cR]; omega, fun r hr => ?_⟩
  simp only [cR, List.mem_map, List.mem_range] at hr
  obtain ⟨i, hi, rfl⟩ := hr
  have := h.co (i := (i : Int)) (by omega)
  dsimp only
  omega
theorem rOK.B {K : Int} {g : h_T} {L : List (Nat → Int)} (h : rOK g L) (hK : h_BK K g) (hb : K ≤ 90000000) : h_B (S_rw g L) := by
  have n11 := hK.n11
  have n8 := hK.n8
  have n9 := hK.n9
  have hl := h.1
  refine ⟨fun k hk => ?_, ?_, ?_, ?_, fun i hi => ?_, fun i hi => ?_, fun i hi => ?_, fun i hi => ?_⟩
  · have hs := hK.s k hk
    by_cases q : k = 5
    · subst q
      rw [S_rw_5]
      omega
    · by_cases q2 : k = 11
      · subst q2
        rw [S_rw_11]
        omega
      · rw [S_rw_n ⟨q, q2⟩]
        omega
  · rw [S_rw_n (by decide)]; exact n8.2
  · rw [S_rw_n (by decide)]; exact n9.2
  · rw [S_rw_11]; omega
  · rw [S_rw_c (by decide)]; exact hK.du hi
  · rw [S_rw_n (by decide)] at hi
    rw [S_rw_c (by decide), S_rw_c (by decide)]
    exact hK.br hi
  · rw [S_rw_n (by decide)] at hi
    rw [S_rw_c (by decide), S_rw_c (by decide), S_rw_c (by decide), S_rw_c (by decide), S_rw_c (by decide)]
    have := hK.go hi
    omega
  · rw [S_rw_11] at hi
    rw [S_rw_r (c := 9) (by decide), S_rw_r (c := 10) (by decide), S_rw_r (c := 11) (by decide), S_rw_r (c := 12) (by decide), S_rw_r (c := 13) (by decide), S_rw_n (k := 9) (by decide)]
    exact h.2 _ (X_mem (by omega))
theorem rOK.sub {g : h_T} {L L2 : List (Nat → Int)} (h : rOK g L) (h1 : L2.length ≤ L.length) (h2 : ∀ r ∈ L2, r ∈ L) : rOK g L2 := ⟨by have := h.1; omega, fun r hr => h.2 r (h2 r hr)⟩
/-- the broken ones, from the last to the first -/
theorem X_brk {g : h_T} : ∀ (n : Nat) (A D : List (Nat → Int)) (t : h_T), A.length = n → h_eq t (S_rw g (A ++ D)) → (∀ r ∈ A, 0 ≤ r 10 ∧ r 10 < g 0 9) → h_eq (S_brk n t) (S_rw g (A.filter (fun r => decide (¬ 3 ≤ g 7 (r 10))) ++ D)) := by
  intro n
  induction n with
  | zero =>
    intro A D t hA ht hr
    have : A = [] := List.length_eq_zero_iff.mp hA
    subst this
    exact ht
  | succ n ih =>
    intro A D t hA ht hr
    rcases List.eq_nil_or_concat A with rfl | ⟨A', b, rfl⟩
    · simp at hA
    · simp only [List.concat_eq_append] at hA ht hr ⊢
      have hA' : A'.length = n := by simpa using hA
      rw [List.append_assoc] at ht
      have hb := hr b (by simp)
      have e10 : t 10 (n : Int) = b 10 := by
        rw [ht.co (c := 10) (by decide) (by rw [S_rw_11]; simp; omega), S_rw_r (by decide), Int.toNat_natCast, ← hA']
        exact congrFun X_gd 10
      have e7 : t 7 (b 10) = g 7 (b 10) := by
        rw [ht.go (c := 7) (by decide) (by rw [S_rw_n (by decide)]; exact hb), S_rw_c (by decide)]
      rw [S_brk, e10, e7]
      by_cases q : 3 ≤ g 7 (b 10)
      · rw [if_pos q, List.filter_append, show [b].filter (fun r => decide (¬ 3 ≤ g 7 (r 10))) = [] by simp [q], List.append_nil]
        refine ih A' D _ hA' ?_ (fun r h => hr r (by simp [h]))
        have h1 := (ht.del (n : Int))
        have h2 := h1.st (c := 0) (i := 5) (v := t 0 5 + 1) (Or.inr (by decide))
        have e5 : t 0 5 + 1 = S_del (S_rw g (A' ++ ([b] ++ D))) (n : Int) 0 5 + 1 := by rw [S_del_n (by decide), ht.s 5 (by omega)]
        rw [e5] at h2
        rw [e5]
        refine h2.tr ?_
        rw [← hA']
        exact X_rwd
      · rw [if_neg q, List.filter_append, show [b].filter (fun r => decide (¬ 3 ≤ g 7 (r 10))) = [b] by simp; omega, List.append_assoc]
        exact ih A' ([b] ++ D) _ hA' ht (fun r h => hr r (by simp [h]))
theorem X_nil {B : List (Nat → Int)} (h : B.length = 0) : B = [] := List.length_eq_zero_iff.mp h
theorem X_del11 {g : h_T} {p : Int} : S_del g p 0 11 = g 0 11 - 1 := by simp [S_del]
set_option maxHeartbeats 4000000 in
set_option maxRecDepth 100000 in
theorem t_X10_breaks {D : va_G} {aC : Nat → ClassId} {s0 : State} {l : Launch} (hF : m_F D aC s0) (hl : l.stackTraces = false) {a : Nat} {w g : h_T} {L : List (Nat → Int)} {M : m_M} (hV : mmV a w (S_rw g L) M) (ha : s0.heap.size ≤ a) (hL : rOK g L) {K : Int} (hK : h_BK K g) (hKb : K ≤ 90000000) {x : Int} (hx : -2147483648 ≤ x ∧ x < 2147483648) : m_Met D aC s0 l yX10_breaks cX10_breaks 3 none 3 (0) (0) [.ref a, VI x] M (fun v M' => v = none ∧ mmV a w (S_rw g (L.filter (fun r => decide (r 10 ≠ x)))) M' ∧ m_fr a 10 M M') m_nx := by
  refine m_entry (lv := [(0, .ref a), (1, VI x)]) (by decide +kernel) (Nat.le_of_ble_eq_true rfl) rfl hF hl ?_
  intro p e s m args below meth c hC hr hno hnm
  change m_C D aC s0 RX10 _ _ _ _ _ _ _ _ _ at hC
  have hn11 := hK.n11
  refine m_iconst hC dX10_breaks_0 ?_
  refine m_istore_n hC dX10_breaks_1 rfl (by decide) rfl ?_
  have Lo : ∀ (n : Nat) (k : Int) (A B : List (Nat → Int)) (M1 : m_M), S_rw g (A ++ B) 0 11 - k < (n : Int) → (A.length : Int) = k → mmV a w (S_rw g (A ++ B)) M1 → m_fr a 10 M M1 → rOK g (A ++ B) → (∀ r ∈ A, r 10 ≠ x) → L.filter (fun r => decide (r 10 ≠ x)) = A ++ B.filter (fun r => decide (r 10 ≠ x)) → m_W D aC s0 3 p l e (m_R 3 (0) (0)) s m args below meth c (0) (0) (m_Q D aC s0 below (fun v M' => v = none ∧ mmV a w (S_rw g (L.filter (fun r => decide (r 10 ≠ x)))) M' ∧ m_fr a 10 M M') m_nx args s (0) (0)) 2 [(2, VI k), (1, VI x), (0, .ref a)] [] M1 := by
    intro n
    induction n with
    | zero =>
      intro k A B M1 hn hA hV1 hfr hL1 hp hf
      have e11 : S_rw g (A ++ B) 0 11 = (A.length : Int) + (B.length : Int) := by rw [S_rw_11]; simp
      omega
    | succ n ih =>
      intro k A B M1 hn hA hV1 hfr hL1 hp hf
      have hB1 := hL1.B hK hKb
      have hn11 := hB1.n11
      have hn9 := hB1.n9
      have hn8 := hB1.n8
      have e11 : S_rw g (A ++ B) 0 11 = (A.length : Int) + (B.length : Int) := by rw [S_rw_11]; simp
      have hg9 := hK.n9
      refine m_iload_n hC 0 dX10_breaks_2 rfl rfl ?_
      refine m_aload_n hC 2 dX10_breaks_3 rfl rfl ?_
      refine m_getf hC dX10_breaks_4 kf_X10_9 hV1.ob rfl ?_
      refine m_bipush hC dX10_breaks_7 (by decide) ?_
      refine m_n0 hC hV1 dX10_breaks_9 (by decide) ?_
      refine m_icmp_ge (tgt := 47) hC dX10_breaks_10 (by decide) (by first | omega | (simp [hs_at] <;> omega)) (fun ck => ?_) (fun ck => ?_)
      · exact m_vret hC dX10_breaks_47 hr (by decide) (by decide) (⟨rfl, by rw [hf, show B = [] from X_nil (by omega)]; simpa [show B = [] from X_nil (by omega)] using hV1, hfr.tr m_fr.rf⟩)
      · obtain ⟨b, B2, rfl⟩ : ∃ b B2, B = b :: B2 := by
          cases B with
          | nil => simp only [List.length_nil] at e11; omega
          | cons b B2 => exact ⟨b, B2, rfl⟩
        have e10 : S_rw g (A ++ b :: B2) 10 k = b 10 := by rw [S_rw_r (by decide), show k.toNat = A.length by omega]; exact congrFun X_gd 10
        have hb := hL1.2 b (by simp)
        refine m_aload_n hC 2 dX10_breaks_13 rfl rfl ?_
        refine m_iload_n hC 0 dX10_breaks_14 rfl rfl ?_
        refine m_iconst hC dX10_breaks_15 ?_
        refine m_callV hC (t_X10_ofContract hF hl hV1 ha hB1 (x := k) (y := 1) 10 rfl (by decide) (by omega)) dX10_breaks_16 kc_X10_ofContract kV_X10_84 hV1.ob rfl rfl rfl rfl (Nat.le_of_ble_eq_true rfl) (by decide) (by decide) m_nox (fun v9 M1 h9 => ?_)
        obtain ⟨rfl, h9⟩ := h9
        replace h9 := h9.symm
        subst h9
        rw [e10]
        refine m_iload_n hC 1 dX10_breaks_19 rfl rfl ?_
        refine m_icmp_ne (tgt := 41) hC dX10_breaks_20 (by decide) (by first | omega | (simp [hs_at] <;> omega)) (fun cx => ?_) (fun cx => ?_)
        · refine m_iinc hC 0 dX10_breaks_41 rfl (by decide) rfl ?_
          refine m_goto (tgt := 2) hC dX10_breaks_44 (by decide) ?_
          refine m_lvs [0, 1, 2] rfl (ih (k + 1) (A ++ [b]) B2 M1 (by rw [List.append_assoc]; show S_rw g (A ++ b :: B2) 0 11 - (k + 1) < _; omega) (by simp; omega) (by rw [List.append_assoc]; exact hV1) hfr (by rw [List.append_assoc]; exact hL1) (fun r hr9 => by rcases List.mem_append.mp hr9 with z | z; exact hp r z; rw [List.mem_singleton.mp z]; exact cx) (by rw [hf, List.append_assoc]; simp [cx]))
        · refine m_aload_n hC 2 dX10_breaks_23 rfl rfl ?_
          refine m_iload_n hC 0 dX10_breaks_24 rfl rfl ?_
          refine m_callV hC (t_X10_drops hF hl hV1 ha hB1 (x := k) (by omega)) dX10_breaks_25 kc_X10_drops kV_X10_138 hV1.ob rfl rfl rfl rfl (Nat.le_of_ble_eq_true rfl) (by decide) (by decide) m_nox (fun v9 M2 h9 => ?_)
          obtain ⟨rfl, R3, f4⟩ := h9
          refine m_aload_n hC 2 dX10_breaks_28 rfl rfl ?_
          refine m_getf hC dX10_breaks_29 kf_X10_9 R3.ob rfl ?_
          refine m_iconst hC dX10_breaks_32 ?_
          refine m_dup2 hC dX10_breaks_33 rfl rfl ?_
          refine m_n0 hC R3 dX10_breaks_34 (by decide) ?_
          refine m_iconst hC dX10_breaks_35 ?_
          refine m_iadd hC dX10_breaks_36 ?_
          refine m_s0 hC R3 ha (by rw [S_del_n (by decide), S_del_n (by decide), X_del11]; omega) dX10_breaks_37 (by decide) (fun M5 R6 f7 => ?_)
          refine m_goto (tgt := 2) hC dX10_breaks_38 (by decide) ?_
          refine m_lvs [0, 1, 2] rfl (ih k A B2 M5 (by rw [S_rw_11] at hn ⊢; simp at hn ⊢; omega) hA (R6.eq (by rw [← hA]; exact X_rwd)) (hfr.tr (f4.tr f7)) (hL1.sub (by simp) (fun r hr9 => by rcases List.mem_append.mp hr9 with z | z; exact List.mem_append_left _ z; exact List.mem_append_right _ (List.mem_cons_of_mem _ z))) hp (by rw [hf]; simp [cx]))
  refine m_lvs [0, 2, 1] rfl (Lo 9 0 [] L M (by have h1 := hL.1; rw [S_rw_11]; simp; omega) rfl hV m_fr.rf hL (by simp) rfl)

