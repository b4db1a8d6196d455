def h_n (g : h_T) (c : Nat) : Int := if c = 1 then 6 else if c ≤ 3 then g 0 8 else if c ≤ 8 then g 0 9 else g 0 11
/-- the same in the scalars and in the rows in use -/
def h_eq (t g : h_T) : Prop := (∀ k : Int, 0 ≤ k ∧ k < 12 → t 0 k = g 0 k) ∧ ∀ (c : Nat) (i : Int), 1 ≤ c ∧ c ≤ 13 → 0 ≤ i ∧ i < h_n g c → t c i = g c i
theorem h_eq.rf {t : h_T} : h_eq t t := ⟨fun _ _ => rfl, fun _ _ _ _ => rfl⟩
theorem h_n_of {t g : h_T} (h : ∀ k : Int, 0 ≤ k ∧ k < 12 → t 0 k = g 0 k) (c : Nat) : h_n t c = h_n g c := by
  unfold h_n
  rw [h 8 (by omega), h 9 (by omega), h 11 (by omega)]
theorem h_eq.sym {t g : h_T} (h : h_eq t g) : h_eq g t := ⟨fun k hk => (h.1 k hk).symm, fun c i hc hi => (h.2 c i hc (by rw [← h_n_of h.1]; exact hi)).symm⟩
theorem h_eq.tr {t g u : h_T} (h : h_eq t g) (h2 : h_eq g u) : h_eq t u := ⟨fun k hk => (h.1 k hk).trans (h2.1 k hk), fun c i hc hi => (h.2 c i hc (by rw [h_n_of h2.1]; exact hi)).trans (h2.2 c i hc hi)⟩
theorem h_n_hs {g : h_T} {c c' : Nat} {i v : Int} (h : c ≠ 0 ∨ (i ≠ 8 ∧ i ≠ 9 ∧ i ≠ 11)) : h_n (hs g c i v) c' = h_n g c' := by
  unfold h_n
  have e : ∀ k : Int, k = 8 ∨ k = 9 ∨ k = 11 → hs g c i v 0 k = g 0 k := fun k hk => if_neg (fun q => by
    obtain ⟨q1, q2⟩ := q
    rcases h with h | h
    · exact h q1.symm
    · omega)
  rw [e 8 (by omega), e 9 (by omega), e 11 (by omega)]
theorem h_eq.st {t g : h_T} {c : Nat} {i v : Int} (h : h_eq t g) (hc : c ≠ 0 ∨ (i ≠ 8 ∧ i ≠ 9 ∧ i ≠ 11)) : h_eq (hs t c i v) (hs g c i v) := by
  refine ⟨fun k hk => ?_, fun c' j hc' hj => ?_⟩
  · unfold hs
    split
    · rfl
    · exact h.1 k hk
  · rw [h_n_hs hc] at hj
    unfold hs
    split
    · rfl
    · exact h.2 c' j hc' hj
def h_bit (t : h_T) : Prop := ∀ i, (t 3 i = 0 ∨ t 3 i = 1) ∧ (t 8 i = 0 ∨ t 8 i = 1)
theorem h_bit.st {t : h_T} {c : Nat} {i v : Int} (h : h_bit t) (hv : (c ≠ 3 ∧ c ≠ 8) ∨ v = 0 ∨ v = 1) : h_bit (hs t c i v) := by
  intro j
  unfold hs
  refine ⟨?_, ?_⟩
  · split
    · rename_i q; rcases hv with hv | hv
      · exact absurd q.1.symm hv.1
      · exact hv
    · exact (h j).1
  · split
    · rename_i q; rcases hv with hv | hv
      · exact absurd q.1.symm hv.2
      · exact hv
    · exact (h j).2
def hhR (b : Nat) (g : h_T) (M : m_M) : Prop := ∃ t : h_T, hhP b t M ∧ h_eq t g ∧ h_bit t
theorem hhR.keep {b : Nat} {g : h_T} {M M2 : m_M} (h : hhR b g M) (hq : ∀ q : Nat, b ≤ q → q < b + 17 → M2.2 q = M.2 q) : hhR b g M2 := by
  obtain ⟨t, h1, h2, h3⟩ := h
  exact ⟨t, h1.keep hq, h2, h3⟩
theorem hhR.fr {b a n : Nat} {g : h_T} {M M2 : m_M} (h : hhR b g M) (hf : m_fr a n M M2) (hd : b + 17 ≤ a ∨ a + n ≤ b) : hhR b g M2 := h.keep (fun q h1 h2 => hf.2 q (by omega))
theorem hhR.eq {b : Nat} {g g2 : h_T} {M : m_M} (h : hhR b g M) (he : h_eq g g2) : hhR b g2 M := by
  obtain ⟨t, h1, h2, h3⟩ := h
  exact ⟨t, h1, h2.tr he, h3⟩
theorem hhR.ob {b : Nat} {g : h_T} {M : m_M} (h : hhR b g M) : M.2 (b) = some (m_ob 9 [.ref (b + 1), .ref (b + 2), .ref (b + 5), .ref (b + 11), VI (g 0 0), VI (g 0 1), VI (g 0 2), VI (g 0 3), VI (g 0 4), VI (g 0 5), VI (g 0 6), VI (g 0 7)]) := by
  obtain ⟨t, h, h2, -⟩ := h
  have e := h.1
  rw [h2.1 0 (by omega), h2.1 1 (by omega), h2.1 2 (by omega), h2.1 3 (by omega), h2.1 4 (by omega), h2.1 5 (by omega), h2.1 6 (by omega), h2.1 7 (by omega)] at e
  exact e
theorem hhR.br {b : Nat} {g : h_T} {M : m_M} (h : hhR b g M) : M.2 (b + 2) = some (m_ob 4 [.ref (b + 2 + 1), .ref (b + 2 + 2), VI (g 0 8)]) := by
  obtain ⟨t, h, h2, -⟩ := h
  have e := h.2.2.1.1
  rw [h2.1 8 (by omega)] at e
  exact e
theorem hhR.go {b : Nat} {g : h_T} {M : m_M} (h : hhR b g M) : M.2 (b + 5) = some (m_ob 7 [.ref (b + 5 + 1), .ref (b + 5 + 2), .ref (b + 5 + 3), .ref (b + 5 + 4), .ref (b + 5 + 5), VI (g 0 9)]) := by
  obtain ⟨t, h, h2, -⟩ := h
  have e := h.2.2.2.1.1
  rw [h2.1 9 (by omega)] at e
  exact e
theorem hhR.co {b : Nat} {g : h_T} {M : m_M} (h : hhR b g M) : M.2 (b + 11) = some (m_ob 6 [.ref (b + 11 + 1), .ref (b + 11 + 2), .ref (b + 11 + 3), .ref (b + 11 + 4), .ref (b + 11 + 5), VI (g 0 11), VI (g 0 10)]) := by
  obtain ⟨t, h, h2, -⟩ := h
  have e := h.2.2.2.2.1
  rw [h2.1 11 (by omega), h2.1 10 (by omega)] at e
  exact e
section m_RROWS
variable {D : va_G} {aC : Nat → ClassId} {s0 : State} {own : String} {cc : ByteArray} {nL : Nat} {p : Program} {l : Launch} {e : Env} {R : Room} {s : State} {m : MethodId} {args : Array Value} {below : List Frame} {meth : Method} {c : Code} {cells slots : Nat} {Q : State → Prop} {pc : Nat} {lv : List (Nat × Value)} {st : List Value} {M : m_M}
theorem m_ld1 (C : m_C D aC s0 own cc nL l p s m args meth c) {b : Nat} {g : h_T} {i : Int} (hR : hhR b g M) (hd : decode cc pc = .ok (.iaload, 1)) (h : 0 ≤ i ∧ i < 6) (hn : 6 ≤ 6) (kk : m_W D aC s0 nL p l e R s m args below meth c cells slots Q (pc + 1) lv (VI (g 1 i) :: st) M) : m_W D aC s0 nL p l e R s m args below meth c cells slots Q pc lv (VI i :: .ref (b + 1) :: st) M := by
  obtain ⟨t, hp, h2, -⟩ := hR
  refine m_iald C hd (hp.2.1) (by decide) (by omega) ?_
  rw [h2.2 1 i (by omega) h]
  exact kk
theorem m_st1 (C : m_C D aC s0 own cc nL l p s m args meth c) {b : Nat} {g : h_T} {i v : Int} (hR : hhR b g M) (hb : s0.heap.size ≤ b) (hd : decode cc pc = .ok (.iastore, 1)) (h : 0 ≤ i ∧ i < 6) (kk : ∀ M1 : m_M, hhR b (hs g 1 i v) M1 → m_fr b 17 M M1 → m_W D aC s0 nL p l e R s m args below meth c cells slots Q (pc + 1) lv st M1) : m_W D aC s0 nL p l e R s m args below meth c cells slots Q pc lv (VI v :: VI i :: .ref (b + 1) :: st) M := by
  obtain ⟨t, hp, h2, h3⟩ := hR
  exact m_hst1 C hp hb hd h (fun M1 q1 q2 => kk M1 ⟨_, q1, h2.st (Or.inl (by decide)), h3.st (Or.inl (by decide))⟩ q2)
theorem m_ld2 (C : m_C D aC s0 own cc nL l p s m args meth c) {b : Nat} {g : h_T} {i : Int} (hR : hhR b g M) (hd : decode cc pc = .ok (.iaload, 1)) (h : 0 ≤ i ∧ i < g 0 8) (hn : g 0 8 ≤ 4) (kk : m_W D aC s0 nL p l e R s m args below meth c cells slots Q (pc + 1) lv (VI (g 2 i) :: st) M) : m_W D aC s0 nL p l e R s m args below meth c cells slots Q pc lv (VI i :: .ref (b + 2 + 1) :: st) M := by
  obtain ⟨t, hp, h2, -⟩ := hR
  refine m_iald C hd (hp.2.2.1.2.1) (by decide) (by omega) ?_
  rw [h2.2 2 i (by omega) h]
  exact kk
theorem m_st2 (C : m_C D aC s0 own cc nL l p s m args meth c) {b : Nat} {g : h_T} {i v : Int} (hR : hhR b g M) (hb : s0.heap.size ≤ b) (hd : decode cc pc = .ok (.iastore, 1)) (h : 0 ≤ i ∧ i < 4) (kk : ∀ M1 : m_M, hhR b (hs g 2 i v) M1 → m_fr b 17 M M1 → m_W D aC s0 nL p l e R s m args below meth c cells slots Q (pc + 1) lv st M1) : m_W D aC s0 nL p l e R s m args below meth c cells slots Q pc lv (VI v :: VI i :: .ref (b + 2 + 1) :: st) M := by
  obtain ⟨t, hp, h2, h3⟩ := hR
  exact m_hst2 C hp hb hd h (fun M1 q1 q2 => kk M1 ⟨_, q1, h2.st (Or.inl (by decide)), h3.st (Or.inl (by decide))⟩ q2)
theorem m_ld3 (C : m_C D aC s0 own cc nL l p s m args meth c) {b : Nat} {g : h_T} {i : Int} (hR : hhR b g M) (hd : decode cc pc = .ok (.baload, 1)) (h : 0 ≤ i ∧ i < g 0 8) (hn : g 0 8 ≤ 4) (kk : m_W D aC s0 nL p l e R s m args below meth c cells slots Q (pc + 1) lv (VI (g 3 i) :: st) M) : m_W D aC s0 nL p l e R s m args below meth c cells slots Q pc lv (VI i :: .ref (b + 2 + 2) :: st) M := by
  obtain ⟨t, hp, h2, -⟩ := hR
  refine m_zald C hd (hp.2.2.1.2.2) (by decide) (by omega) ?_
  rw [h2.2 3 i (by omega) h]
  exact kk
theorem m_st3 (C : m_C D aC s0 own cc nL l p s m args meth c) {b : Nat} {g : h_T} {i v : Int} (hR : hhR b g M) (hb : s0.heap.size ≤ b) (hd : decode cc pc = .ok (.bastore, 1)) (h : 0 ≤ i ∧ i < 4) (hz : v = 0 ∨ v = 1) (kk : ∀ M1 : m_M, hhR b (hs g 3 i v) M1 → m_fr b 17 M M1 → m_W D aC s0 nL p l e R s m args below meth c cells slots Q (pc + 1) lv st M1) : m_W D aC s0 nL p l e R s m args below meth c cells slots Q pc lv (VI v :: VI i :: .ref (b + 2 + 2) :: st) M := by
  obtain ⟨t, hp, h2, h3⟩ := hR
  exact m_hst3 C hp hb hd h hz (fun M1 q1 q2 => kk M1 ⟨_, q1, h2.st (Or.inl (by decide)), h3.st (Or.inr hz)⟩ q2)
theorem m_ld4 (C : m_C D aC s0 own cc nL l p s m args meth c) {b : Nat} {g : h_T} {i : Int} (hR : hhR b g M) (hd : decode cc pc = .ok (.iaload, 1)) (h : 0 ≤ i ∧ i < g 0 9) (hn : g 0 9 ≤ 5) (kk : m_W D aC s0 nL p l e R s m args below meth c cells slots Q (pc + 1) lv (VI (g 4 i) :: st) M) : m_W D aC s0 nL p l e R s m args below meth c cells slots Q pc lv (VI i :: .ref (b + 5 + 1) :: st) M := by
  obtain ⟨t, hp, h2, -⟩ := hR
  refine m_iald C hd (hp.2.2.2.1.2.1) (by decide) (by omega) ?_
  rw [h2.2 4 i (by omega) h]
  exact kk
theorem m_st4 (C : m_C D aC s0 own cc nL l p s m args meth c) {b : Nat} {g : h_T} {i v : Int} (hR : hhR b g M) (hb : s0.heap.size ≤ b) (hd : decode cc pc = .ok (.iastore, 1)) (h : 0 ≤ i ∧ i < 5) (kk : ∀ M1 : m_M, hhR b (hs g 4 i v) M1 → m_fr b 17 M M1 → m_W D aC s0 nL p l e R s m args below meth c cells slots Q (pc + 1) lv st M1) : m_W D aC s0 nL p l e R s m args below meth c cells slots Q pc lv (VI v :: VI i :: .ref (b + 5 + 1) :: st) M := by
  obtain ⟨t, hp, h2, h3⟩ := hR
  exact m_hst4 C hp hb hd h (fun M1 q1 q2 => kk M1 ⟨_, q1, h2.st (Or.inl (by decide)), h3.st (Or.inl (by decide))⟩ q2)
theorem m_ld5 (C : m_C D aC s0 own cc nL l p s m args meth c) {b : Nat} {g : h_T} {i : Int} (hR : hhR b g M) (hd : decode cc pc = .ok (.iaload, 1)) (h : 0 ≤ i ∧ i < g 0 9) (hn : g 0 9 ≤ 5) (kk : m_W D aC s0 nL p l e R s m args below meth c cells slots Q (pc + 1) lv (VI (g 5 i) :: st) M) : m_W D aC s0 nL p l e R s m args below meth c cells slots Q pc lv (VI i :: .ref (b + 5 + 2) :: st) M := by
  obtain ⟨t, hp, h2, -⟩ := hR
  refine m_iald C hd (hp.2.2.2.1.2.2.1) (by decide) (by omega) ?_
  rw [h2.2 5 i (by omega) h]
  exact kk
theorem m_st5 (C : m_C D aC s0 own cc nL l p s m args meth c) {b : Nat} {g : h_T} {i v : Int} (hR : hhR b g M) (hb : s0.heap.size ≤ b) (hd : decode cc pc = .ok (.iastore, 1)) (h : 0 ≤ i ∧ i < 5) (kk : ∀ M1 : m_M, hhR b (hs g 5 i v) M1 → m_fr b 17 M M1 → m_W D aC s0 nL p l e R s m args below meth c cells slots Q (pc + 1) lv st M1) : m_W D aC s0 nL p l e R s m args below meth c cells slots Q pc lv (VI v :: VI i :: .ref (b + 5 + 2) :: st) M := by
  obtain ⟨t, hp, h2, h3⟩ := hR
  exact m_hst5 C hp hb hd h (fun M1 q1 q2 => kk M1 ⟨_, q1, h2.st (Or.inl (by decide)), h3.st (Or.inl (by decide))⟩ q2)
theorem m_ld6 (C : m_C D aC s0 own cc nL l p s m args meth c) {b : Nat} {g : h_T} {i : Int} (hR : hhR b g M) (hd : decode cc pc = .ok (.iaload, 1)) (h : 0 ≤ i ∧ i < g 0 9) (hn : g 0 9 ≤ 5) (kk : m_W D aC s0 nL p l e R s m args below meth c cells slots Q (pc + 1) lv (VI (g 6 i) :: st) M) : m_W D aC s0 nL p l e R s m args below meth c cells slots Q pc lv (VI i :: .ref (b + 5 + 3) :: st) M := by
  obtain ⟨t, hp, h2, -⟩ := hR
  refine m_iald C hd (hp.2.2.2.1.2.2.2.1) (by decide) (by omega) ?_
  rw [h2.2 6 i (by omega) h]
  exact kk
theorem m_st6 (C : m_C D aC s0 own cc nL l p s m args meth c) {b : Nat} {g : h_T} {i v : Int} (hR : hhR b g M) (hb : s0.heap.size ≤ b) (hd : decode cc pc = .ok (.iastore, 1)) (h : 0 ≤ i ∧ i < 5) (kk : ∀ M1 : m_M, hhR b (hs g 6 i v) M1 → m_fr b 17 M M1 → m_W D aC s0 nL p l e R s m args below meth c cells slots Q (pc + 1) lv st M1) : m_W D aC s0 nL p l e R s m args below meth c cells slots Q pc lv (VI v :: VI i :: .ref (b + 5 + 3) :: st) M := by
  obtain ⟨t, hp, h2, h3⟩ := hR
  exact m_hst6 C hp hb hd h (fun M1 q1 q2 => kk M1 ⟨_, q1, h2.st (Or.inl (by decide)), h3.st (Or.inl (by decide))⟩ q2)
theorem m_ld7 (C : m_C D aC s0 own cc nL l p s m args meth c) {b : Nat} {g : h_T} {i : Int} (hR : hhR b g M) (hd : decode cc pc = .ok (.iaload, 1)) (h : 0 ≤ i ∧ i < g 0 9) (hn : g 0 9 ≤ 5) (kk : m_W D aC s0 nL p l e R s m args below meth c cells slots Q (pc + 1) lv (VI (g 7 i) :: st) M) : m_W D aC s0 nL p l e R s m args below meth c cells slots Q pc lv (VI i :: .ref (b + 5 + 4) :: st) M := by
  obtain ⟨t, hp, h2, -⟩ := hR
  refine m_iald C hd (hp.2.2.2.1.2.2.2.2.1) (by decide) (by omega) ?_
  rw [h2.2 7 i (by omega) h]
  exact kk
theorem m_st7 (C : m_C D aC s0 own cc nL l p s m args meth c) {b : Nat} {g : h_T} {i v : Int} (hR : hhR b g M) (hb : s0.heap.size ≤ b) (hd : decode cc pc = .ok (.iastore, 1)) (h : 0 ≤ i ∧ i < 5) (kk : ∀ M1 : m_M, hhR b (hs g 7 i v) M1 → m_fr b 17 M M1 → m_W D aC s0 nL p l e R s m args below meth c cells slots Q (pc + 1) lv st M1) : m_W D aC s0 nL p l e R s m args below meth c cells slots Q pc lv (VI v :: VI i :: .ref (b + 5 + 4) :: st) M := by
  obtain ⟨t, hp, h2, h3⟩ := hR
  exact m_hst7 C hp hb hd h (fun M1 q1 q2 => kk M1 ⟨_, q1, h2.st (Or.inl (by decide)), h3.st (Or.inl (by decide))⟩ q2)
theorem m_ld8 (C : m_C D aC s0 own cc nL l p s m args meth c) {b : Nat} {g : h_T} {i : Int} (hR : hhR b g M) (hd : decode cc pc = .ok (.baload, 1)) (h : 0 ≤ i ∧ i < g 0 9) (hn : g 0 9 ≤ 5) (kk : m_W D aC s0 nL p l e R s m args below meth c cells slots Q (pc + 1) lv (VI (g 8 i) :: st) M) : m_W D aC s0 nL p l e R s m args below meth c cells slots Q pc lv (VI i :: .ref (b + 5 + 5) :: st) M := by
  obtain ⟨t, hp, h2, -⟩ := hR
  refine m_zald C hd (hp.2.2.2.1.2.2.2.2.2) (by decide) (by omega) ?_
  rw [h2.2 8 i (by omega) h]
  exact kk
theorem m_st8 (C : m_C D aC s0 own cc nL l p s m args meth c) {b : Nat} {g : h_T} {i v : Int} (hR : hhR b g M) (hb : s0.heap.size ≤ b) (hd : decode cc pc = .ok (.bastore, 1)) (h : 0 ≤ i ∧ i < 5) (hz : v = 0 ∨ v = 1) (kk : ∀ M1 : m_M, hhR b (hs g 8 i v) M1 → m_fr b 17 M M1 → m_W D aC s0 nL p l e R s m args below meth c cells slots Q (pc + 1) lv st M1) : m_W D aC s0 nL p l e R s m args below meth c cells slots Q pc lv (VI v :: VI i :: .ref (b + 5 + 5) :: st) M := by
  obtain ⟨t, hp, h2, h3⟩ := hR
  exact m_hst8 C hp hb hd h hz (fun M1 q1 q2 => kk M1 ⟨_, q1, h2.st (Or.inl (by decide)), h3.st (Or.inr hz)⟩ q2)
theorem m_ld9 (C : m_C D aC s0 own cc nL l p s m args meth c) {b : Nat} {g : h_T} {i : Int} (hR : hhR b g M) (hd : decode cc pc = .ok (.iaload, 1)) (h : 0 ≤ i ∧ i < g 0 11) (hn : g 0 11 ≤ 8) (kk : m_W D aC s0 nL p l e R s m args below meth c cells slots Q (pc + 1) lv (VI (g 9 i) :: st) M) : m_W D aC s0 nL p l e R s m args below meth c cells slots Q pc lv (VI i :: .ref (b + 11 + 1) :: st) M := by
  obtain ⟨t, hp, h2, -⟩ := hR
  refine m_iald C hd (hp.2.2.2.2.2.1) (by decide) (by omega) ?_
  rw [h2.2 9 i (by omega) h]
  exact kk
theorem m_st9 (C : m_C D aC s0 own cc nL l p s m args meth c) {b : Nat} {g : h_T} {i v : Int} (hR : hhR b g M) (hb : s0.heap.size ≤ b) (hd : decode cc pc = .ok (.iastore, 1)) (h : 0 ≤ i ∧ i < 8) (kk : ∀ M1 : m_M, hhR b (hs g 9 i v) M1 → m_fr b 17 M M1 → m_W D aC s0 nL p l e R s m args below meth c cells slots Q (pc + 1) lv st M1) : m_W D aC s0 nL p l e R s m args below meth c cells slots Q pc lv (VI v :: VI i :: .ref (b + 11 + 1) :: st) M := by
  obtain ⟨t, hp, h2, h3⟩ := hR
  exact m_hst9 C hp hb hd h (fun M1 q1 q2 => kk M1 ⟨_, q1, h2.st (Or.inl (by decide)), h3.st (Or.inl (by decide))⟩ q2)
theorem m_ld10 (C : m_C D aC s0 own cc nL l p s m args meth c) {b : Nat} {g : h_T} {i : Int} (hR : hhR b g M) (hd : decode cc pc = .ok (.iaload, 1)) (h : 0 ≤ i ∧ i < g 0 11) (hn : g 0 11 ≤ 8) (kk : m_W D aC s0 nL p l e R s m args below meth c cells slots Q (pc + 1) lv (VI (g 10 i) :: st) M) : m_W D aC s0 nL p l e R s m args below meth c cells slots Q pc lv (VI i :: .ref (b + 11 + 2) :: st) M := by
  obtain ⟨t, hp, h2, -⟩ := hR
  refine m_iald C hd (hp.2.2.2.2.2.2.1) (by decide) (by omega) ?_
  rw [h2.2 10 i (by omega) h]
  exact kk
theorem m_st10 (C : m_C D aC s0 own cc nL l p s m args meth c) {b : Nat} {g : h_T} {i v : Int} (hR : hhR b g M) (hb : s0.heap.size ≤ b) (hd : decode cc pc = .ok (.iastore, 1)) (h : 0 ≤ i ∧ i < 8) (kk : ∀ M1 : m_M, hhR b (hs g 10 i v) M1 → m_fr b 17 M M1 → m_W D aC s0 nL p l e R s m args below meth c cells slots Q (pc + 1) lv st M1) : m_W D aC s0 nL p l e R s m args below meth c cells slots Q pc lv (VI v :: VI i :: .ref (b + 11 + 2) :: st) M := by
  obtain ⟨t, hp, h2, h3⟩ := hR
  exact m_hst10 C hp hb hd h (fun M1 q1 q2 => kk M1 ⟨_, q1, h2.st (Or.inl (by decide)), h3.st (Or.inl (by decide))⟩ q2)
theorem m_ld11 (C : m_C D aC s0 own cc nL l p s m args meth c) {b : Nat} {g : h_T} {i : Int} (hR : hhR b g M) (hd : decode cc pc = .ok (.iaload, 1)) (h : 0 ≤ i ∧ i < g 0 11) (hn : g 0 11 ≤ 8) (kk : m_W D aC s0 nL p l e R s m args below meth c cells slots Q (pc + 1) lv (VI (g 11 i) :: st) M) : m_W D aC s0 nL p l e R s m args below meth c cells slots Q pc lv (VI i :: .ref (b + 11 + 3) :: st) M := by
  obtain ⟨t, hp, h2, -⟩ := hR
  refine m_iald C hd (hp.2.2.2.2.2.2.2.1) (by decide) (by omega) ?_
  rw [h2.2 11 i (by omega) h]
  exact kk
theorem m_st11 (C : m_C D aC s0 own cc nL l p s m args meth c) {b : Nat} {g : h_T} {i v : Int} (hR : hhR b g M) (hb : s0.heap.size ≤ b) (hd : decode cc pc = .ok (.iastore, 1)) (h : 0 ≤ i ∧ i < 8) (kk : ∀ M1 : m_M, hhR b (hs g 11 i v) M1 → m_fr b 17 M M1 → m_W D aC s0 nL p l e R s m args below meth c cells slots Q (pc + 1) lv st M1) : m_W D aC s0 nL p l e R s m args below meth c cells slots Q pc lv (VI v :: VI i :: .ref (b + 11 + 3) :: st) M := by
  obtain ⟨t, hp, h2, h3⟩ := hR
  exact m_hst11 C hp hb hd h (fun M1 q1 q2 => kk M1 ⟨_, q1, h2.st (Or.inl (by decide)), h3.st (Or.inl (by decide))⟩ q2)
theorem m_ld12 (C : m_C D aC s0 own cc nL l p s m args meth c) {b : Nat} {g : h_T} {i : Int} (hR : hhR b g M) (hd : decode cc pc = .ok (.iaload, 1)) (h : 0 ≤ i ∧ i < g 0 11) (hn : g 0 11 ≤ 8) (kk : m_W D aC s0 nL p l e R s m args below meth c cells slots Q (pc + 1) lv (VI (g 12 i) :: st) M) : m_W D aC s0 nL p l e R s m args below meth c cells slots Q pc lv (VI i :: .ref (b + 11 + 4) :: st) M := by
  obtain ⟨t, hp, h2, -⟩ := hR
  refine m_iald C hd (hp.2.2.2.2.2.2.2.2.1) (by decide) (by omega) ?_
  rw [h2.2 12 i (by omega) h]
  exact kk
theorem m_st12 (C : m_C D aC s0 own cc nL l p s m args meth c) {b : Nat} {g : h_T} {i v : Int} (hR : hhR b g M) (hb : s0.heap.size ≤ b) (hd : decode cc pc = .ok (.iastore, 1)) (h : 0 ≤ i ∧ i < 8) (kk : ∀ M1 : m_M, hhR b (hs g 12 i v) M1 → m_fr b 17 M M1 → m_W D aC s0 nL p l e R s m args below meth c cells slots Q (pc + 1) lv st M1) : m_W D aC s0 nL p l e R s m args below meth c cells slots Q pc lv (VI v :: VI i :: .ref (b + 11 + 4) :: st) M := by
  obtain ⟨t, hp, h2, h3⟩ := hR
  exact m_hst12 C hp hb hd h (fun M1 q1 q2 => kk M1 ⟨_, q1, h2.st (Or.inl (by decide)), h3.st (Or.inl (by decide))⟩ q2)
theorem m_ld13 (C : m_C D aC s0 own cc nL l p s m args meth c) {b : Nat} {g : h_T} {i : Int} (hR : hhR b g M) (hd : decode cc pc = .ok (.iaload, 1)) (h : 0 ≤ i ∧ i < g 0 11) (hn : g 0 11 ≤ 8) (kk : m_W D aC s0 nL p l e R s m args below meth c cells slots Q (pc + 1) lv (VI (g 13 i) :: st) M) : m_W D aC s0 nL p l e R s m args below meth c cells slots Q pc lv (VI i :: .ref (b + 11 + 5) :: st) M := by
  obtain ⟨t, hp, h2, -⟩ := hR
  refine m_iald C hd (hp.2.2.2.2.2.2.2.2.2) (by decide) (by omega) ?_
  rw [h2.2 13 i (by omega) h]
  exact kk
theorem m_st13 (C : m_C D aC s0 own cc nL l p s m args meth c) {b : Nat} {g : h_T} {i v : Int} (hR : hhR b g M) (hb : s0.heap.size ≤ b) (hd : decode cc pc = .ok (.iastore, 1)) (h : 0 ≤ i ∧ i < 8) (kk : ∀ M1 : m_M, hhR b (hs g 13 i v) M1 → m_fr b 17 M M1 → m_W D aC s0 nL p l e R s m args below meth c cells slots Q (pc + 1) lv st M1) : m_W D aC s0 nL p l e R s m args below meth c cells slots Q pc lv (VI v :: VI i :: .ref (b + 11 + 5) :: st) M := by
  obtain ⟨t, hp, h2, h3⟩ := hR
  exact m_hst13 C hp hb hd h (fun M1 q1 q2 => kk M1 ⟨_, q1, h2.st (Or.inl (by decide)), h3.st (Or.inl (by decide))⟩ q2)
theorem m_ss0 (C : m_C D aC s0 own cc nL l p s m args meth c) {b : Nat} {g : h_T} {v : Int} {idx : Nat} (hR : hhR b g M) (hb : s0.heap.size ≤ b) (hd : decode cc pc = .ok (.putfield idx, 3)) (hf : m_fl own idx 9 4) (kk : ∀ M1 : m_M, hhR b (hs g 0 0 v) M1 → m_fr b 17 M M1 → m_W D aC s0 nL p l e R s m args below meth c cells slots Q (pc + 3) lv st M1) : m_W D aC s0 nL p l e R s m args below meth c cells slots Q pc lv (VI v :: .ref (b) :: st) M := by
  obtain ⟨t, hp, h2, h3⟩ := hR
  exact m_hss0 C hp hb hd hf (fun M1 q1 q2 => kk M1 ⟨_, q1, h2.st (Or.inr (by decide)), h3.st (Or.inl (by decide))⟩ q2)
theorem m_ss1 (C : m_C D aC s0 own cc nL l p s m args meth c) {b : Nat} {g : h_T} {v : Int} {idx : Nat} (hR : hhR b g M) (hb : s0.heap.size ≤ b) (hd : decode cc pc = .ok (.putfield idx, 3)) (hf : m_fl own idx 9 5) (kk : ∀ M1 : m_M, hhR b (hs g 0 1 v) M1 → m_fr b 17 M M1 → m_W D aC s0 nL p l e R s m args below meth c cells slots Q (pc + 3) lv st M1) : m_W D aC s0 nL p l e R s m args below meth c cells slots Q pc lv (VI v :: .ref (b) :: st) M := by
  obtain ⟨t, hp, h2, h3⟩ := hR
  exact m_hss1 C hp hb hd hf (fun M1 q1 q2 => kk M1 ⟨_, q1, h2.st (Or.inr (by decide)), h3.st (Or.inl (by decide))⟩ q2)
theorem m_ss2 (C : m_C D aC s0 own cc nL l p s m args meth c) {b : Nat} {g : h_T} {v : Int} {idx : Nat} (hR : hhR b g M) (hb : s0.heap.size ≤ b) (hd : decode cc pc = .ok (.putfield idx, 3)) (hf : m_fl own idx 9 6) (kk : ∀ M1 : m_M, hhR b (hs g 0 2 v) M1 → m_fr b 17 M M1 → m_W D aC s0 nL p l e R s m args below meth c cells slots Q (pc + 3) lv st M1) : m_W D aC s0 nL p l e R s m args below meth c cells slots Q pc lv (VI v :: .ref (b) :: st) M := by
  obtain ⟨t, hp, h2, h3⟩ := hR
  exact m_hss2 C hp hb hd hf (fun M1 q1 q2 => kk M1 ⟨_, q1, h2.st (Or.inr (by decide)), h3.st (Or.inl (by decide))⟩ q2)
theorem m_ss3 (C : m_C D aC s0 own cc nL l p s m args meth c) {b : Nat} {g : h_T} {v : Int} {idx : Nat} (hR : hhR b g M) (hb : s0.heap.size ≤ b) (hd : decode cc pc = .ok (.putfield idx, 3)) (hf : m_fl own idx 9 7) (kk : ∀ M1 : m_M, hhR b (hs g 0 3 v) M1 → m_fr b 17 M M1 → m_W D aC s0 nL p l e R s m args below meth c cells slots Q (pc + 3) lv st M1) : m_W D aC s0 nL p l e R s m args below meth c cells slots Q pc lv (VI v :: .ref (b) :: st) M := by
  obtain ⟨t, hp, h2, h3⟩ := hR
  exact m_hss3 C hp hb hd hf (fun M1 q1 q2 => kk M1 ⟨_, q1, h2.st (Or.inr (by decide)), h3.st (Or.inl (by decide))⟩ q2)
theorem m_ss4 (C : m_C D aC s0 own cc nL l p s m args meth c) {b : Nat} {g : h_T} {v : Int} {idx : Nat} (hR : hhR b g M) (hb : s0.heap.size ≤ b) (hd : decode cc pc = .ok (.putfield idx, 3)) (hf : m_fl own idx 9 8) (kk : ∀ M1 : m_M, hhR b (hs g 0 4 v) M1 → m_fr b 17 M M1 → m_W D aC s0 nL p l e R s m args below meth c cells slots Q (pc + 3) lv st M1) : m_W D aC s0 nL p l e R s m args below meth c cells slots Q pc lv (VI v :: .ref (b) :: st) M := by
  obtain ⟨t, hp, h2, h3⟩ := hR
  exact m_hss4 C hp hb hd hf (fun M1 q1 q2 => kk M1 ⟨_, q1, h2.st (Or.inr (by decide)), h3.st (Or.inl (by decide))⟩ q2)
theorem m_ss5 (C : m_C D aC s0 own cc nL l p s m args meth c) {b : Nat} {g : h_T} {v : Int} {idx : Nat} (hR : hhR b g M) (hb : s0.heap.size ≤ b) (hd : decode cc pc = .ok (.putfield idx, 3)) (hf : m_fl own idx 9 9) (kk : ∀ M1 : m_M, hhR b (hs g 0 5 v) M1 → m_fr b 17 M M1 → m_W D aC s0 nL p l e R s m args below meth c cells slots Q (pc + 3) lv st M1) : m_W D aC s0 nL p l e R s m args below meth c cells slots Q pc lv (VI v :: .ref (b) :: st) M := by
  obtain ⟨t, hp, h2, h3⟩ := hR
  exact m_hss5 C hp hb hd hf (fun M1 q1 q2 => kk M1 ⟨_, q1, h2.st (Or.inr (by decide)), h3.st (Or.inl (by decide))⟩ q2)
theorem m_ss6 (C : m_C D aC s0 own cc nL l p s m args meth c) {b : Nat} {g : h_T} {v : Int} {idx : Nat} (hR : hhR b g M) (hb : s0.heap.size ≤ b) (hd : decode cc pc = .ok (.putfield idx, 3)) (hf : m_fl own idx 9 10) (kk : ∀ M1 : m_M, hhR b (hs g 0 6 v) M1 → m_fr b 17 M M1 → m_W D aC s0 nL p l e R s m args below meth c cells slots Q (pc + 3) lv st M1) : m_W D aC s0 nL p l e R s m args below meth c cells slots Q pc lv (VI v :: .ref (b) :: st) M := by
  obtain ⟨t, hp, h2, h3⟩ := hR
  exact m_hss6 C hp hb hd hf (fun M1 q1 q2 => kk M1 ⟨_, q1, h2.st (Or.inr (by decide)), h3.st (Or.inl (by decide))⟩ q2)
theorem m_ss7 (C : m_C D aC s0 own cc nL l p s m args meth c) {b : Nat} {g : h_T} {v : Int} {idx : Nat} (hR : hhR b g M) (hb : s0.heap.size ≤ b) (hd : decode cc pc = .ok (.putfield idx, 3)) (hf : m_fl own idx 9 11) (kk : ∀ M1 : m_M, hhR b (hs g 0 7 v) M1 → m_fr b 17 M M1 → m_W D aC s0 nL p l e R s m args below meth c cells slots Q (pc + 3) lv st M1) : m_W D aC s0 nL p l e R s m args below meth c cells slots Q pc lv (VI v :: .ref (b) :: st) M := by
  obtain ⟨t, hp, h2, h3⟩ := hR
  exact m_hss7 C hp hb hd hf (fun M1 q1 q2 => kk M1 ⟨_, q1, h2.st (Or.inr (by decide)), h3.st (Or.inl (by decide))⟩ q2)
theorem m_ss10 (C : m_C D aC s0 own cc nL l p s m args meth c) {b : Nat} {g : h_T} {v : Int} {idx : Nat} (hR : hhR b g M) (hb : s0.heap.size ≤ b) (hd : decode cc pc = .ok (.putfield idx, 3)) (hf : m_fl own idx 6 6) (kk : ∀ M1 : m_M, hhR b (hs g 0 10 v) M1 → m_fr b 17 M M1 → m_W D aC s0 nL p l e R s m args below meth c cells slots Q (pc + 3) lv st M1) : m_W D aC s0 nL p l e R s m args below meth c cells slots Q pc lv (VI v :: .ref (b + 11) :: st) M := by
  obtain ⟨t, hp, h2, h3⟩ := hR
  exact m_hss10 C hp hb hd hf (fun M1 q1 q2 => kk M1 ⟨_, q1, h2.st (Or.inr (by decide)), h3.st (Or.inl (by decide))⟩ q2)
end m_RROWS
