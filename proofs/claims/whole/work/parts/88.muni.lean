/-! one form for all calls: r = (which exception, answer), W the state of both -/
abbrev gW : Type := h_T × h_T × (Nat → h_T) × (Int → Int) × List Int × List Int
def gIn (z0 : Nat) (fo : Nat → Nat) (x w : Nat) (W : gW) (M : m_M) : Prop := ghP z0 fo x w W.1 W.2.1 W.2.2.1 W.2.2.2.1 W.2.2.2.2.1 W.2.2.2.2.2 M
def mIn (a : Nat) (th : Int) (W : gW) (M : m_M) : Prop := mdP a th W.1 W.2.1 W.2.2.1 W.2.2.2.1 W.2.2.2.2.1 W.2.2.2.2.2 M
/-- what holds of a state ahead of each call -/
def lI (K : Int) (W : gW) : Prop := h_I K W.1 ∧ (W.2.2.2.1 1 = 1 → h_I K W.2.1) ∧ (∀ i : Nat, (i : Int) < W.2.2.2.1 0 → h_I K (W.2.2.1 i)) ∧ (0 ≤ W.2.2.2.1 0 ∧ W.2.2.2.1 0 ≤ 8) ∧ (W.2.2.2.1 1 = 0 ∨ W.2.2.2.1 1 = 1) ∧ (-1 ≤ W.2.2.2.1 2 ∧ W.2.2.2.1 2 ≤ 1000) ∧ (-1 ≤ W.2.2.2.1 3 ∧ W.2.2.2.1 3 ≤ 1000) ∧
  W.2.2.2.2.1.length ≤ 60 ∧ W.2.2.2.2.2.length ≤ 240
theorem lI.mono {K K2 : Int} {W : gW} (h : lI K W) (hk : K ≤ K2) : lI K2 W := ⟨h.1.mono hk, fun z => (h.2.1 z).mono hk, fun i hi => (h.2.2.1 i hi).mono hk, h.2.2.2⟩
theorem lI.B {K : Int} {W : gW} (h : lI K W) (hK : K ≤ 100000000) : h_B W.1 := h.1.1.toB hK
theorem lI.q0 {K : Int} {W : gW} (h : lI K W) : 0 ≤ W.2.2.2.1 0 ∧ W.2.2.2.1 0 ≤ 8 := h.2.2.2.1
theorem lI.cL {K : Int} {W : gW} (h : lI K W) (i : Nat) (hi : (i : Int) < W.2.2.2.1 0) : cB (W.2.2.1 i) := ⟨(h.2.2.1 i hi).1.n8.2, (h.2.2.1 i hi).1.n9.2, (h.2.2.1 i hi).1.n11.2⟩
def iR (z : Int) : Prop := -2147483648 ≤ z ∧ z < 2147483648
theorem m_Met.mono {D : va_G} {aC : Nat → ClassId} {s0 : State} {l : Launch} {y : MethodName} {cc : ByteArray} {nL : Nat} {ret : Option FieldType} {d mc ms : Nat} {As : List Value} {M : m_M} {post post2 : Option Value → m_M → Prop} {px px2 : String → m_M → Prop} (h : m_Met D aC s0 l y cc nL ret d mc ms As M post px) (h1 : ∀ v M', post v M' → post2 v M') (h2 : ∀ E M', px E M' → px2 E M') : m_Met D aC s0 l y cc nL ret d mc ms As M post2 px2 := by
  refine MetFree.mono h (fun _ _ z => z) (fun _ _ _ _ _ z => z) (fun a s o s' _ hq => ?_)
  rcases hq with ⟨⟨⟨v, M', ho, hp, hH⟩, hF⟩, hL⟩ | ⟨q, ho, E, ce, L, ⟨⟨M', hp, hH⟩, hF⟩, hr⟩
  · exact Or.inl ⟨⟨⟨v, M', ho, h1 _ _ hp, hH⟩, hF⟩, hL⟩
  · exact Or.inr ⟨q, ho, E, ce, L, ⟨⟨M', h2 _ _ hp, hH⟩, hF⟩, hr⟩
/-- the class's form, the reference's form -/
def cU (D : va_G) (aC : Nat → ClassId) (s0 : State) (l : Launch) (fo : Nat → Nat) (x w : Nat) (y : MethodName) (cc : ByteArray) (nL : Nat) (ret : Option FieldType) (d : Nat) (As : List Value) (M : m_M) (Es : List String) (r : Int × Int) (W2 : gW) : Prop :=
  m_Met D aC s0 l y cc nL ret d 470 940 As M (g_pq r (fun M' => gIn s0.heap.size fo x w W2 M' ∧ gFr x w M M')) (g_pxq Es r (fun M' => gIn s0.heap.size fo x w W2 M' ∧ gFr x w M M'))
def mQ (a : Nat) (r : Int × Int) (W2 : gW) (M : m_M) : Option Value → m_M → Prop := fun v M' => ∃ z : Int, v = some (VI z) ∧ (r.1 = 0 → z = r.2) ∧ mIn a r.1 W2 M' ∧ m_fr a 10 M M'
def mU (D : va_G) (aC : Nat → ClassId) (s0 : State) (l : Launch) (a : Nat) (y : MethodName) (cc : ByteArray) (nL : Nat) (ret : Option FieldType) (d : Nat) (As : List Value) (M : m_M) (r : Int × Int) (W2 : gW) : Prop :=
  m_Met D aC s0 l y cc nL ret d 0 0 As M (mQ a r W2 M) m_nx
section m_UNI
variable {D : va_G} {aC : Nat → ClassId} {s0 : State} {l : Launch} {fo : Nat → Nat} {x w a : Nat} {y : MethodName} {cc : ByteArray} {nL d : Nat} {ret : Option FieldType} {As : List Value} {M : m_M} {Es : List String} {r : Int × Int} {W W2 : gW}
theorem cU.po (hG : gIn s0.heap.size fo x w W M) (h : m_Met D aC s0 l y cc nL ret d 470 940 As M (g_po r M) (g_px Es r M)) : cU D aC s0 l fo x w y cc nL ret d As M Es r W :=
  m_Met.mono h (fun v M' h => ⟨h.1, h.2.1, by rw [h.2.2]; exact ⟨hG, gFr.rf⟩⟩) (fun E M' h => ⟨h.1, ghP.grow hG h.2.1 h.2.2, gFr.gr h.2.1 h.2.2⟩)
theorem cU.two (h : m_Met D aC s0 l y cc nL ret d 470 940 As M (g_pq r (fun M' => gIn s0.heap.size fo x w W2 M' ∧ gFr x w M M')) (g_pxq Es r (fun M' => gIn s0.heap.size fo x w W M' ∧ gFr x w M M'))) : cU D aC s0 l fo x w y cc nL ret d As M Es r (if r.1 = 0 then W2 else W) :=
  m_Met.mono h (fun v M' h => ⟨h.1, h.2.1, by rw [if_pos h.1]; exact h.2.2⟩) (fun E M' h => ⟨h.1, by rw [if_neg (by have := h.1.1; omega)]; exact h.2⟩)
def kS (cs : List Int) (S : Int × h_T) : Int × Int := (o_th cs S.1, S.1)
def kW (S : Int × h_T) (W : gW) : gW := (S.2, W.2.1, if S.1 < 0 then W.2.2.1 else c_L (W.2.2.2.1 0) W.1 W.2.2.1, if S.1 < 0 then W.2.2.2.1 else c_q W.2.2.2.1, W.2.2.2.2.1, W.2.2.2.2.2)
theorem cU.ch {cs : List Int} {S : Int × h_T} (hok : S_ok cs W.1 S) (hcs : ∀ z ∈ cs, z < 0 → 1 ≤ o_th cs z ∧ Es[(o_th cs z - 1).toNat]? = some (e_code z))
    (h : m_Met D aC s0 l y cc nL ret d 470 940 As M (fun v M' => v = some (VI S.1) ∧ 0 ≤ S.1 ∧ ghP s0.heap.size fo x w S.2 W.2.1 (c_L (W.2.2.2.1 0) W.1 W.2.2.1) (c_q W.2.2.2.1) W.2.2.2.2.1 W.2.2.2.2.2 M' ∧ gFr x w M M') (fun E M' => (S.1 < 0 ∧ E = e_code S.1) ∧ ghP s0.heap.size fo x w S.2 W.2.1 W.2.2.1 W.2.2.2.1 W.2.2.2.2.1 W.2.2.2.2.2 M' ∧ gFr x w M M')) : cU D aC s0 l fo x w y cc nL ret d As M Es (kS cs S) (kW S W) := by
  refine m_Met.mono h (fun v M' h => ?_) (fun E M' h => ?_)
  · obtain ⟨h1, h2, h3, h4⟩ := h
    have e : kW S W = (S.2, W.2.1, c_L (W.2.2.2.1 0) W.1 W.2.2.1, c_q W.2.2.2.1, W.2.2.2.2.1, W.2.2.2.2.2) := by
      unfold kW
      rw [if_neg (by omega), if_neg (by omega)]
    exact ⟨if_pos h2, h1, by rw [e]; exact h3, h4⟩
  · obtain ⟨⟨h1, h2⟩, h3, h4⟩ := h
    have e : kW S W = (S.2, W.2.1, W.2.2.1, W.2.2.2.1, W.2.2.2.2.1, W.2.2.2.2.2) := by
      unfold kW
      rw [if_pos h1, if_pos h1]
    have hm : S.1 ∈ cs := by
      rcases hok with z | z
      · omega
      · exact z.1
    have hz := hcs _ hm h1
    exact ⟨⟨hz.1, by rw [h2]; exact hz.2⟩, by rw [e]; exact h3, h4⟩
theorem mU.ch {cs : List Int} {S : Int × h_T} (h : m_Met D aC s0 l y cc nL ret d 0 0 As M (m_chP a cs S W.2.1 (c_L (W.2.2.2.1 0) W.1 W.2.2.1) W.2.2.1 W.2.2.2.1 W.2.2.2.2.1 W.2.2.2.2.2 M) m_nx) : mU D aC s0 l a y cc nL ret d As M (kS cs S) (kW S W) := by
  refine m_Met.mono h (fun v M' h => ?_) (fun _ _ h => h)
  obtain ⟨h1, h2, h3⟩ := h
  refine ⟨_, h1, fun hz => ?_, h2, h3⟩
  have : ¬ S.1 < 0 := fun z => by
    have h9 : o_th cs S.1 = 0 := hz
    unfold o_th at h9
    rw [if_neg (by omega)] at h9
    have key : ∀ cs : List Int, 1 ≤ o_ix cs S.1 := by
      intro cs
      induction cs with
      | nil => exact Int.le_refl _
      | cons c cs ih => rw [o_ix]; split <;> omega
    have := key cs
    omega
  show (if S.1 < 0 then 0 else S.1) = S.1
  rw [if_neg this]
theorem mU.qu {wd g : h_T} {th : Int} (hg : W.1 = g) (hW : mdW wd th W.2.1 W.2.2.1 W.2.2.2.1 W.2.2.2.2.1 W.2.2.2.2.2) (h : m_Met D aC s0 l y cc nL ret d 0 0 As M (m_qu a wd g r M) m_nx) : mU D aC s0 l a y cc nL ret d As M r W :=
  m_Met.mono h (fun v M' h => ⟨_, h.1, fun _ => rfl, ⟨_, by rw [hg]; exact h.2.1, hW.th r.1⟩, h.2.2⟩) (fun _ _ h => h)
theorem mU.qx {wd g : h_T} {th : Int} (hg : W.1 = g) (hW : mdW wd th W.2.1 W.2.2.1 W.2.2.2.1 W.2.2.2.2.1 W.2.2.2.2.2) (h : m_Met D aC s0 l y cc nL ret d 0 0 As M (m_qx a wd g r M) m_nx) : mU D aC s0 l a y cc nL ret d As M r W :=
  m_Met.mono h (fun v M' h => by
    obtain ⟨h1, ⟨w2, h2, h3⟩, h4⟩ := h
    exact ⟨_, h1, fun _ => rfl, ⟨w2, by rw [hg]; exact h2, h3.W hW⟩, h4⟩) (fun _ _ h => h)
end m_UNI
theorem kS_R {cs : List Int} {S : Int × h_T} {g : h_T} (hok : S_ok cs g S) (hb : ∀ z ∈ cs, -2147483648 ≤ z ∧ z < 2147483648) : iR (kS cs S).2 := by
  rcases hok with z | z
  · exact ⟨by show -2147483648 ≤ S.1; omega, by show S.1 < 2147483648; omega⟩
  · exact hb _ z.1
/-- the invariant behind a change -/
theorem lI.ch {K : Int} {W : gW} {S : Int × h_T} {cs : List Int} (h : lI K W) (hI : h_Ip K S) (hok : S_ok cs W.1 S) : lI (K + 5300) (kW S W) := by
  obtain ⟨h1, h2, h3, h4, h5, h6, h7, h8, h9⟩ := h
  refine ⟨hI, ?_, ?_, ?_, ?_, ?_, ?_, h8, h9⟩
  · intro z
    have z2 : W.2.2.2.1 1 = 1 := by
      have z3 : (if S.1 < 0 then W.2.2.2.1 else c_q W.2.2.2.1) 1 = 1 := z
      split at z3 <;> exact z3
    exact (h2 z2).mono (by omega)
  · intro i hi
    show h_I (K + 5300) ((if S.1 < 0 then W.2.2.1 else c_L (W.2.2.2.1 0) W.1 W.2.2.1) i)
    have hi2 : (i : Int) < (if S.1 < 0 then W.2.2.2.1 else c_q W.2.2.2.1) 0 := hi
    by_cases c : S.1 < 0
    · rw [if_pos c] at hi2 ⊢
      exact (h3 i hi2).mono (by omega)
    · rw [if_neg c] at hi2 ⊢
      have e : c_q W.2.2.2.1 0 = min (W.2.2.2.1 0 + 1) 8 := by unfold c_q m_ug; rw [if_pos rfl]
      rw [e] at hi2
      unfold c_L
      split
      · split
        · exact h1.mono (by omega)
        · exact (h3 i (by omega)).mono (by omega)
      · split
        · exact h1.mono (by omega)
        · exact (h3 (i + 1) (by omega)).mono (by omega)
  · show 0 ≤ (if S.1 < 0 then W.2.2.2.1 else c_q W.2.2.2.1) 0 ∧ (if S.1 < 0 then W.2.2.2.1 else c_q W.2.2.2.1) 0 ≤ 8
    split
    · exact h4
    · have e : c_q W.2.2.2.1 0 = min (W.2.2.2.1 0 + 1) 8 := by unfold c_q m_ug; rw [if_pos rfl]
      rw [e]
      omega
  · show (if S.1 < 0 then W.2.2.2.1 else c_q W.2.2.2.1) 1 = 0 ∨ (if S.1 < 0 then W.2.2.2.1 else c_q W.2.2.2.1) 1 = 1
    split <;> exact h5
  · show -1 ≤ (if S.1 < 0 then W.2.2.2.1 else c_q W.2.2.2.1) 2 ∧ (if S.1 < 0 then W.2.2.2.1 else c_q W.2.2.2.1) 2 ≤ 1000
    split <;> exact h6
  · show -1 ≤ (if S.1 < 0 then W.2.2.2.1 else c_q W.2.2.2.1) 3 ∧ (if S.1 < 0 then W.2.2.2.1 else c_q W.2.2.2.1) 3 ≤ 1000
    split <;> exact h7
/-- the letters of the script and of the output -/
theorem getD_hi {t : List Int} {i : Nat} (h : t.length ≤ i) : t.getD i 0 = 0 := by
  rw [List.getD_eq_getElem?_getD, List.getElem?_eq_none h]
  rfl
theorem gIn.tx {z0 : Nat} {fo : Nat → Nat} {x w : Nat} {W : gW} {M : m_M} (h : gIn z0 fo x w W M) (i : Nat) : 0 ≤ W.2.2.2.2.1.getD i 0 ∧ W.2.2.2.2.1.getD i 0 < 128 := by
  obtain ⟨-, -, -, -, -, -, -, v, n, v2, n2, cnt, fur, CM, hS, hO, -⟩ := h
  by_cases c : i < W.2.2.2.2.1.length
  · exact hS.2.1.ch (i : Int) (by omega)
  · rw [getD_hi (by omega)]; decide
theorem gIn.ot {z0 : Nat} {fo : Nat → Nat} {x w : Nat} {W : gW} {M : m_M} (h : gIn z0 fo x w W M) (i : Nat) : 0 ≤ W.2.2.2.2.2.getD i 0 ∧ W.2.2.2.2.2.getD i 0 < 128 := by
  obtain ⟨-, -, -, -, -, -, -, v, n, v2, n2, cnt, fur, CM, hS, hO, -⟩ := h
  by_cases c : i < W.2.2.2.2.2.length
  · exact hO.ch (i : Int) (by omega)
  · rw [getD_hi (by omega)]; decide
/-- the other answers and states -/
def rType (W : gW) (y : Int) : Int × Int := if y < 32 ∨ 126 < y then (1, 0) else if 60 ≤ (W.2.2.2.2.1.length : Int) then (2, 0) else (0, (W.2.2.2.2.1.length : Int) + 1)
def wTx (W : gW) (t : List Int) : gW := (W.1, W.2.1, W.2.2.1, W.2.2.2.1, t, W.2.2.2.2.2)
def wOt (W : gW) (t : List Int) : gW := (W.1, W.2.1, W.2.2.1, W.2.2.2.1, W.2.2.2.2.1, t)
def rUndo (W : gW) : Int × Int := G_if (W.2.2.2.1 0 ≠ 0) (W.2.2.2.1 0 - 1)
def wUndo (W : gW) : gW := (W.2.2.1 (W.2.2.2.1 0 - 1).toNat, W.2.1, W.2.2.1, m_ug W.2.2.2.1 0 (W.2.2.2.1 0 - 1), W.2.2.2.2.1, W.2.2.2.2.2)
def rRes (W : gW) : Int × Int := G_if (W.2.2.2.1 1 = 1) (W.2.1 0 11)
def wRes (W : gW) : gW := (W.2.1, W.2.1, W.2.2.1, m_ug W.2.2.2.1 0 0, W.2.2.2.2.1, W.2.2.2.2.2)
def wSave (W : gW) : gW := (W.1, W.1, W.2.2.1, m_ug W.2.2.2.1 1 1, W.2.2.2.2.1, W.2.2.2.2.2)
def rsc (W : gW) : Bool × Int × List (Nat × List Int) := p_rcs W.2.2.2.2.1 12 0 0
def rRun (W : gW) : Int × Int := if (rsc W).1 = false then (1, 0) else if (S_runs (rsc W).2.2 0 W.1).1 ≠ -1 then (2, 0) else (0, ((rsc W).2.2.length : Int))
def wRun (W : gW) : gW := if (rsc W).1 = false then (W.1, W.2.1, W.2.2.1, m_ug W.2.2.2.1 2 (rsc W).2.1, [], W.2.2.2.2.2) else if (S_runs (rsc W).2.2 0 W.1).1 ≠ -1 then (W.1, W.2.1, W.2.2.1, m_ug W.2.2.2.1 3 (S_runs (rsc W).2.2 0 W.1).1, [], W.2.2.2.2.2) else ((S_runs (rsc W).2.2 0 W.1).2, W.2.1, c_L (W.2.2.2.1 0) W.1 W.2.2.1, c_q W.2.2.2.1, [], W.2.2.2.2.2)
theorem R_gob_len {g : h_T} (hB : h_B g) {y : Int} (hy : 0 ≤ y ∧ y < g 0 9) : (R_gob g y).length ≤ 40 := by
  have c := hB.go hy
  have h9 := hB.n9
  have e1 := S_dig1 (z := y) (by omega)
  have e2 := S_dig1 (z := g 4 y) (by omega)
  have e3 := S_dig10 (z := g 5 y) (by omega)
  have e4 := S_dig10 (z := g 6 y) (by omega)
  have e5 : (R_g1 g y).length ≤ 14 := by
    unfold R_g1
    simp only [List.length_append, List.length_cons, List.length_nil]
    omega
  have e6 : (R_g2 g y).length ≤ 25 := by
    unfold R_g2
    split
    · simp only [List.length_append, List.length_cons, List.length_nil]
      omega
    · omega
  unfold R_gob
  split
  · simp only [List.length_append, List.length_cons, List.length_nil]
    omega
  · omega
theorem lI.tx {K : Int} {W : gW} (h : lI K W) {t : List Int} (ht : t.length ≤ 60) : lI K (wTx W t) := ⟨h.1, h.2.1, h.2.2.1, h.2.2.2.1, h.2.2.2.2.1, h.2.2.2.2.2.1, h.2.2.2.2.2.2.1, ht, h.2.2.2.2.2.2.2.2⟩
theorem lI.ot {K : Int} {W : gW} (h : lI K W) {t : List Int} (ht : t.length ≤ 240) : lI K (wOt W t) := ⟨h.1, h.2.1, h.2.2.1, h.2.2.2.1, h.2.2.2.2.1, h.2.2.2.2.2.1, h.2.2.2.2.2.2.1, h.2.2.2.2.2.2.2.1, ht⟩
theorem ug_n {q : Int → Int} {i v k : Int} (h : k ≠ i) : m_ug q i v k = q k := if_neg h
theorem ug_s {q : Int → Int} {i v : Int} : m_ug q i v i = v := if_pos rfl
theorem lI.undo {K : Int} {W : gW} (h : lI K W) (h0 : W.2.2.2.1 0 ≠ 0) : lI K (wUndo W) := by
  obtain ⟨h1, h2, h3, h4, h5, h6, h7, h8⟩ := h
  refine ⟨h3 _ (by omega), fun z => h2 ?_, fun i hi => h3 i ?_, ?_, ?_, ?_, ?_, h8⟩
  · have z2 : m_ug W.2.2.2.1 0 (W.2.2.2.1 0 - 1) 1 = 1 := z
    rw [ug_n (by decide)] at z2
    exact z2
  · have z2 : (i : Int) < m_ug W.2.2.2.1 0 (W.2.2.2.1 0 - 1) 0 := hi
    rw [ug_s] at z2
    omega
  · show 0 ≤ m_ug W.2.2.2.1 0 (W.2.2.2.1 0 - 1) 0 ∧ m_ug W.2.2.2.1 0 (W.2.2.2.1 0 - 1) 0 ≤ 8
    rw [ug_s]
    omega
  · exact h5
  · exact h6
  · exact h7
theorem lI.res {K : Int} {W : gW} (h : lI K W) (h0 : W.2.2.2.1 1 = 1) : lI K (wRes W) := by
  obtain ⟨h1, h2, h3, h4, h5, h6, h7, h8⟩ := h
  refine ⟨h2 h0, fun _ => h2 h0, fun i hi => ?_, ?_, h5, h6, h7, h8⟩
  · have z2 : (i : Int) < m_ug W.2.2.2.1 0 0 0 := hi
    rw [ug_s] at z2
    omega
  · show 0 ≤ m_ug W.2.2.2.1 0 0 0 ∧ m_ug W.2.2.2.1 0 0 0 ≤ 8
    rw [ug_s]
    decide
theorem lI.save {K : Int} {W : gW} (h : lI K W) : lI K (wSave W) := by
  obtain ⟨h1, h2, h3, h4, h5, h6, h7, h8⟩ := h
  refine ⟨h1, fun _ => h1, h3, h4, Or.inr ?_, h6, h7, h8⟩
  show m_ug W.2.2.2.1 1 1 1 = 1
  exact ug_s
theorem S_runs_I : ∀ (rs : List (Nat × List Int)) (i : Int) (g : h_T) (K : Int), h_I K g → h_I (K + 5300 * (rs.length : Int)) (S_runs rs i g).2 ∧ ((S_runs rs i g).1 = -1 ∨ (i ≤ (S_runs rs i g).1 ∧ (S_runs rs i g).1 < i + (rs.length : Int))) := by
  intro rs
  induction rs with
  | nil => intro i g K h; exact ⟨h.mono (by simp), Or.inl rfl⟩
  | cons r rs ih =>
    intro i g K h
    rw [S_runs]
    rw [List.length_cons]
    split
    · refine ⟨h.mono (by omega), Or.inr ⟨?_, ?_⟩⟩
      · exact Int.le_refl _
      · dsimp only
        omega
    · have h2 := S_exec_I h r.1 (p_ar r.2)
      unfold h_Ip at h2
      obtain ⟨i1, i2⟩ := ih (i + 1) _ _ h2
      exact ⟨i1.mono (by omega), by omega⟩
theorem p_rcs_len (tx : List Int) : ∀ (n : Nat) (q fu : Int), (p_rcs tx n q fu).2.2.length ≤ n := by
  intro n
  induction n with
  | zero => intro q fu; exact Nat.le_refl _
  | succ n ih =>
    intro q fu
    rw [p_rcs_s]
    split
    · exact Nat.zero_le _
    · split
      · exact Nat.succ_le_succ (Nat.zero_le _)
      · exact Nat.succ_le_succ (ih _ _)
theorem p_rcs_fu (tx : List Int) (hL : tx.length ≤ 240) : ∀ (n : Nat) (q fu : Int), 0 ≤ q ∧ q ≤ (tx.length : Int) → 0 ≤ fu ∧ fu ≤ 1000 → 0 ≤ (p_rcs tx n q fu).2.1 ∧ (p_rcs tx n q fu).2.1 ≤ 1000 := by
  intro n
  induction n with
  | zero => intro q fu _ h; exact h
  | succ n ih =>
    intro q fu hq hf
    have h := p_rc_rg tx q hq hL 13 0 fu hf
    rw [p_rcs_s]
    split
    · exact h.2
    · split
      · exact h.2
      · exact ih _ _ (by omega) h.2
theorem lI.run {K : Int} {W : gW} (h : lI K W) : lI (K + 63600) (wRun W) := by
  have h0 := h
  obtain ⟨h1, h2, h3, h4, h5, h6, h7, h8, h9⟩ := h
  have hI := S_runs_I (rsc W).2.2 0 W.1 K h1
  have hl := p_rcs_len W.2.2.2.2.1 12 0 0
  have hfu := p_rcs_fu W.2.2.2.2.1 (by omega) 12 0 0 (by omega) (by decide)
  have hl2 : (rsc W).2.2.length ≤ 12 := hl
  unfold wRun
  split
  · refine ⟨h1.mono (by omega), fun z => (h2 ?_).mono (by omega), fun i hi => (h3 i ?_).mono (by omega), h4, h5, ?_, h7, Nat.zero_le _, h9⟩
    · exact z
    · exact hi
    · show -1 ≤ m_ug W.2.2.2.1 2 (rsc W).2.1 2 ∧ m_ug W.2.2.2.1 2 (rsc W).2.1 2 ≤ 1000
      rw [ug_s]
      have e1 : 0 ≤ (rsc W).2.1 := hfu.1
      have e2 : (rsc W).2.1 ≤ 1000 := hfu.2
      omega
  · split
    · rename_i hn
      refine ⟨h1.mono (by omega), fun z => (h2 ?_).mono (by omega), fun i hi => (h3 i ?_).mono (by omega), h4, h5, h6, ?_, Nat.zero_le _, h9⟩
      · exact z
      · exact hi
      · show -1 ≤ m_ug W.2.2.2.1 3 (S_runs (rsc W).2.2 0 W.1).1 3 ∧ m_ug W.2.2.2.1 3 (S_runs (rsc W).2.2 0 W.1).1 3 ≤ 1000
        rw [ug_s]
        have := hI.2
        omega
    · have e : ((S_runs (rsc W).2.2 0 W.1).2, W.2.1, c_L (W.2.2.2.1 0) W.1 W.2.2.1, c_q W.2.2.2.1, ([] : List Int), W.2.2.2.2.2) = wTx (kW ((0 : Int), (S_runs (rsc W).2.2 0 W.1).2) W) [] := rfl
      rw [e]
      have hX := lI.ch (S := ((0 : Int), (S_runs (rsc W).2.2 0 W.1).2)) (cs := []) (h0.mono (show K ≤ K + 58300 by omega)) (hI.1.mono (by omega)) (Or.inl ⟨Int.le_refl 0, show (0 : Int) ≤ 200000000 by decide⟩)
      exact (hX.mono (by omega)).tx (Nat.zero_le _)
