def cB (g : h_T) : Prop := g 0 8 ≤ 4 ∧ g 0 9 ≤ 5 ∧ g 0 11 ≤ 8
def o_ix : List Int → Int → Int
  | [], _ => 1
  | x :: cs, z => if x = z then 1 else o_ix cs z + 1
def o_th (cs : List Int) (z : Int) : Int := if 0 ≤ z then 0 else o_ix cs z
/-! one form for all calls: r = (which exception, answer), W the state of both -/
abbrev gW : Type := h_T × h_T × (Nat → h_T) × (Int → Int) × List Int × List Int
def gIn (z0 : Nat) (fo : Nat → Nat) (x w : Nat) (W : gW) (M : m_M) : Prop := ghP z0 fo x w W.1 W.2.1 W.2.2.1 W.2.2.2.1 W.2.2.2.2.1 W.2.2.2.2.2 M
/-- what holds of a state ahead of each call -/
def lI (K : Int) (W : gW) : Prop := h_I K W.1 ∧ (W.2.2.2.1 1 = 1 → h_I K W.2.1) ∧ (∀ i : Nat, (i : Int) < W.2.2.2.1 0 → h_I K (W.2.2.1 i)) ∧ (0 ≤ W.2.2.2.1 0 ∧ W.2.2.2.1 0 ≤ 8) ∧ (W.2.2.2.1 1 = 0 ∨ W.2.2.2.1 1 = 1) ∧ (-1 ≤ W.2.2.2.1 2 ∧ W.2.2.2.1 2 ≤ 1000) ∧ (-1 ≤ W.2.2.2.1 3 ∧ W.2.2.2.1 3 ≤ 1000) ∧
  W.2.2.2.2.1.length ≤ 60 ∧ W.2.2.2.2.2.length ≤ 240
theorem lI.mono {K K2 : Int} {W : gW} (h : lI K W) (hk : K ≤ K2) : lI K2 W := ⟨h.1.mono hk, fun z => (h.2.1 z).mono hk, fun i hi => (h.2.2.1 i hi).mono hk, h.2.2.2⟩
theorem lI.B {K : Int} {W : gW} (h : lI K W) (hK : K ≤ 100000000) : h_B W.1 := h.1.1.toB hK
theorem lI.q0 {K : Int} {W : gW} (h : lI K W) : 0 ≤ W.2.2.2.1 0 ∧ W.2.2.2.1 0 ≤ 8 := h.2.2.2.1
theorem lI.cL {K : Int} {W : gW} (h : lI K W) (i : Nat) (hi : (i : Int) < W.2.2.2.1 0) : cB (W.2.2.1 i) := ⟨(h.2.2.1 i hi).1.n8.2, (h.2.2.1 i hi).1.n9.2, (h.2.2.1 i hi).1.n11.2⟩
def iR (z : Int) : Prop := -2147483648 ≤ z ∧ z < 2147483648
/-- the class's form, the reference's form -/
def cU (D : va_G) (aC : Nat → ClassId) (s0 : State) (l : Launch) (fo : Nat → Nat) (x w : Nat) (y : MethodName) (cc : ByteArray) (nL : Nat) (ret : Option FieldType) (d : Nat) (As : List Value) (M : m_M) (Es : List String) (r : Int × Int) (W2 : gW) : Prop :=
  m_Met D aC s0 l y cc nL ret d 470 940 As M (g_pq r (fun M' => gIn s0.heap.size fo x w W2 M' ∧ gFr x w M M')) (g_pxq Es r (fun M' => gIn s0.heap.size fo x w W2 M' ∧ gFr x w M M'))
section m_UNI
variable {D : va_G} {aC : Nat → ClassId} {s0 : State} {l : Launch} {fo : Nat → Nat} {x w a : Nat} {y : MethodName} {cc : ByteArray} {nL d : Nat} {ret : Option FieldType} {As : List Value} {M : m_M} {Es : List String} {r : Int × Int} {W W2 : gW}
theorem cU.po (hG : gIn s0.heap.size fo x w W M) (h : m_Met D aC s0 l y cc nL ret d 470 940 As M (g_po r M) (g_px Es r M)) : cU D aC s0 l fo x w y cc nL ret d As M Es r W :=
  m_Met.mono h (fun v M' h => ⟨h.1, h.2.1, by rw [h.2.2]; exact ⟨hG, gFr.rf⟩⟩) (fun E M' h => ⟨h.1, ghP.grow hG h.2.1 h.2.2, gFr.gr h.2.1 h.2.2⟩)
theorem cU.two (h : m_Met D aC s0 l y cc nL ret d 470 940 As M (g_pq r (fun M' => gIn s0.heap.size fo x w W2 M' ∧ gFr x w M M')) (g_pxq Es r (fun M' => gIn s0.heap.size fo x w W M' ∧ gFr x w M M'))) : cU D aC s0 l fo x w y cc nL ret d As M Es r (if r.1 = 0 then W2 else W) :=
  m_Met.mono h (fun v M' h => ⟨h.1, h.2.1, by rw [if_pos h.1]; exact h.2.2⟩) (fun E M' h => ⟨h.1, by rw [if_neg (by have := h.1.1; omega)]; exact h.2⟩)
def kS (cs : List Int) (S : Int × h_T) : Int × Int := (o_th cs S.1, S.1)
def kW (S : Int × h_T) (W : gW) : gW := (S.2, W.2.1, if S.1 < 0 then W.2.2.1 else c_L (W.2.2.2.1 0) W.1 W.2.2.1, if S.1 < 0 then W.2.2.2.1 else c_q W.2.2.2.1, W.2.2.2.2.1, W.2.2.2.2.2)
theorem cU.ch {cs : List Int} {S : Int × h_T} (hok : S_ok cs W.1 S) (hcs : ∀ z ∈ cs, z < 0 → 1 ≤ o_th cs z ∧ Es[(o_th cs z - 1).toNat]? = some (e_code z))
    (h : m_Met D aC s0 l y cc nL ret d 470 940 As M (fun v M' => v = some (VI S.1) ∧ 0 ≤ S.1 ∧ ghP s0.heap.size fo x w S.2 W.2.1 (c_L (W.2.2.2.1 0) W.1 W.2.2.1) (c_q W.2.2.2.1) W.2.2.2.2.1 W.2.2.2.2.2 M' ∧ gFr x w M M') (fun E M' => (S.1 < 0 ∧ E = e_code S.1) ∧ ghP s0.heap.size fo x w S.2 W.2.1 W.2.2.1 W.2.2.2.1 W.2.2.2.2.1 W.2.2.2.2.2 M' ∧ gFr x w M M')) : cU D aC s0 l fo x w y cc nL ret d As M Es (kS cs S) (kW S W) := by
  refine m_Met.mono h (fun v M' h => ?_) (fun E M' h => ?_)
  · obtain ⟨h1, h2, h3, h4⟩ := h
    have e : kW S W = (S.2, W.2.1, c_L (W.2.2.2.1 0) W.1 W.2.2.1, c_q W.2.2.2.1, W.2.2.2.2.1, W.2.2.2.2.2) := by
      unfold kW
      rw [if_neg (by omega), if_neg (by omega)]
    exact ⟨if_pos h2, h1, by rw [e]; exact h3, h4⟩
  · obtain ⟨⟨h1, h2⟩, h3, h4⟩ := h
    have e : kW S W = (S.2, W.2.1, W.2.2.1, W.2.2.2.1, W.2.2.2.2.1, W.2.2.2.2.2) := by
      unfold kW
      rw [if_pos h1, if_pos h1]
    have hm : S.1 ∈ cs := by
      rcases hok with z | z
      · omega
      · exact z.1
    have hz := hcs _ hm h1
    exact ⟨⟨hz.1, by rw [h2]; exact hz.2⟩, by rw [e]; exact h3, h4⟩
end m_UNI
/-- the invariant behind a change -/
theorem lI.ch {K : Int} {W : gW} {S : Int × h_T} {cs : List Int} (h : lI K W) (hI : h_Ip K S) (hok : S_ok cs W.1 S) : lI (K + 5300) (kW S W) := by
  obtain ⟨h1, h2, h3, h4, h5, h6, h7, h8, h9⟩ := h
  refine ⟨hI, ?_, ?_, ?_, ?_, ?_, ?_, h8, h9⟩
  · intro z
    have z2 : W.2.2.2.1 1 = 1 := by
      have z3 : (if S.1 < 0 then W.2.2.2.1 else c_q W.2.2.2.1) 1 = 1 := z
      split at z3 <;> exact z3
    exact (h2 z2).mono (by omega)
  · intro i hi
    show h_I (K + 5300) ((if S.1 < 0 then W.2.2.1 else c_L (W.2.2.2.1 0) W.1 W.2.2.1) i)
    have hi2 : (i : Int) < (if S.1 < 0 then W.2.2.2.1 else c_q W.2.2.2.1) 0 := hi
    by_cases c : S.1 < 0
    · rw [if_pos c] at hi2 ⊢
      exact (h3 i hi2).mono (by omega)
    · rw [if_neg c] at hi2 ⊢
      have e : c_q W.2.2.2.1 0 = min (W.2.2.2.1 0 + 1) 8 := by unfold c_q m_ug; rw [if_pos rfl]
      rw [e] at hi2
      unfold c_L
      split
      · split
        · exact h1.mono (by omega)
        · exact (h3 i (by omega)).mono (by omega)
      · split
        · exact h1.mono (by omega)
        · exact (h3 (i + 1) (by omega)).mono (by omega)
  · show 0 ≤ (if S.1 < 0 then W.2.2.2.1 else c_q W.2.2.2.1) 0 ∧ (if S.1 < 0 then W.2.2.2.1 else c_q W.2.2.2.1) 0 ≤ 8
    split
    · exact h4
    · have e : c_q W.2.2.2.1 0 = min (W.2.2.2.1 0 + 1) 8 := by unfold c_q m_ug; rw [if_pos rfl]
      rw [e]
      omega
  · show (if S.1 < 0 then W.2.2.2.1 else c_q W.2.2.2.1) 1 = 0 ∨ (if S.1 < 0 then W.2.2.2.1 else c_q W.2.2.2.1) 1 = 1
    split <;> exact h5
  · show -1 ≤ (if S.1 < 0 then W.2.2.2.1 else c_q W.2.2.2.1) 2 ∧ (if S.1 < 0 then W.2.2.2.1 else c_q W.2.2.2.1) 2 ≤ 1000
    split <;> exact h6
  · show -1 ≤ (if S.1 < 0 then W.2.2.2.1 else c_q W.2.2.2.1) 3 ∧ (if S.1 < 0 then W.2.2.2.1 else c_q W.2.2.2.1) 3 ≤ 1000
    split <;> exact h7
/-- the letters of the script and of the output -/
theorem getD_hi {t : List Int} {i : Nat} (h : t.length ≤ i) : t.getD i 0 = 0 := by
  rw [List.getD_eq_getElem?_getD, List.getElem?_eq_none h]
  rfl
theorem gIn.tx {z0 : Nat} {fo : Nat → Nat} {x w : Nat} {W : gW} {M : m_M} (h : gIn z0 fo x w W M) (i : Nat) : 0 ≤ W.2.2.2.2.1.getD i 0 ∧ W.2.2.2.2.1.getD i 0 < 128 := by
  obtain ⟨-, -, -, -, -, -, -, v, n, v2, n2, cnt, fur, CM, hS, hO, -⟩ := h
  by_cases c : i < W.2.2.2.2.1.length
  · exact hS.2.1.ch (i : Int) (by omega)
  · rw [getD_hi (by omega)]; decide
theorem gIn.ot {z0 : Nat} {fo : Nat → Nat} {x w : Nat} {W : gW} {M : m_M} (h : gIn z0 fo x w W M) (i : Nat) : 0 ≤ W.2.2.2.2.2.getD i 0 ∧ W.2.2.2.2.2.getD i 0 < 128 := by
  obtain ⟨-, -, -, -, -, -, -, v, n, v2, n2, cnt, fur, CM, hS, hO, -⟩ := h
  by_cases c : i < W.2.2.2.2.2.length
  · exact hO.ch (i : Int) (by omega)
  · rw [getD_hi (by omega)]; decide
/-- the other answers and states -/
def wOt (W : gW) (t : List Int) : gW := (W.1, W.2.1, W.2.2.1, W.2.2.2.1, W.2.2.2.2.1, t)
def rRes (W : gW) : Int × Int := G_if (W.2.2.2.1 1 = 1) (W.2.1 0 11)
def wRes (W : gW) : gW := (W.2.1, W.2.1, W.2.2.1, m_ug W.2.2.2.1 0 0, W.2.2.2.2.1, W.2.2.2.2.2)
def wSave (W : gW) : gW := (W.1, W.1, W.2.2.1, m_ug W.2.2.2.1 1 1, W.2.2.2.2.1, W.2.2.2.2.2)
theorem R_gob_len {g : h_T} (hB : h_B g) {y : Int} (hy : 0 ≤ y ∧ y < g 0 9) : (R_gob g y).length ≤ 40 := by
  have c := hB.go hy
  have h9 := hB.n9
  have e1 := S_dig1 (z := y) (by omega)
  have e2 := S_dig1 (z := g 4 y) (by omega)
  have e3 := S_dig10 (z := g 5 y) (by omega)
  have e4 := S_dig10 (z := g 6 y) (by omega)
  have e5 : (R_g1 g y).length ≤ 14 := by
    unfold R_g1
    simp only [List.length_append, List.length_cons, List.length_nil]
    omega
  have e6 : (R_g2 g y).length ≤ 25 := by
    unfold R_g2
    split
    · simp only [List.length_append, List.length_cons, List.length_nil]
      omega
    · omega
  unfold R_gob
  split
  · simp only [List.length_append, List.length_cons, List.length_nil]
    omega
  · omega
theorem lI.ot {K : Int} {W : gW} (h : lI K W) {t : List Int} (ht : t.length ≤ 240) : lI K (wOt W t) := ⟨h.1, h.2.1, h.2.2.1, h.2.2.2.1, h.2.2.2.2.1, h.2.2.2.2.2.1, h.2.2.2.2.2.2.1, h.2.2.2.2.2.2.2.1, ht⟩
theorem ug_n {q : Int → Int} {i v k : Int} (h : k ≠ i) : m_ug q i v k = q k := if_neg h
theorem ug_s {q : Int → Int} {i v : Int} : m_ug q i v i = v := if_pos rfl
theorem lI.res {K : Int} {W : gW} (h : lI K W) (h0 : W.2.2.2.1 1 = 1) : lI K (wRes W) := by
  obtain ⟨h1, h2, h3, h4, h5, h6, h7, h8⟩ := h
  refine ⟨h2 h0, fun _ => h2 h0, fun i hi => ?_, ?_, h5, h6, h7, h8⟩
  · have z2 : (i : Int) < m_ug W.2.2.2.1 0 0 0 := hi
    rw [ug_s] at z2
    omega
  · show 0 ≤ m_ug W.2.2.2.1 0 0 0 ∧ m_ug W.2.2.2.1 0 0 0 ≤ 8
    rw [ug_s]
    decide
theorem lI.save {K : Int} {W : gW} (h : lI K W) : lI K (wSave W) := by
  obtain ⟨h1, h2, h3, h4, h5, h6, h7, h8⟩ := h
  refine ⟨h1, fun _ => h1, h3, h4, Or.inr ?_, h6, h7, h8⟩
  show m_ug W.2.2.2.1 1 1 1 = 1
  exact ug_s