/-! one form for all calls: r = (which exception, answer), W the state of both -/
abbrev gW : Type := h_T × h_T × (Nat → h_T) × (Int → Int) × List Int × List Int
def gIn (z0 : Nat) (fo : Nat → Nat) (x w : Nat) (W : gW) (M : m_M) : Prop := ghP z0 fo x w W.1 W.2.1 W.2.2.1 W.2.2.2.1 W.2.2.2.2.1 W.2.2.2.2.2 M
def mIn (a : Nat) (th : Int) (W : gW) (M : m_M) : Prop := mdP a th W.1 W.2.1 W.2.2.1 W.2.2.2.1 W.2.2.2.2.1 W.2.2.2.2.2 M
/-- what holds of a state ahead of each call -/
def lI (K : Int) (W : gW) : Prop := h_I K W.1 ∧ (W.2.2.2.1 1 = 1 → h_I K W.2.1) ∧ (∀ i : Nat, (i : Int) < W.2.2.2.1 0 → h_I K (W.2.2.1 i)) ∧ (0 ≤ W.2.2.2.1 0 ∧ W.2.2.2.1 0 ≤ 8) ∧ (W.2.2.2.1 1 = 0 ∨ W.2.2.2.1 1 = 1) ∧ (-1 ≤ W.2.2.2.1 2 ∧ W.2.2.2.1 2 ≤ 1000) ∧ (-1 ≤ W.2.2.2.1 3 ∧ W.2.2.2.1 3 ≤ 1000) ∧
  (W.2.2.2.2.1.length ≤ 60 ∧ ∀ i : Nat, 0 ≤ W.2.2.2.2.1.getD i 0 ∧ W.2.2.2.2.1.getD i 0 < 128) ∧ (W.2.2.2.2.2.length ≤ 240 ∧ ∀ i : Nat, 0 ≤ W.2.2.2.2.2.getD i 0 ∧ W.2.2.2.2.2.getD i 0 < 128)
theorem lI.mono {K K2 : Int} {W : gW} (h : lI K W) (hk : K ≤ K2) : lI K2 W := ⟨h.1.mono hk, fun z => (h.2.1 z).mono hk, fun i hi => (h.2.2.1 i hi).mono hk, h.2.2.2⟩
theorem lI.B {K : Int} {W : gW} (h : lI K W) (hK : K ≤ 100000000) : h_B W.1 := h.1.1.toB hK
theorem lI.q0 {K : Int} {W : gW} (h : lI K W) : 0 ≤ W.2.2.2.1 0 ∧ W.2.2.2.1 0 ≤ 8 := h.2.2.2.1
theorem lI.cL {K : Int} {W : gW} (h : lI K W) (i : Nat) (hi : (i : Int) < W.2.2.2.1 0) : cB (W.2.2.1 i) := ⟨(h.2.2.1 i hi).1.n8.2, (h.2.2.1 i hi).1.n9.2, (h.2.2.1 i hi).1.n11.2⟩
def iR (z : Int) : Prop := -2147483648 ≤ z ∧ z < 2147483648
theorem m_Met.mono {D : va_G} {aC : Nat → ClassId} {s0 : State} {l : Launch} {y : MethodName} {cc : ByteArray} {nL : Nat} {ret : Option FieldType} {d mc ms : Nat} {As : List Value} {M : m_M} {post post2 : Option Value → m_M → Prop} {px px2 : String → m_M → Prop} (h : m_Met D aC s0 l y cc nL ret d mc ms As M post px) (h1 : ∀ v M', post v M' → post2 v M') (h2 : ∀ E M', px E M' → px2 E M') : m_Met D aC s0 l y cc nL ret d mc ms As M post2 px2 := by
  refine MetFree.mono h (fun _ _ z => z) (fun _ _ _ _ _ z => z) (fun a s o s' _ hq => ?_)
  rcases hq with ⟨⟨⟨v, M', ho, hp, hH⟩, hF⟩, hL⟩ | ⟨q, ho, E, ce, L, ⟨⟨M', hp, hH⟩, hF⟩, hr⟩
  · exact Or.inl ⟨⟨⟨v, M', ho, h1 _ _ hp, hH⟩, hF⟩, hL⟩
  · exact Or.inr ⟨q, ho, E, ce, L, ⟨⟨M', h2 _ _ hp, hH⟩, hF⟩, hr⟩
/-- the class's form, the reference's form -/
def cU (D : va_G) (aC : Nat → ClassId) (s0 : State) (l : Launch) (fo : Nat → Nat) (x w : Nat) (y : MethodName) (cc : ByteArray) (nL : Nat) (ret : Option FieldType) (d : Nat) (As : List Value) (M : m_M) (Es : List String) (r : Int × Int) (W2 : gW) : Prop :=
  m_Met D aC s0 l y cc nL ret d 470 940 As M (g_pq r (fun M' => gIn s0.heap.size fo x w W2 M' ∧ gFr x w M M')) (g_pxq Es r (fun M' => gIn s0.heap.size fo x w W2 M' ∧ gFr x w M M'))
def mQ (a : Nat) (r : Int × Int) (W2 : gW) (M : m_M) : Option Value → m_M → Prop := fun v M' => ∃ z : Int, v = some (VI z) ∧ (r.1 = 0 → z = r.2) ∧ mIn a r.1 W2 M' ∧ m_fr a 10 M M'
def mU (D : va_G) (aC : Nat → ClassId) (s0 : State) (l : Launch) (a : Nat) (y : MethodName) (cc : ByteArray) (nL : Nat) (ret : Option FieldType) (d : Nat) (As : List Value) (M : m_M) (r : Int × Int) (W2 : gW) : Prop :=
  m_Met D aC s0 l y cc nL ret d 0 0 As M (mQ a r W2 M) m_nx
section m_UNI
variable {D : va_G} {aC : Nat → ClassId} {s0 : State} {l : Launch} {fo : Nat → Nat} {x w a : Nat} {y : MethodName} {cc : ByteArray} {nL d : Nat} {ret : Option FieldType} {As : List Value} {M : m_M} {Es : List String} {r : Int × Int} {W W2 : gW}
theorem cU.po (hG : gIn s0.heap.size fo x w W M) (h : m_Met D aC s0 l y cc nL ret d 470 940 As M (g_po r M) (g_px Es r M)) : cU D aC s0 l fo x w y cc nL ret d As M Es r W :=
  m_Met.mono h (fun v M' h => ⟨h.1, h.2.1, by rw [h.2.2]; exact ⟨hG, gFr.rf⟩⟩) (fun E M' h => ⟨h.1, ghP.grow hG h.2.1 h.2.2, gFr.gr h.2.1 h.2.2⟩)
theorem cU.two (h : m_Met D aC s0 l y cc nL ret d 470 940 As M (g_pq r (fun M' => gIn s0.heap.size fo x w W2 M' ∧ gFr x w M M')) (g_pxq Es r (fun M' => gIn s0.heap.size fo x w W M' ∧ gFr x w M M'))) : cU D aC s0 l fo x w y cc nL ret d As M Es r (if r.1 = 0 then W2 else W) :=
  m_Met.mono h (fun v M' h => ⟨h.1, h.2.1, by rw [if_pos h.1]; exact h.2.2⟩) (fun E M' h => ⟨h.1, by rw [if_neg (by have := h.1.1; omega)]; exact h.2⟩)
def kS (cs : List Int) (S : Int × h_T) : Int × Int := (o_th cs S.1, S.1)
def kW (S : Int × h_T) (W : gW) : gW := (S.2, W.2.1, if S.1 < 0 then W.2.2.1 else c_L (W.2.2.2.1 0) W.1 W.2.2.1, if S.1 < 0 then W.2.2.2.1 else c_q W.2.2.2.1, W.2.2.2.2.1, W.2.2.2.2.2)
theorem cU.ch {cs : List Int} {S : Int × h_T} (hok : S_ok cs W.1 S) (hcs : ∀ z ∈ cs, z < 0 → 1 ≤ o_th cs z ∧ Es[(o_th cs z - 1).toNat]? = some (e_code z))
    (h : m_Met D aC s0 l y cc nL ret d 470 940 As M (fun v M' => v = some (VI S.1) ∧ 0 ≤ S.1 ∧ ghP s0.heap.size fo x w S.2 W.2.1 (c_L (W.2.2.2.1 0) W.1 W.2.2.1) (c_q W.2.2.2.1) W.2.2.2.2.1 W.2.2.2.2.2 M' ∧ gFr x w M M') (fun E M' => (S.1 < 0 ∧ E = e_code S.1) ∧ ghP s0.heap.size fo x w S.2 W.2.1 W.2.2.1 W.2.2.2.1 W.2.2.2.2.1 W.2.2.2.2.2 M' ∧ gFr x w M M')) : cU D aC s0 l fo x w y cc nL ret d As M Es (kS cs S) (kW S W) := by
  refine m_Met.mono h (fun v M' h => ?_) (fun E M' h => ?_)
  · obtain ⟨h1, h2, h3, h4⟩ := h
    have e : kW S W = (S.2, W.2.1, c_L (W.2.2.2.1 0) W.1 W.2.2.1, c_q W.2.2.2.1, W.2.2.2.2.1, W.2.2.2.2.2) := by
      unfold kW
      rw [if_neg (by omega), if_neg (by omega)]
    exact ⟨if_pos h2, h1, by rw [e]; exact h3, h4⟩
  · obtain ⟨⟨h1, h2⟩, h3, h4⟩ := h
    have e : kW S W = (S.2, W.2.1, W.2.2.1, W.2.2.2.1, W.2.2.2.2.1, W.2.2.2.2.2) := by
      unfold kW
      rw [if_pos h1, if_pos h1]
    have hm : S.1 ∈ cs := by
      rcases hok with z | z
      · omega
      · exact z.1
    have hz := hcs _ hm h1
    exact ⟨⟨hz.1, by rw [h2]; exact hz.2⟩, by rw [e]; exact h3, h4⟩
theorem mU.ch {cs : List Int} {S : Int × h_T} (h : m_Met D aC s0 l y cc nL ret d 0 0 As M (m_chP a cs S W.2.1 (c_L (W.2.2.2.1 0) W.1 W.2.2.1) W.2.2.1 W.2.2.2.1 W.2.2.2.2.1 W.2.2.2.2.2 M) m_nx) : mU D aC s0 l a y cc nL ret d As M (kS cs S) (kW S W) := by
  refine m_Met.mono h (fun v M' h => ?_) (fun _ _ h => h)
  obtain ⟨h1, h2, h3⟩ := h
  refine ⟨_, h1, fun hz => ?_, h2, h3⟩
  have : ¬ S.1 < 0 := fun z => by
    have h9 : o_th cs S.1 = 0 := hz
    unfold o_th at h9
    rw [if_neg (by omega)] at h9
    have key : ∀ cs : List Int, 1 ≤ o_ix cs S.1 := by
      intro cs
      induction cs with
      | nil => exact Int.le_refl _
      | cons c cs ih => rw [o_ix]; split <;> omega
    have := key cs
    omega
  show (if S.1 < 0 then 0 else S.1) = S.1
  rw [if_neg this]
theorem mU.qu {wd g : h_T} {th : Int} (hg : W.1 = g) (hW : mdW wd th W.2.1 W.2.2.1 W.2.2.2.1 W.2.2.2.2.1 W.2.2.2.2.2) (h : m_Met D aC s0 l y cc nL ret d 0 0 As M (m_qu a wd g r M) m_nx) : mU D aC s0 l a y cc nL ret d As M r W :=
  m_Met.mono h (fun v M' h => ⟨_, h.1, fun _ => rfl, ⟨_, by rw [hg]; exact h.2.1, hW.th r.1⟩, h.2.2⟩) (fun _ _ h => h)
theorem mU.qx {wd g : h_T} {th : Int} (hg : W.1 = g) (hW : mdW wd th W.2.1 W.2.2.1 W.2.2.2.1 W.2.2.2.2.1 W.2.2.2.2.2) (h : m_Met D aC s0 l y cc nL ret d 0 0 As M (m_qx a wd g r M) m_nx) : mU D aC s0 l a y cc nL ret d As M r W :=
  m_Met.mono h (fun v M' h => by
    obtain ⟨h1, ⟨w2, h2, h3⟩, h4⟩ := h
    exact ⟨_, h1, fun _ => rfl, ⟨w2, by rw [hg]; exact h2, h3.W hW⟩, h4⟩) (fun _ _ h => h)
end m_UNI
theorem kS_R {cs : List Int} {S : Int × h_T} {g : h_T} (hok : S_ok cs g S) (hb : ∀ z ∈ cs, -2147483648 ≤ z ∧ z < 2147483648) : iR (kS cs S).2 := by
  rcases hok with z | z
  · exact ⟨by show -2147483648 ≤ S.1; omega, by show S.1 < 2147483648; omega⟩
  · exact hb _ z.1
/-- the invariant behind a change -/
theorem lI.ch {K : Int} {W : gW} {S : Int × h_T} {cs : List Int} (h : lI K W) (hI : h_Ip K S) (hok : S_ok cs W.1 S) : lI (K + 5300) (kW S W) := by
  obtain ⟨h1, h2, h3, h4, h5, h6, h7, h8, h9⟩ := h
  refine ⟨hI, ?_, ?_, ?_, ?_, ?_, ?_, h8, h9⟩
  · intro z
    have z2 : W.2.2.2.1 1 = 1 := by
      have z3 : (if S.1 < 0 then W.2.2.2.1 else c_q W.2.2.2.1) 1 = 1 := z
      split at z3 <;> exact z3
    exact (h2 z2).mono (by omega)
  · intro i hi
    show h_I (K + 5300) ((if S.1 < 0 then W.2.2.1 else c_L (W.2.2.2.1 0) W.1 W.2.2.1) i)
    have hi2 : (i : Int) < (if S.1 < 0 then W.2.2.2.1 else c_q W.2.2.2.1) 0 := hi
    by_cases c : S.1 < 0
    · rw [if_pos c] at hi2 ⊢
      exact (h3 i hi2).mono (by omega)
    · rw [if_neg c] at hi2 ⊢
      have e : c_q W.2.2.2.1 0 = min (W.2.2.2.1 0 + 1) 8 := by unfold c_q m_ug; rw [if_pos rfl]
      rw [e] at hi2
      unfold c_L
      split
      · split
        · exact h1.mono (by omega)
        · exact (h3 i (by omega)).mono (by omega)
      · split
        · exact h1.mono (by omega)
        · exact (h3 (i + 1) (by omega)).mono (by omega)
  · show 0 ≤ (if S.1 < 0 then W.2.2.2.1 else c_q W.2.2.2.1) 0 ∧ (if S.1 < 0 then W.2.2.2.1 else c_q W.2.2.2.1) 0 ≤ 8
    split
    · exact h4
    · have e : c_q W.2.2.2.1 0 = min (W.2.2.2.1 0 + 1) 8 := by unfold c_q m_ug; rw [if_pos rfl]
      rw [e]
      omega
  · show (if S.1 < 0 then W.2.2.2.1 else c_q W.2.2.2.1) 1 = 0 ∨ (if S.1 < 0 then W.2.2.2.1 else c_q W.2.2.2.1) 1 = 1
    split <;> exact h5
  · show -1 ≤ (if S.1 < 0 then W.2.2.2.1 else c_q W.2.2.2.1) 2 ∧ (if S.1 < 0 then W.2.2.2.1 else c_q W.2.2.2.1) 2 ≤ 1000
    split <;> exact h6
  · show -1 ≤ (if S.1 < 0 then W.2.2.2.1 else c_q W.2.2.2.1) 3 ∧ (if S.1 < 0 then W.2.2.2.1 else c_q W.2.2.2.1) 3 ≤ 1000
    split <;> exact h7
