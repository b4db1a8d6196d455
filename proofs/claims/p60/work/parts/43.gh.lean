/-! the whole object at x: now x+1, forecast x+18, snapshot x+35, history x+52, script x+207, output x+235, table x+237; w the wall behind which grown texts lie. q: 0 how many changes can be undone, 1 has a snapshot, 2 error position, 3 failed command -/
abbrev gO (x : Nat) (q : Int → Int) (M : m_M) : Prop := M.2 x = some (m_ob 11 [.ref (x + 1), .ref (x + 18), .ref (x + 35), .ref (x + 52), .ref (x + 207), .ref (x + 235), .ref (x + 237), VI (q 1), VI (q 2), VI (q 3)])
def gS (x : Nat) (q : Int → Int) (sg : h_T) (M : m_M) : Prop := ∃ s9 : h_T, hhR (x + 35) s9 M ∧ (q 1 = 1 → s9 = sg)
def gL (x : Nat) (q : Int → Int) (L : Nat → h_T) (M : m_M) : Prop := ∃ L9 : Nat → h_T, hiP x (q 0) L9 M ∧ ∀ i : Nat, (i : Int) < q 0 → L9 i = L i
def gB (x : Nat) (M : m_M) : Prop := ∃ bf : Int → Int, M.2 (x + 237) = some (m_ia 0 46 bf)
def gT (z0 : Nat) (fo : Nat → Nat) (x w : Nat) (tx ot : List Int) (M : m_M) : Prop := ∃ (v n v2 n2 : Nat) (cnt fur : Int) (CM : Nat → Nat × List Int), scQ z0 fo (x + 207) v n tx cnt fur CM M ∧ sbT z0 (x + 235) v2 n2 ot M ∧ (v = x + 209 ∨ w ≤ v) ∧ (v2 = x + 236 ∨ w ≤ v2) ∧ v ≠ v2
def ghP (z0 : Nat) (fo : Nat → Nat) (x w : Nat) (g sg : h_T) (L : Nat → h_T) (q : Int → Int) (tx ot : List Int) (M : m_M) : Prop :=
  (x + 238 ≤ w ∧ w ≤ M.1 ∧ z0 ≤ x) ∧ gO x q M ∧ hhR (x + 1) g M ∧ (∃ f9 : h_T, hhR (x + 18) f9 M) ∧ gS x q sg M ∧ gL x q L M ∧ gB x M ∧ gT z0 fo x w tx ot M
/-- nothing else below the wall changed -/
def gFr (x w : Nat) (M M2 : m_M) : Prop := M.1 ≤ M2.1 ∧ ∀ a : Nat, (a < x ∨ x + 238 ≤ a) → M2.2 a = M.2 a
theorem gFr.rf {x w : Nat} {M : m_M} : gFr x w M M := ⟨Nat.le_refl _, fun _ _ => rfl⟩
theorem gFr.tr {x w : Nat} {M M1 M2 : m_M} (h : gFr x w M M1) (h2 : gFr x w M1 M2) : gFr x w M M2 := ⟨Nat.le_trans h.1 h2.1, fun a a1 => (h2.2 a a1).trans (h.2 a a1)⟩
theorem gFr.of {x w a n : Nat} {M M1 : m_M} (h : m_fr a n M M1) (h1 : x ≤ a ∧ a + n ≤ x + 238) : gFr x w M M1 := ⟨by rw [h.1]; exact Nat.le_refl _, fun b a2 => h.2 b (by omega)⟩
theorem gFr.gr {x w : Nat} {M M1 : m_M} (h1 : M.1 ≤ M1.1) (h2 : M1.2 = M.2) : gFr x w M M1 := ⟨h1, fun a _ => by rw [h2]⟩
/-- the weaker form, for the one text that grows behind the wall -/
def gFw (x w : Nat) (M M2 : m_M) : Prop := M.1 ≤ M2.1 ∧ ∀ a : Nat, a < w → (a < x ∨ x + 238 ≤ a) → M2.2 a = M.2 a
theorem gFw.rf {x w : Nat} {M : m_M} : gFw x w M M := ⟨Nat.le_refl _, fun _ _ _ => rfl⟩
theorem gFw.tr {x w : Nat} {M M1 M2 : m_M} (h : gFw x w M M1) (h2 : gFw x w M1 M2) : gFw x w M M2 := ⟨Nat.le_trans h.1 h2.1, fun a a1 a2 => (h2.2 a a1 a2).trans (h.2 a a1 a2)⟩
theorem gFw.sb {x w a v v2 : Nat} {M M1 : m_M} (h : sbF a v M v2 M1) (h1 : x ≤ a ∧ a < x + 238) (h2 : (x ≤ v ∧ v < x + 238) ∨ w ≤ v) (hw : w ≤ M.1) : gFw x w M M1 := ⟨h.2.2.1, fun b a1 a2 => h.2.2.2 b (by omega) (by omega) (by omega)⟩
theorem gFw.gr {x w : Nat} {M M1 : m_M} (h1 : M.1 ≤ M1.1) (h2 : M1.2 = M.2) : gFw x w M M1 := ⟨h1, fun a _ _ => by rw [h2]⟩
theorem sbT.kp {z0 a v n : Nat} {tx : List Int} {M M2 : m_M} (h : sbT z0 a v n tx M) (h1 : M2.2 a = M.2 a) (h2 : M2.2 v = M.2 v) (h3 : M.1 ≤ M2.1) : sbT z0 a v n tx M2 := by
  obtain ⟨ml, f, ⟨p1, p2⟩, a1, a2, a3, a4⟩ := h
  exact ⟨ml, f, ⟨h1.trans p1, h2.trans p2⟩, a1, a2, ⟨by omega, by omega, a3.2.2⟩, a4⟩
theorem sbT.av {z0 a v n : Nat} {tx : List Int} {M : m_M} (h : sbT z0 a v n tx M) : a < M.1 ∧ v < M.1 ∧ a ≠ v ∧ (16 ≤ n ∧ n ≤ 482 ∧ tx.length ≤ n) := by
  obtain ⟨ml, f, p, a1, a2, a3, a4⟩ := h
  exact ⟨a3.1, a3.2.1, a3.2.2.1, a4⟩
theorem scQ.kp {z0 : Nat} {fo : Nat → Nat} {y v n : Nat} {tx : List Int} {cnt fur : Int} {CM : Nat → Nat × List Int} {M M2 : m_M} (h : scQ z0 fo y v n tx cnt fur CM M) (hq : ∀ a : Nat, y ≤ a → a < y + 28 → M2.2 a = M.2 a) (hv : M2.2 v = M.2 v) (hm : M.1 ≤ M2.1) : scQ z0 fo y v n tx cnt fur CM M2 := by
  obtain ⟨h1, h2, h3, h4, h5⟩ := h
  exact ⟨(hq _ (by omega) (by omega)).trans h1, h2.kp (hq _ (by omega) (by omega)) hv hm, (hq _ (by omega) (by omega)).trans h3, fun j hj => ⟨(h4 j hj).1.keep (fun a a1 a2 => hq a (by omega) (by omega)), (h4 j hj).2⟩, h5⟩
theorem gT.kp {z0 : Nat} {fo : Nat → Nat} {x w : Nat} {tx ot : List Int} {M M2 : m_M} (h : gT z0 fo x w tx ot M) (hq : ∀ a : Nat, (x + 207 ≤ a ∧ a < x + 237) ∨ w ≤ a → a < M.1 → M2.2 a = M.2 a) (hM : M.1 ≤ M2.1) (hw : x + 238 ≤ w ∧ w ≤ M.1) : gT z0 fo x w tx ot M2 := by
  obtain ⟨v, n, v2, n2, cnt, fur, CM, hS, hO, h1, h2, h3⟩ := h
  have e1 := hS.2.1.av
  have e2 := hO.av
  exact ⟨v, n, v2, n2, cnt, fur, CM, hS.kp (fun a a1 a2 => hq a (by omega) (by omega)) (hq v (by omega) e1.2.1) hM, hO.kp (hq _ (by omega) e2.1) (hq v2 (by omega) e2.2.1) hM, h1, h2, h3⟩
theorem gT.fr {z0 : Nat} {fo : Nat → Nat} {x w a n : Nat} {tx ot : List Int} {M M2 : m_M} (h : gT z0 fo x w tx ot M) (hf : m_fr a n M M2) (hd : (a + n ≤ x + 207 ∨ x + 237 ≤ a) ∧ a + n ≤ w) (hw : x + 238 ≤ w ∧ w ≤ M.1) : gT z0 fo x w tx ot M2 := h.kp (fun b b1 _ => hf.2 b (by omega)) (by rw [hf.1]; exact Nat.le_refl _) hw
theorem gS.fr {x a n : Nat} {q : Int → Int} {sg : h_T} {M M2 : m_M} (h : gS x q sg M) (hf : m_fr a n M M2) (hd : a + n ≤ x + 35 ∨ x + 52 ≤ a) : gS x q sg M2 := by
  obtain ⟨s9, h1, h2⟩ := h
  exact ⟨s9, h1.fr hf (by omega), h2⟩
theorem gL.fr {x a n : Nat} {q : Int → Int} {L : Nat → h_T} {M M2 : m_M} (h : gL x q L M) (hf : m_fr a n M M2) (hd : a + n ≤ x + 52 ∨ x + 207 ≤ a) : gL x q L M2 := by
  obtain ⟨s9, h1, h2⟩ := h
  exact ⟨s9, h1.fr hf (by omega), h2⟩
theorem gB.fr {x a n : Nat} {M M2 : m_M} (h : gB x M) (hf : m_fr a n M M2) (hd : a + n ≤ x + 237 ∨ x + 238 ≤ a) : gB x M2 := by
  obtain ⟨s9, h1⟩ := h
  exact ⟨s9, (hf.2 _ (by omega)).trans h1⟩
/-- all of it stays where only a row elsewhere, or one of its own parts, is written: each part by itself -/
theorem ghP.grow {z0 : Nat} {fo : Nat → Nat} {x w : Nat} {g sg : h_T} {L : Nat → h_T} {q : Int → Int} {tx ot : List Int} {M M2 : m_M} (h : ghP z0 fo x w g sg L q tx ot M) (h1 : M.1 ≤ M2.1) (h2 : M2.2 = M.2) : ghP z0 fo x w g sg L q tx ot M2 := by
  obtain ⟨a1, a2, a3, ⟨f9, a4⟩, ⟨s9, a5, b5⟩, ⟨L9, a6, b6⟩, ⟨bf, a7⟩, a8⟩ := h
  have e : ∀ a, M2.2 a = M.2 a := fun a => by rw [h2]
  exact ⟨by omega, (e _).trans a2, a3.keep (fun a _ _ => e a), ⟨f9, a4.keep (fun a _ _ => e a)⟩, ⟨s9, a5.keep (fun a _ _ => e a), b5⟩, ⟨L9, a6.keep (fun a _ _ => e a), b6⟩, ⟨bf, (e _).trans a7⟩, a8.kp (fun a _ _ => e a) h1 (by omega)⟩
theorem ghP.far {z0 : Nat} {fo : Nat → Nat} {x w : Nat} {g sg : h_T} {L : Nat → h_T} {q : Int → Int} {tx ot : List Int} {M M2 : m_M} (h : ghP z0 fo x w g sg L q tx ot M) (h1 : M.1 ≤ M2.1) (h2 : ∀ a : Nat, a < M.1 → (a < x + 238 ∨ w ≤ a) → x ≤ a → M2.2 a = M.2 a) : ghP z0 fo x w g sg L q tx ot M2 := by
  obtain ⟨a1, a2, a3, ⟨f9, a4⟩, ⟨s9, a5, b5⟩, ⟨L9, a6, b6⟩, ⟨bf, a7⟩, a8⟩ := h
  exact ⟨by omega, (h2 _ (by omega) (by omega) (by omega)).trans a2, a3.keep (fun a _ _ => h2 a (by omega) (by omega) (by omega)), ⟨f9, a4.keep (fun a _ _ => h2 a (by omega) (by omega) (by omega))⟩, ⟨s9, a5.keep (fun a _ _ => h2 a (by omega) (by omega) (by omega)), b5⟩, ⟨L9, a6.keep (fun a _ _ => h2 a (by omega) (by omega) (by omega)), b6⟩, ⟨bf, (h2 _ (by omega) (by omega) (by omega)).trans a7⟩, a8.kp (fun a b c => h2 a c (by omega) (by omega)) h1 (by omega)⟩

theorem ghP.u_now {z0 : Nat} {fo : Nat → Nat} {x w : Nat} {g sg : h_T} {L : Nat → h_T} {q : Int → Int} {tx ot : List Int} {M M2 : m_M} (h : ghP z0 fo x w g sg L q tx ot M) {g2 : h_T} (hp : hhR (x + 1) g2 M2) {a n : Nat} (hf : m_fr a n M M2) (hd : x + 1 ≤ a ∧ a + n ≤ x + 18) : ghP z0 fo x w g2 sg L q tx ot M2 := by
  obtain ⟨a1, a2, a3, ⟨f9, a4⟩, a5, a6, a7, a8⟩ := h
  exact ⟨⟨a1.1, by rw [hf.1]; exact a1.2.1, a1.2.2⟩, (hf.2 _ (by omega)).trans a2, hp, ⟨f9, a4.fr hf (by omega)⟩, a5.fr hf (by omega), a6.fr hf (by omega), a7.fr hf (by omega), a8.fr hf (by omega) (by omega)⟩
theorem ghP.u_for {z0 : Nat} {fo : Nat → Nat} {x w : Nat} {g sg : h_T} {L : Nat → h_T} {q : Int → Int} {tx ot : List Int} {M M2 : m_M} (h : ghP z0 fo x w g sg L q tx ot M) {f2 : h_T} (hp : hhR (x + 18) f2 M2) {a n : Nat} (hf : m_fr a n M M2) (hd : x + 18 ≤ a ∧ a + n ≤ x + 35) : ghP z0 fo x w g sg L q tx ot M2 := by
  obtain ⟨a1, a2, a3, ⟨f9, a4⟩, a5, a6, a7, a8⟩ := h
  exact ⟨⟨a1.1, by rw [hf.1]; exact a1.2.1, a1.2.2⟩, (hf.2 _ (by omega)).trans a2, a3.fr hf (by omega), ⟨_, hp⟩, a5.fr hf (by omega), a6.fr hf (by omega), a7.fr hf (by omega), a8.fr hf (by omega) (by omega)⟩
theorem ghP.u_sn {z0 : Nat} {fo : Nat → Nat} {x w : Nat} {g sg : h_T} {L : Nat → h_T} {q : Int → Int} {tx ot : List Int} {M M2 : m_M} (h : ghP z0 fo x w g sg L q tx ot M) {sg2 : h_T} (hp : gS x q sg2 M2) {a n : Nat} (hf : m_fr a n M M2) (hd : x + 35 ≤ a ∧ a + n ≤ x + 52) : ghP z0 fo x w g sg2 L q tx ot M2 := by
  obtain ⟨a1, a2, a3, ⟨f9, a4⟩, a5, a6, a7, a8⟩ := h
  exact ⟨⟨a1.1, by rw [hf.1]; exact a1.2.1, a1.2.2⟩, (hf.2 _ (by omega)).trans a2, a3.fr hf (by omega), ⟨f9, a4.fr hf (by omega)⟩, hp, a6.fr hf (by omega), a7.fr hf (by omega), a8.fr hf (by omega) (by omega)⟩
theorem ghP.u_hi {z0 : Nat} {fo : Nat → Nat} {x w : Nat} {g sg : h_T} {L : Nat → h_T} {q : Int → Int} {tx ot : List Int} {M M2 : m_M} (h : ghP z0 fo x w g sg L q tx ot M) {L2 : Nat → h_T} (hp : gL x q L2 M2) {a n : Nat} (hf : m_fr a n M M2) (hd : x + 52 ≤ a ∧ a + n ≤ x + 207) : ghP z0 fo x w g sg L2 q tx ot M2 := by
  obtain ⟨a1, a2, a3, ⟨f9, a4⟩, a5, a6, a7, a8⟩ := h
  exact ⟨⟨a1.1, by rw [hf.1]; exact a1.2.1, a1.2.2⟩, (hf.2 _ (by omega)).trans a2, a3.fr hf (by omega), ⟨f9, a4.fr hf (by omega)⟩, a5.fr hf (by omega), hp, a7.fr hf (by omega), a8.fr hf (by omega) (by omega)⟩
theorem ghP.u_bst {z0 : Nat} {fo : Nat → Nat} {x w : Nat} {g sg : h_T} {L : Nat → h_T} {q : Int → Int} {tx ot : List Int} {M M2 : m_M} (h : ghP z0 fo x w g sg L q tx ot M)  (hp : gB x M2) {a n : Nat} (hf : m_fr a n M M2) (hd : x + 237 ≤ a ∧ a + n ≤ x + 238) : ghP z0 fo x w g sg L q tx ot M2 := by
  obtain ⟨a1, a2, a3, ⟨f9, a4⟩, a5, a6, a7, a8⟩ := h
  exact ⟨⟨a1.1, by rw [hf.1]; exact a1.2.1, a1.2.2⟩, (hf.2 _ (by omega)).trans a2, a3.fr hf (by omega), ⟨f9, a4.fr hf (by omega)⟩, a5.fr hf (by omega), a6.fr hf (by omega), hp, a8.fr hf (by omega) (by omega)⟩
theorem ghP.u_ob {z0 : Nat} {fo : Nat → Nat} {x w : Nat} {g sg : h_T} {L : Nat → h_T} {q : Int → Int} {tx ot : List Int} {M M2 : m_M} (h : ghP z0 fo x w g sg L q tx ot M) {q2 : Int → Int} (hp : gO x q2 M2) (hf : m_fr x 1 M M2) (h0 : q2 0 = q 0) (h1 : q2 1 = q 1) : ghP z0 fo x w g sg L q2 tx ot M2 := by
  obtain ⟨a1, a2, a3, ⟨f9, a4⟩, ⟨s9, a5, b5⟩, ⟨L9, a6, b6⟩, a7, a8⟩ := h
  exact ⟨⟨a1.1, by rw [hf.1]; exact a1.2.1, a1.2.2⟩, hp, a3.fr hf (by omega), ⟨f9, a4.fr hf (by omega)⟩, ⟨s9, a5.fr hf (by omega), by rw [h1]; exact b5⟩, ⟨L9, by rw [h0]; exact a6.fr hf (by omega), by rw [h0]; exact b6⟩, a7.fr hf (by omega), a8.fr hf (by omega) (by omega)⟩

def g_po (r : Int × Int) (M : m_M) : Option Value → m_M → Prop := fun v M' => r.1 = 0 ∧ v = some (VI r.2) ∧ M' = M
theorem g_po.mk {r : Int × Int} {z : Int} {M : m_M} (e : r = (0, z)) : g_po r M (some (VI z)) M := by
  subst e
  exact ⟨rfl, rfl, rfl⟩
def g_px (Es : List String) (r : Int × Int) (M : m_M) : String → m_M → Prop := fun E M' => (1 ≤ r.1 ∧ Es[(r.1 - 1).toNat]? = some E) ∧ M.1 ≤ M'.1 ∧ M'.2 = M.2
theorem g_px.mk {Es : List String} {r : Int × Int} {E : String} {M M' : m_M} (k z : Int) (e : r = (k, z)) (hk : 1 ≤ k) (hE : Es[(k - 1).toNat]? = some E) (h1 : M.1 ≤ M'.1) (h2 : M'.2 = M.2) : g_px Es r M E M' := by
  subst e
  exact ⟨⟨hk, hE⟩, h1, h2⟩
def eI : String := "java/lang/IndexOutOfBoundsException"
def eA : String := "java/lang/IllegalArgumentException"
def eS : String := "java/lang/IllegalStateException"
def eU : String := "java/lang/UnsupportedOperationException"
def eN : String := "java/util/NoSuchElementException"
def eM : String := "java/lang/ArithmeticException"
def G_if (c : Prop) [Decidable c] (z : Int) : Int × Int := if c then (0, z) else (1, 0)
theorem G_if.t {c : Prop} [Decidable c] {z : Int} (h : c) : G_if c z = (0, z) := if_pos h
theorem G_if.f {c : Prop} [Decidable c] {z : Int} (h : ¬ c) : G_if c z = (1, 0) := if_neg h
def G_dust (g : h_T) (y : Int) : Int × Int := G_if (0 ≤ y ∧ y < 6) (g 1 y)
def S_rbd (g : h_T) (r : Int) : Int := h_find (fun a => decide (S_rdust g a = r)) 6 0
def G_rbd (g : h_T) (r : Int) : Int × Int := G_if (S_rbd g r ≠ -1) (S_rbd g r)
def G_bro (g : h_T) (c : Nat) (y : Int) : Int × Int := G_if (0 ≤ y ∧ y < g 0 8) (g c y)
def G_gob (g : h_T) (c : Nat) (y : Int) : Int × Int := G_if (0 ≤ y ∧ y < g 0 9) (g c y)
def G_ene (g : h_T) (y : Int) : Int × Int := G_if (0 ≤ y ∧ y < g 0 9) (S_energy g y)
def S_gbw (g : h_T) (r : Int) : Int := h_find (fun a => decide (S_rwealth g a = r)) (g 0 9).toNat 0
def G_gbw (g : h_T) (r : Int) : Int × Int := G_if (S_gbw g r ≠ -1) (S_gbw g r)
def G_best (g : h_T) (y : Int) : Int × Int := G_if (0 ≤ y ∧ y < g 0 9) (h_ks g y (g 0 11).toNat (S_energy g y))
def G_cat (g : h_T) (y : Int) : Int × Int := G_if (0 ≤ y ∧ y < g 0 11) (g 9 y)
def G_con (g : h_T) (c : Nat) (y : Int) : Int × Int := G_if (S_pos g y ≠ -1) (g c (S_pos g y))

set_option maxHeartbeats 4000000 in
set_option maxRecDepth 100000 in
theorem t_X9_checkBroom {D : va_G} {aC : Nat → ClassId} {s0 : State} {l : Launch} (hF : m_F D aC s0) (hl : l.stackTraces = false) {x : Nat} {q : Int → Int} {g : h_T} {M : m_M} (hX : m_TH s0) (hO : gO x q M) (hR : hhR (x + 1) g M) (hB : h_B g) {y : Int} (hy : -2147483648 ≤ y ∧ y < 2147483648) : m_Met D aC s0 l yX9_checkBroom cX9_checkBroom 2 none 6 (1) (6) [.ref x, VI y] M (fun v M' => v = none ∧ M' = M ∧ (0 ≤ y ∧ y < g 0 8)) (fun E M' => (E = eI ∧ ¬ (0 ≤ y ∧ y < g 0 8)) ∧ M.1 ≤ M'.1 ∧ M'.2 = M.2) := by
  refine m_entry (lv := [(0, .ref x), (1, VI y)]) (by decide +kernel) (Nat.le_of_ble_eq_true rfl) rfl hF hl ?_
  intro p e s m args below meth c hC hr hno hnm
  change m_C D aC s0 RX9 _ _ _ _ _ _ _ _ _ at hC
  refine m_aload_n hC 0 dX9_checkBroom_0 rfl rfl ?_
  refine m_getf hC dX9_checkBroom_1 kf_X9_12 hO rfl ?_
  refine m_getf hC dX9_checkBroom_4 kf_X9_144 hR.ob rfl ?_
  refine m_iload_n hC 1 dX9_checkBroom_7 rfl rfl ?_
  refine m_callV hC (t_X1_has hF hl hR hB hy) dX9_checkBroom_8 kc_X1_has kV_X9_164 hR.br rfl rfl rfl rfl (Nat.le_of_ble_eq_true rfl) (by decide) (by decide) m_nox (fun v9 M1 h9 => ?_)
  obtain ⟨rfl, h9⟩ := h9
  replace h9 := h9.symm
  subst h9
  refine m_if_ne (tgt := 24) hC dX9_checkBroom_11 (by decide) (by split <;> omega) (fun c1 => ?_) (fun c1 => ?_)
  · exact m_vret hC dX9_checkBroom_24 hr (by decide) (by decide) (⟨rfl, rfl, by split at c1 <;> first | assumption | omega⟩)
  · exact m_thr hC hX (ic := 108) (cls := "java/lang/IndexOutOfBoundsException") (is := 168) (text := "no such broom") (by decide) (by decide) (by decide +kernel) kX_104 kXi_104 ⟨by decide +kernel, by decide +kernel⟩ dX9_checkBroom_14 dX9_checkBroom_17 dX9_checkBroom_18 dX9_checkBroom_20 dX9_checkBroom_23 hno (by decide) (Nat.le_of_ble_eq_true rfl) (Nat.le_of_ble_eq_true rfl) (Nat.le_of_ble_eq_true rfl) (Nat.le_of_ble_eq_true rfl) (Nat.le_of_ble_eq_true rfl) (fun M9 e1 e2 => ⟨⟨rfl, by split at c1 <;> first | assumption | omega⟩, e1, e2⟩)

set_option maxHeartbeats 4000000 in
set_option maxRecDepth 100000 in
theorem t_X9_checkGoblin {D : va_G} {aC : Nat → ClassId} {s0 : State} {l : Launch} (hF : m_F D aC s0) (hl : l.stackTraces = false) {x : Nat} {q : Int → Int} {g : h_T} {M : m_M} (hX : m_TH s0) (hO : gO x q M) (hR : hhR (x + 1) g M) (hB : h_B g) {y : Int} (hy : -2147483648 ≤ y ∧ y < 2147483648) : m_Met D aC s0 l yX9_checkGoblin cX9_checkGoblin 2 none 6 (1) (6) [.ref x, VI y] M (fun v M' => v = none ∧ M' = M ∧ (0 ≤ y ∧ y < g 0 9)) (fun E M' => (E = eI ∧ ¬ (0 ≤ y ∧ y < g 0 9)) ∧ M.1 ≤ M'.1 ∧ M'.2 = M.2) := by
  refine m_entry (lv := [(0, .ref x), (1, VI y)]) (by decide +kernel) (Nat.le_of_ble_eq_true rfl) rfl hF hl ?_
  intro p e s m args below meth c hC hr hno hnm
  change m_C D aC s0 RX9 _ _ _ _ _ _ _ _ _ at hC
  refine m_aload_n hC 0 dX9_checkGoblin_0 rfl rfl ?_
  refine m_getf hC dX9_checkGoblin_1 kf_X9_12 hO rfl ?_
  refine m_getf hC dX9_checkGoblin_4 kf_X9_170 hR.ob rfl ?_
  refine m_iload_n hC 1 dX9_checkGoblin_7 rfl rfl ?_
  refine m_callV hC (t_X5_has hF hl hR hB hy) dX9_checkGoblin_8 kc_X5_has kV_X9_214 hR.go rfl rfl rfl rfl (Nat.le_of_ble_eq_true rfl) (by decide) (by decide) m_nox (fun v9 M1 h9 => ?_)
  obtain ⟨rfl, h9⟩ := h9
  replace h9 := h9.symm
  subst h9
  refine m_if_ne (tgt := 24) hC dX9_checkGoblin_11 (by decide) (by split <;> omega) (fun c1 => ?_) (fun c1 => ?_)
  · exact m_vret hC dX9_checkGoblin_24 hr (by decide) (by decide) (⟨rfl, rfl, by split at c1 <;> first | assumption | omega⟩)
  · exact m_thr hC hX (ic := 108) (cls := "java/lang/IndexOutOfBoundsException") (is := 215) (text := "no such goblin") (by decide) (by decide) (by decide +kernel) kX_104 kXi_104 ⟨by decide +kernel, by decide +kernel⟩ dX9_checkGoblin_14 dX9_checkGoblin_17 dX9_checkGoblin_18 dX9_checkGoblin_20 dX9_checkGoblin_23 hno (by decide) (Nat.le_of_ble_eq_true rfl) (Nat.le_of_ble_eq_true rfl) (Nat.le_of_ble_eq_true rfl) (Nat.le_of_ble_eq_true rfl) (Nat.le_of_ble_eq_true rfl) (fun M9 e1 e2 => ⟨⟨rfl, by split at c1 <;> first | assumption | omega⟩, e1, e2⟩)

set_option maxHeartbeats 4000000 in
set_option maxRecDepth 100000 in
theorem t_X9_checkedPosition {D : va_G} {aC : Nat → ClassId} {s0 : State} {l : Launch} (hF : m_F D aC s0) (hl : l.stackTraces = false) {x : Nat} {q : Int → Int} {g : h_T} {M : m_M} (hX : m_TH s0) (hO : gO x q M) (hR : hhR (x + 1) g M) (hB : h_B g) {y : Int} (hy : -2147483648 ≤ y ∧ y < 2147483648) : m_Met D aC s0 l yX9_checkedPosition cX9_checkedPosition 3 (some .int) 6 (1) (6) [.ref x, VI y] M (fun v M' => v = some (VI (S_pos g y)) ∧ M' = M ∧ S_pos g y ≠ -1) (fun E M' => (E = eN ∧ ¬ S_pos g y ≠ -1) ∧ M.1 ≤ M'.1 ∧ M'.2 = M.2) := by
  refine m_entry (lv := [(0, .ref x), (1, VI y)]) (by decide +kernel) (Nat.le_of_ble_eq_true rfl) rfl hF hl ?_
  intro p e s m args below meth c hC hr hno hnm
  change m_C D aC s0 RX9 _ _ _ _ _ _ _ _ _ at hC
  have hps := S_pos_rg (g := g) y (by have := hB.n11; omega)
  have h11 := hB.n11
  refine m_aload_n hC 0 dX9_checkedPosition_0 rfl rfl ?_
  refine m_getf hC dX9_checkedPosition_1 kf_X9_12 hO rfl ?_
  refine m_getf hC dX9_checkedPosition_4 kf_X9_201 hR.ob rfl ?_
  refine m_iload_n hC 1 dX9_checkedPosition_7 rfl rfl ?_
  refine m_callV hC (t_X3_positionOf hF hl hR hB hy) dX9_checkedPosition_8 kc_X3_positionOf kV_X9_245 hR.co rfl rfl rfl rfl (Nat.le_of_ble_eq_true rfl) (by decide) (by decide) m_nox (fun v9 M1 h9 => ?_)
  obtain ⟨rfl, h9⟩ := h9
  replace h9 := h9.symm
  subst h9
  refine m_istore_n hC dX9_checkedPosition_11 rfl (by decide) rfl ?_
  refine m_iload_n hC 0 dX9_checkedPosition_12 rfl rfl ?_
  refine m_iconst hC dX9_checkedPosition_13 ?_
  refine m_icmp_ne (tgt := 27) hC dX9_checkedPosition_14 (by decide) (by first | omega | (simp [hs_at] <;> omega)) (fun c1 => ?_) (fun c1 => ?_)
  · refine m_iload_n hC 0 dX9_checkedPosition_27 rfl rfl ?_
    exact m_iret hC dX9_checkedPosition_28 hr (by decide) (by decide) (⟨rfl, rfl, c1⟩)
  · exact m_thn hC hX (is := 128) (text := "no such open contract") (by decide) kX_126 kXi_126 ⟨by decide +kernel, by decide +kernel⟩ dX9_checkedPosition_17 dX9_checkedPosition_20 dX9_checkedPosition_21 dX9_checkedPosition_23 dX9_checkedPosition_26 hno (by decide) (Nat.le_of_ble_eq_true rfl) (Nat.le_of_ble_eq_true rfl) (Nat.le_of_ble_eq_true rfl) (Nat.le_of_ble_eq_true rfl) (Nat.le_of_ble_eq_true rfl) (fun M9 e1 e2 => ⟨⟨rfl, fun z => z c1⟩, e1, e2⟩)

set_option maxHeartbeats 4000000 in
set_option maxRecDepth 100000 in
theorem t_X9_dust {D : va_G} {aC : Nat → ClassId} {s0 : State} {l : Launch} (hF : m_F D aC s0) (hl : l.stackTraces = false) {x : Nat} {q : Int → Int} {g : h_T} {M : m_M} (hX : m_TH s0) (hO : gO x q M) (hR : hhR (x + 1) g M) (hB : h_B g) {y : Int} (hy : -2147483648 ≤ y ∧ y < 2147483648) : m_Met D aC s0 l yX9_dust cX9_dust 2 (some .int) 12 (470) (940) [.ref x, VI y] M (g_po (G_dust g y) M) (g_px [eI] (G_dust g y) M) := by
  refine m_entry (lv := [(0, .ref x), (1, VI y)]) (by decide +kernel) (Nat.le_of_ble_eq_true rfl) rfl hF hl ?_
  intro p e s m args below meth c hC hr hno hnm
  change m_C D aC s0 RX9 _ _ _ _ _ _ _ _ _ at hC
  refine m_iload_n hC 1 dX9_dust_0 rfl rfl ?_
  refine m_if_lt (tgt := 10) hC dX9_dust_1 (by decide) (by first | omega | (simp [hs_at] <;> omega)) (fun c1 => ?_) (fun c1 => ?_)
  · exact m_thr hC hX (ic := 108) (cls := "java/lang/IndexOutOfBoundsException") (is := 134) (text := "no such room") (by decide) (by decide) (by decide +kernel) kX_104 kXi_104 ⟨by decide +kernel, by decide +kernel⟩ dX9_dust_10 dX9_dust_13 dX9_dust_14 dX9_dust_16 dX9_dust_19 hno (by decide) (Nat.le_of_ble_eq_true rfl) (Nat.le_of_ble_eq_true rfl) (Nat.le_of_ble_eq_true rfl) (Nat.le_of_ble_eq_true rfl) (Nat.le_of_ble_eq_true rfl) (fun M9 e1 e2 => (g_px.mk 1 0 (G_if.f (by omega)) (by decide) rfl e1 e2))
  · refine m_iload_n hC 1 dX9_dust_4 rfl rfl ?_
    refine m_bipush hC dX9_dust_5 (by decide) ?_
    refine m_icmp_lt (tgt := 20) hC dX9_dust_7 (by decide) (by first | omega | (simp [hs_at] <;> omega)) (fun c2 => ?_) (fun c2 => ?_)
    · refine m_aload_n hC 0 dX9_dust_20 rfl rfl ?_
      refine m_getf hC dX9_dust_21 kf_X9_12 hO rfl ?_
      refine m_getf hC dX9_dust_24 kf_X9_136 hR.ob rfl ?_
      refine m_iload_n hC 1 dX9_dust_27 rfl rfl ?_
      refine m_ld1 hC hR dX9_dust_28 (by first | omega | (simp [hs_at] <;> omega)) (by first | omega | (simp [hs_at] <;> omega)) ?_
      exact m_iret hC dX9_dust_29 hr (Nat.le_of_ble_eq_true rfl) (Nat.le_of_ble_eq_true rfl) (g_po.mk (G_if.t (by omega)))
    · exact m_thr hC hX (ic := 108) (cls := "java/lang/IndexOutOfBoundsException") (is := 134) (text := "no such room") (by decide) (by decide) (by decide +kernel) kX_104 kXi_104 ⟨by decide +kernel, by decide +kernel⟩ dX9_dust_10 dX9_dust_13 dX9_dust_14 dX9_dust_16 dX9_dust_19 hno (by decide) (Nat.le_of_ble_eq_true rfl) (Nat.le_of_ble_eq_true rfl) (Nat.le_of_ble_eq_true rfl) (Nat.le_of_ble_eq_true rfl) (Nat.le_of_ble_eq_true rfl) (fun M9 e1 e2 => (g_px.mk 1 0 (G_if.f (by omega)) (by decide) rfl e1 e2))

set_option maxHeartbeats 4000000 in
set_option maxRecDepth 100000 in
theorem t_X9_power {D : va_G} {aC : Nat → ClassId} {s0 : State} {l : Launch} (hF : m_F D aC s0) (hl : l.stackTraces = false) {x : Nat} {q : Int → Int} {g : h_T} {M : m_M} (hX : m_TH s0) (hO : gO x q M) (hR : hhR (x + 1) g M) (hB : h_B g) {y : Int} (hy : -2147483648 ≤ y ∧ y < 2147483648) : m_Met D aC s0 l yX9_power cX9_power 2 (some .int) 12 (470) (940) [.ref x, VI y] M (g_po (G_bro g 2 y) M) (g_px [eI] (G_bro g 2 y) M) := by
  refine m_entry (lv := [(0, .ref x), (1, VI y)]) (by decide +kernel) (Nat.le_of_ble_eq_true rfl) rfl hF hl ?_
  intro p e s m args below meth c hC hr hno hnm
  change m_C D aC s0 RX9 _ _ _ _ _ _ _ _ _ at hC
  have h8 := hB.n8
  refine m_aload_n hC 0 dX9_power_0 rfl rfl ?_
  refine m_iload_n hC 1 dX9_power_1 rfl rfl ?_
  refine m_callV hC (t_X9_checkBroom hF hl hX hO hR hB hy) dX9_power_2 kc_X9_checkBroom kV_X9_153 hO rfl rfl rfl rfl (Nat.le_of_ble_eq_true rfl) (by decide) ⟨Nat.le_of_ble_eq_true rfl, Nat.le_of_ble_eq_true rfl⟩ (m_out hC hno (Nat.le_of_ble_eq_true rfl) (Nat.le_of_ble_eq_true rfl) (fun E9 M9 h9 => (by obtain ⟨⟨rfl, h8⟩, h7, h6⟩ := h9; exact g_px.mk 1 0 (G_if.f h8) (by decide) rfl h7 h6))) (fun v9 M9 h9 => ?_)
  obtain ⟨rfl, h9, hyb⟩ := h9
  replace h9 := h9.symm
  subst h9
  refine m_aload_n hC 0 dX9_power_5 rfl rfl ?_
  refine m_getf hC dX9_power_6 kf_X9_12 hO rfl ?_
  refine m_getf hC dX9_power_9 kf_X9_144 hR.ob rfl ?_
  refine m_getf hC dX9_power_12 kf_X9_157 hR.br rfl ?_
  refine m_iload_n hC 1 dX9_power_15 rfl rfl ?_
  refine m_ld2 hC hR dX9_power_16 (by first | omega | (simp [hs_at] <;> omega)) (by first | omega | (simp [hs_at] <;> omega)) ?_
  exact m_iret hC dX9_power_17 hr (Nat.le_of_ble_eq_true rfl) (Nat.le_of_ble_eq_true rfl) (g_po.mk (G_if.t hyb))

set_option maxHeartbeats 4000000 in
set_option maxRecDepth 100000 in
theorem t_X9_isBanished {D : va_G} {aC : Nat → ClassId} {s0 : State} {l : Launch} (hF : m_F D aC s0) (hl : l.stackTraces = false) {x : Nat} {q : Int → Int} {g : h_T} {M : m_M} (hX : m_TH s0) (hO : gO x q M) (hR : hhR (x + 1) g M) (hB : h_B g) {y : Int} (hy : -2147483648 ≤ y ∧ y < 2147483648) : m_Met D aC s0 l yX9_isBanished cX9_isBanished 2 (some .boolean) 12 (470) (940) [.ref x, VI y] M (g_po (G_bro g 3 y) M) (g_px [eI] (G_bro g 3 y) M) := by
  refine m_entry (lv := [(0, .ref x), (1, VI y)]) (by decide +kernel) (Nat.le_of_ble_eq_true rfl) rfl hF hl ?_
  intro p e s m args below meth c hC hr hno hnm
  change m_C D aC s0 RX9 _ _ _ _ _ _ _ _ _ at hC
  have h8 := hB.n8
  refine m_aload_n hC 0 dX9_isBanished_0 rfl rfl ?_
  refine m_iload_n hC 1 dX9_isBanished_1 rfl rfl ?_
  refine m_callV hC (t_X9_checkBroom hF hl hX hO hR hB hy) dX9_isBanished_2 kc_X9_checkBroom kV_X9_153 hO rfl rfl rfl rfl (Nat.le_of_ble_eq_true rfl) (by decide) ⟨Nat.le_of_ble_eq_true rfl, Nat.le_of_ble_eq_true rfl⟩ (m_out hC hno (Nat.le_of_ble_eq_true rfl) (Nat.le_of_ble_eq_true rfl) (fun E9 M9 h9 => (by obtain ⟨⟨rfl, h8⟩, h7, h6⟩ := h9; exact g_px.mk 1 0 (G_if.f h8) (by decide) rfl h7 h6))) (fun v9 M9 h9 => ?_)
  obtain ⟨rfl, h9, hyb⟩ := h9
  replace h9 := h9.symm
  subst h9
  refine m_aload_n hC 0 dX9_isBanished_5 rfl rfl ?_
  refine m_getf hC dX9_isBanished_6 kf_X9_12 hO rfl ?_
  refine m_getf hC dX9_isBanished_9 kf_X9_144 hR.ob rfl ?_
  refine m_getf hC dX9_isBanished_12 kf_X9_160 hR.br rfl ?_
  refine m_iload_n hC 1 dX9_isBanished_15 rfl rfl ?_
  refine m_ld3 hC hR dX9_isBanished_16 (by first | omega | (simp [hs_at] <;> omega)) (by first | omega | (simp [hs_at] <;> omega)) ?_
  exact m_zret hC dX9_isBanished_17 hr (by rcases (hB.br hyb).2.2 with h | h <;> rw [h] <;> rfl) (Nat.le_of_ble_eq_true rfl) (Nat.le_of_ble_eq_true rfl) (g_po.mk (G_if.t hyb))

set_option maxHeartbeats 4000000 in
set_option maxRecDepth 100000 in
theorem t_X9_strength {D : va_G} {aC : Nat → ClassId} {s0 : State} {l : Launch} (hF : m_F D aC s0) (hl : l.stackTraces = false) {x : Nat} {q : Int → Int} {g : h_T} {M : m_M} (hX : m_TH s0) (hO : gO x q M) (hR : hhR (x + 1) g M) (hB : h_B g) {y : Int} (hy : -2147483648 ≤ y ∧ y < 2147483648) : m_Met D aC s0 l yX9_strength cX9_strength 2 (some .int) 12 (470) (940) [.ref x, VI y] M (g_po (G_gob g 4 y) M) (g_px [eI] (G_gob g 4 y) M) := by
  refine m_entry (lv := [(0, .ref x), (1, VI y)]) (by decide +kernel) (Nat.le_of_ble_eq_true rfl) rfl hF hl ?_
  intro p e s m args below meth c hC hr hno hnm
  change m_C D aC s0 RX9 _ _ _ _ _ _ _ _ _ at hC
  have h9 := hB.n9
  refine m_aload_n hC 0 dX9_strength_0 rfl rfl ?_
  refine m_iload_n hC 1 dX9_strength_1 rfl rfl ?_
  refine m_callV hC (t_X9_checkGoblin hF hl hX hO hR hB hy) dX9_strength_2 kc_X9_checkGoblin kV_X9_177 hO rfl rfl rfl rfl (Nat.le_of_ble_eq_true rfl) (by decide) ⟨Nat.le_of_ble_eq_true rfl, Nat.le_of_ble_eq_true rfl⟩ (m_out hC hno (Nat.le_of_ble_eq_true rfl) (Nat.le_of_ble_eq_true rfl) (fun E9 M9 h9 => (by obtain ⟨⟨rfl, h8⟩, h7, h6⟩ := h9; exact g_px.mk 1 0 (G_if.f h8) (by decide) rfl h7 h6))) (fun v9 M9 h9 => ?_)
  obtain ⟨rfl, h9, hyg⟩ := h9
  replace h9 := h9.symm
  subst h9
  refine m_aload_n hC 0 dX9_strength_5 rfl rfl ?_
  refine m_getf hC dX9_strength_6 kf_X9_12 hO rfl ?_
  refine m_getf hC dX9_strength_9 kf_X9_170 hR.ob rfl ?_
  refine m_getf hC dX9_strength_12 kf_X9_180 hR.go rfl ?_
  refine m_iload_n hC 1 dX9_strength_15 rfl rfl ?_
  refine m_ld4 hC hR dX9_strength_16 (by first | omega | (simp [hs_at] <;> omega)) (by first | omega | (simp [hs_at] <;> omega)) ?_
  exact m_iret hC dX9_strength_17 hr (Nat.le_of_ble_eq_true rfl) (Nat.le_of_ble_eq_true rfl) (g_po.mk (G_if.t hyg))

set_option maxHeartbeats 4000000 in
set_option maxRecDepth 100000 in
theorem t_X9_purse {D : va_G} {aC : Nat → ClassId} {s0 : State} {l : Launch} (hF : m_F D aC s0) (hl : l.stackTraces = false) {x : Nat} {q : Int → Int} {g : h_T} {M : m_M} (hX : m_TH s0) (hO : gO x q M) (hR : hhR (x + 1) g M) (hB : h_B g) {y : Int} (hy : -2147483648 ≤ y ∧ y < 2147483648) : m_Met D aC s0 l yX9_purse cX9_purse 2 (some .int) 12 (470) (940) [.ref x, VI y] M (g_po (G_gob g 5 y) M) (g_px [eI] (G_gob g 5 y) M) := by
  refine m_entry (lv := [(0, .ref x), (1, VI y)]) (by decide +kernel) (Nat.le_of_ble_eq_true rfl) rfl hF hl ?_
  intro p e s m args below meth c hC hr hno hnm
  change m_C D aC s0 RX9 _ _ _ _ _ _ _ _ _ at hC
  have h9 := hB.n9
  refine m_aload_n hC 0 dX9_purse_0 rfl rfl ?_
  refine m_iload_n hC 1 dX9_purse_1 rfl rfl ?_
  refine m_callV hC (t_X9_checkGoblin hF hl hX hO hR hB hy) dX9_purse_2 kc_X9_checkGoblin kV_X9_177 hO rfl rfl rfl rfl (Nat.le_of_ble_eq_true rfl) (by decide) ⟨Nat.le_of_ble_eq_true rfl, Nat.le_of_ble_eq_true rfl⟩ (m_out hC hno (Nat.le_of_ble_eq_true rfl) (Nat.le_of_ble_eq_true rfl) (fun E9 M9 h9 => (by obtain ⟨⟨rfl, h8⟩, h7, h6⟩ := h9; exact g_px.mk 1 0 (G_if.f h8) (by decide) rfl h7 h6))) (fun v9 M9 h9 => ?_)
  obtain ⟨rfl, h9, hyg⟩ := h9
  replace h9 := h9.symm
  subst h9
  refine m_aload_n hC 0 dX9_purse_5 rfl rfl ?_
  refine m_getf hC dX9_purse_6 kf_X9_12 hO rfl ?_
  refine m_getf hC dX9_purse_9 kf_X9_170 hR.ob rfl ?_
  refine m_getf hC dX9_purse_12 kf_X9_183 hR.go rfl ?_
  refine m_iload_n hC 1 dX9_purse_15 rfl rfl ?_
  refine m_ld5 hC hR dX9_purse_16 (by first | omega | (simp [hs_at] <;> omega)) (by first | omega | (simp [hs_at] <;> omega)) ?_
  exact m_iret hC dX9_purse_17 hr (Nat.le_of_ble_eq_true rfl) (Nat.le_of_ble_eq_true rfl) (g_po.mk (G_if.t hyg))

set_option maxHeartbeats 4000000 in
set_option maxRecDepth 100000 in
theorem t_X9_debt {D : va_G} {aC : Nat → ClassId} {s0 : State} {l : Launch} (hF : m_F D aC s0) (hl : l.stackTraces = false) {x : Nat} {q : Int → Int} {g : h_T} {M : m_M} (hX : m_TH s0) (hO : gO x q M) (hR : hhR (x + 1) g M) (hB : h_B g) {y : Int} (hy : -2147483648 ≤ y ∧ y < 2147483648) : m_Met D aC s0 l yX9_debt cX9_debt 2 (some .int) 12 (470) (940) [.ref x, VI y] M (g_po (G_gob g 6 y) M) (g_px [eI] (G_gob g 6 y) M) := by
  refine m_entry (lv := [(0, .ref x), (1, VI y)]) (by decide +kernel) (Nat.le_of_ble_eq_true rfl) rfl hF hl ?_
  intro p e s m args below meth c hC hr hno hnm
  change m_C D aC s0 RX9 _ _ _ _ _ _ _ _ _ at hC
  have h9 := hB.n9
  refine m_aload_n hC 0 dX9_debt_0 rfl rfl ?_
  refine m_iload_n hC 1 dX9_debt_1 rfl rfl ?_
  refine m_callV hC (t_X9_checkGoblin hF hl hX hO hR hB hy) dX9_debt_2 kc_X9_checkGoblin kV_X9_177 hO rfl rfl rfl rfl (Nat.le_of_ble_eq_true rfl) (by decide) ⟨Nat.le_of_ble_eq_true rfl, Nat.le_of_ble_eq_true rfl⟩ (m_out hC hno (Nat.le_of_ble_eq_true rfl) (Nat.le_of_ble_eq_true rfl) (fun E9 M9 h9 => (by obtain ⟨⟨rfl, h8⟩, h7, h6⟩ := h9; exact g_px.mk 1 0 (G_if.f h8) (by decide) rfl h7 h6))) (fun v9 M9 h9 => ?_)
  obtain ⟨rfl, h9, hyg⟩ := h9
  replace h9 := h9.symm
  subst h9
  refine m_aload_n hC 0 dX9_debt_5 rfl rfl ?_
  refine m_getf hC dX9_debt_6 kf_X9_12 hO rfl ?_
  refine m_getf hC dX9_debt_9 kf_X9_170 hR.ob rfl ?_
  refine m_getf hC dX9_debt_12 kf_X9_186 hR.go rfl ?_
  refine m_iload_n hC 1 dX9_debt_15 rfl rfl ?_
  refine m_ld6 hC hR dX9_debt_16 (by first | omega | (simp [hs_at] <;> omega)) (by first | omega | (simp [hs_at] <;> omega)) ?_
  exact m_iret hC dX9_debt_17 hr (Nat.le_of_ble_eq_true rfl) (Nat.le_of_ble_eq_true rfl) (g_po.mk (G_if.t hyg))

set_option maxHeartbeats 4000000 in
set_option maxRecDepth 100000 in
theorem t_X9_skippedNights {D : va_G} {aC : Nat → ClassId} {s0 : State} {l : Launch} (hF : m_F D aC s0) (hl : l.stackTraces = false) {x : Nat} {q : Int → Int} {g : h_T} {M : m_M} (hX : m_TH s0) (hO : gO x q M) (hR : hhR (x + 1) g M) (hB : h_B g) {y : Int} (hy : -2147483648 ≤ y ∧ y < 2147483648) : m_Met D aC s0 l yX9_skippedNights cX9_skippedNights 2 (some .int) 12 (470) (940) [.ref x, VI y] M (g_po (G_gob g 7 y) M) (g_px [eI] (G_gob g 7 y) M) := by
  refine m_entry (lv := [(0, .ref x), (1, VI y)]) (by decide +kernel) (Nat.le_of_ble_eq_true rfl) rfl hF hl ?_
  intro p e s m args below meth c hC hr hno hnm
  change m_C D aC s0 RX9 _ _ _ _ _ _ _ _ _ at hC
  have h9 := hB.n9
  refine m_aload_n hC 0 dX9_skippedNights_0 rfl rfl ?_
  refine m_iload_n hC 1 dX9_skippedNights_1 rfl rfl ?_
  refine m_callV hC (t_X9_checkGoblin hF hl hX hO hR hB hy) dX9_skippedNights_2 kc_X9_checkGoblin kV_X9_177 hO rfl rfl rfl rfl (Nat.le_of_ble_eq_true rfl) (by decide) ⟨Nat.le_of_ble_eq_true rfl, Nat.le_of_ble_eq_true rfl⟩ (m_out hC hno (Nat.le_of_ble_eq_true rfl) (Nat.le_of_ble_eq_true rfl) (fun E9 M9 h9 => (by obtain ⟨⟨rfl, h8⟩, h7, h6⟩ := h9; exact g_px.mk 1 0 (G_if.f h8) (by decide) rfl h7 h6))) (fun v9 M9 h9 => ?_)
  obtain ⟨rfl, h9, hyg⟩ := h9
  replace h9 := h9.symm
  subst h9
  refine m_aload_n hC 0 dX9_skippedNights_5 rfl rfl ?_
  refine m_getf hC dX9_skippedNights_6 kf_X9_12 hO rfl ?_
  refine m_getf hC dX9_skippedNights_9 kf_X9_170 hR.ob rfl ?_
  refine m_getf hC dX9_skippedNights_12 kf_X9_189 hR.go rfl ?_
  refine m_iload_n hC 1 dX9_skippedNights_15 rfl rfl ?_
  refine m_ld7 hC hR dX9_skippedNights_16 (by first | omega | (simp [hs_at] <;> omega)) (by first | omega | (simp [hs_at] <;> omega)) ?_
  exact m_iret hC dX9_skippedNights_17 hr (Nat.le_of_ble_eq_true rfl) (Nat.le_of_ble_eq_true rfl) (g_po.mk (G_if.t hyg))

set_option maxHeartbeats 4000000 in
set_option maxRecDepth 100000 in
theorem t_X9_isResting {D : va_G} {aC : Nat → ClassId} {s0 : State} {l : Launch} (hF : m_F D aC s0) (hl : l.stackTraces = false) {x : Nat} {q : Int → Int} {g : h_T} {M : m_M} (hX : m_TH s0) (hO : gO x q M) (hR : hhR (x + 1) g M) (hB : h_B g) {y : Int} (hy : -2147483648 ≤ y ∧ y < 2147483648) : m_Met D aC s0 l yX9_isResting cX9_isResting 2 (some .boolean) 12 (470) (940) [.ref x, VI y] M (g_po (G_gob g 8 y) M) (g_px [eI] (G_gob g 8 y) M) := by
  refine m_entry (lv := [(0, .ref x), (1, VI y)]) (by decide +kernel) (Nat.le_of_ble_eq_true rfl) rfl hF hl ?_
  intro p e s m args below meth c hC hr hno hnm
  change m_C D aC s0 RX9 _ _ _ _ _ _ _ _ _ at hC
  have h9 := hB.n9
  refine m_aload_n hC 0 dX9_isResting_0 rfl rfl ?_
  refine m_iload_n hC 1 dX9_isResting_1 rfl rfl ?_
  refine m_callV hC (t_X9_checkGoblin hF hl hX hO hR hB hy) dX9_isResting_2 kc_X9_checkGoblin kV_X9_177 hO rfl rfl rfl rfl (Nat.le_of_ble_eq_true rfl) (by decide) ⟨Nat.le_of_ble_eq_true rfl, Nat.le_of_ble_eq_true rfl⟩ (m_out hC hno (Nat.le_of_ble_eq_true rfl) (Nat.le_of_ble_eq_true rfl) (fun E9 M9 h9 => (by obtain ⟨⟨rfl, h8⟩, h7, h6⟩ := h9; exact g_px.mk 1 0 (G_if.f h8) (by decide) rfl h7 h6))) (fun v9 M9 h9 => ?_)
  obtain ⟨rfl, h9, hyg⟩ := h9
  replace h9 := h9.symm
  subst h9
  refine m_aload_n hC 0 dX9_isResting_5 rfl rfl ?_
  refine m_getf hC dX9_isResting_6 kf_X9_12 hO rfl ?_
  refine m_getf hC dX9_isResting_9 kf_X9_170 hR.ob rfl ?_
  refine m_getf hC dX9_isResting_12 kf_X9_192 hR.go rfl ?_
  refine m_iload_n hC 1 dX9_isResting_15 rfl rfl ?_
  refine m_ld8 hC hR dX9_isResting_16 (by first | omega | (simp [hs_at] <;> omega)) (by first | omega | (simp [hs_at] <;> omega)) ?_
  exact m_zret hC dX9_isResting_17 hr (by rcases (hB.go hyg).2.2.2.2.2.2.2.2 with h | h <;> rw [h] <;> rfl) (Nat.le_of_ble_eq_true rfl) (Nat.le_of_ble_eq_true rfl) (g_po.mk (G_if.t hyg))

set_option maxHeartbeats 4000000 in
set_option maxRecDepth 100000 in
theorem t_X9_energy {D : va_G} {aC : Nat → ClassId} {s0 : State} {l : Launch} (hF : m_F D aC s0) (hl : l.stackTraces = false) {x : Nat} {q : Int → Int} {g : h_T} {M : m_M} (hX : m_TH s0) (hO : gO x q M) (hR : hhR (x + 1) g M) (hB : h_B g) {y : Int} (hy : -2147483648 ≤ y ∧ y < 2147483648) : m_Met D aC s0 l yX9_energy cX9_energy 2 (some .int) 12 (470) (940) [.ref x, VI y] M (g_po (G_ene g y) M) (g_px [eI] (G_ene g y) M) := by
  refine m_entry (lv := [(0, .ref x), (1, VI y)]) (by decide +kernel) (Nat.le_of_ble_eq_true rfl) rfl hF hl ?_
  intro p e s m args below meth c hC hr hno hnm
  change m_C D aC s0 RX9 _ _ _ _ _ _ _ _ _ at hC
  refine m_aload_n hC 0 dX9_energy_0 rfl rfl ?_
  refine m_iload_n hC 1 dX9_energy_1 rfl rfl ?_
  refine m_callV hC (t_X9_checkGoblin hF hl hX hO hR hB hy) dX9_energy_2 kc_X9_checkGoblin kV_X9_177 hO rfl rfl rfl rfl (Nat.le_of_ble_eq_true rfl) (by decide) ⟨Nat.le_of_ble_eq_true rfl, Nat.le_of_ble_eq_true rfl⟩ (m_out hC hno (Nat.le_of_ble_eq_true rfl) (Nat.le_of_ble_eq_true rfl) (fun E9 M9 h9 => (by obtain ⟨⟨rfl, h8⟩, h7, h6⟩ := h9; exact g_px.mk 1 0 (G_if.f h8) (by decide) rfl h7 h6))) (fun v9 M9 h9 => ?_)
  obtain ⟨rfl, h9, hyg⟩ := h9
  replace h9 := h9.symm
  subst h9
  refine m_aload_n hC 0 dX9_energy_5 rfl rfl ?_
  refine m_getf hC dX9_energy_6 kf_X9_12 hO rfl ?_
  refine m_iload_n hC 1 dX9_energy_9 rfl rfl ?_
  refine m_callV hC (t_X7_energyOf hF hl hR hB hyg) dX9_energy_10 kc_X7_energyOf kV_X9_195 hR.ob rfl rfl rfl rfl (Nat.le_of_ble_eq_true rfl) (by decide) ⟨Nat.le_of_ble_eq_true rfl, Nat.le_of_ble_eq_true rfl⟩ m_nox (fun v9 M1 h9 => ?_)
  obtain ⟨rfl, h9⟩ := h9
  replace h9 := h9.symm
  subst h9
  exact m_iret hC dX9_energy_13 hr (Nat.le_of_ble_eq_true rfl) (Nat.le_of_ble_eq_true rfl) (g_po.mk (G_if.t hyg))

theorem S_energy_bd {g : h_T} (hB : h_B g) {y : Int} (hy : 0 ≤ y ∧ y < g 0 9) : 0 ≤ S_energy g y ∧ S_energy g y ≤ 45 := by
  have h1 := S_inUse_bd hB
  have h2 := hB.go hy
  unfold S_energy
  have h3 : g 4 y = 1 ∨ g 4 y = 2 ∨ g 4 y = 3 ∨ g 4 y = 4 ∨ g 4 y = 5 ∨ g 4 y = 6 ∨ g 4 y = 7 ∨ g 4 y = 8 ∨ g 4 y = 9 := by omega
  rcases h3 with h | h | h | h | h | h | h | h | h <;> rw [h] <;> omega

set_option maxHeartbeats 4000000 in
set_option maxRecDepth 100000 in
theorem t_X9_bestWages {D : va_G} {aC : Nat → ClassId} {s0 : State} {l : Launch} (hF : m_F D aC s0) (hl : l.stackTraces = false) {x : Nat} {q : Int → Int} {g : h_T} {M : m_M} (hX : m_TH s0) (hO : gO x q M) (hR : hhR (x + 1) g M) (hB : h_B g) {y : Int} (hy : -2147483648 ≤ y ∧ y < 2147483648) : m_Met D aC s0 l yX9_bestWages cX9_bestWages 2 (some .int) 12 (470) (940) [.ref x, VI y] M (g_po (G_best g y) M) (g_px [eI] (G_best g y) M) := by
  refine m_entry (lv := [(0, .ref x), (1, VI y)]) (by decide +kernel) (Nat.le_of_ble_eq_true rfl) rfl hF hl ?_
  intro p e s m args below meth c hC hr hno hnm
  change m_C D aC s0 RX9 _ _ _ _ _ _ _ _ _ at hC
  refine m_aload_n hC 0 dX9_bestWages_0 rfl rfl ?_
  refine m_iload_n hC 1 dX9_bestWages_1 rfl rfl ?_
  refine m_callV hC (t_X9_checkGoblin hF hl hX hO hR hB hy) dX9_bestWages_2 kc_X9_checkGoblin kV_X9_177 hO rfl rfl rfl rfl (Nat.le_of_ble_eq_true rfl) (by decide) ⟨Nat.le_of_ble_eq_true rfl, Nat.le_of_ble_eq_true rfl⟩ (m_out hC hno (Nat.le_of_ble_eq_true rfl) (Nat.le_of_ble_eq_true rfl) (fun E9 M9 h9 => (by obtain ⟨⟨rfl, h8⟩, h7, h6⟩ := h9; exact g_px.mk 1 0 (G_if.f h8) (by decide) rfl h7 h6))) (fun v9 M9 h9 => ?_)
  obtain ⟨rfl, h9, hyg⟩ := h9
  replace h9 := h9.symm
  subst h9
  refine m_aload_n hC 0 dX9_bestWages_5 rfl rfl ?_
  refine m_getf hC dX9_bestWages_6 kf_X9_12 hO rfl ?_
  refine m_getf hC dX9_bestWages_9 kf_X9_201 hR.ob rfl ?_
  refine m_iload_n hC 1 dX9_bestWages_12 rfl rfl ?_
  refine m_aload_n hC 0 dX9_bestWages_13 rfl rfl ?_
  refine m_getf hC dX9_bestWages_14 kf_X9_12 hO rfl ?_
  refine m_iload_n hC 1 dX9_bestWages_17 rfl rfl ?_
  refine m_callV hC (t_X7_energyOf hF hl hR hB hyg) dX9_bestWages_18 kc_X7_energyOf kV_X9_195 hR.ob rfl rfl rfl rfl (Nat.le_of_ble_eq_true rfl) (by decide) ⟨Nat.le_of_ble_eq_true rfl, Nat.le_of_ble_eq_true rfl⟩ m_nox (fun v9 M1 h9 => ?_)
  obtain ⟨rfl, h9⟩ := h9
  replace h9 := h9.symm
  subst h9
  refine m_callV hC (t_X3_bestOfAllSets hF hl hR hB hy (by have := S_energy_bd hB hyg; omega)) dX9_bestWages_21 kc_X3_bestOfAllSets kV_X9_205 hR.co rfl rfl rfl rfl (Nat.le_of_ble_eq_true rfl) (by decide) ⟨Nat.le_of_ble_eq_true rfl, Nat.le_of_ble_eq_true rfl⟩ m_nox (fun v9 M2 h9 => ?_)
  obtain ⟨rfl, h9⟩ := h9
  replace h9 := h9.symm
  subst h9
  exact m_iret hC dX9_bestWages_24 hr (Nat.le_of_ble_eq_true rfl) (Nat.le_of_ble_eq_true rfl) (g_po.mk (G_if.t hyg))

set_option maxHeartbeats 4000000 in
set_option maxRecDepth 100000 in
theorem t_X9_goblinOf {D : va_G} {aC : Nat → ClassId} {s0 : State} {l : Launch} (hF : m_F D aC s0) (hl : l.stackTraces = false) {x : Nat} {q : Int → Int} {g : h_T} {M : m_M} (hX : m_TH s0) (hO : gO x q M) (hR : hhR (x + 1) g M) (hB : h_B g) {y : Int} (hy : -2147483648 ≤ y ∧ y < 2147483648) : m_Met D aC s0 l yX9_goblinOf cX9_goblinOf 2 (some .int) 12 (470) (940) [.ref x, VI y] M (g_po (G_con g 10 y) M) (g_px [eN] (G_con g 10 y) M) := by
  refine m_entry (lv := [(0, .ref x), (1, VI y)]) (by decide +kernel) (Nat.le_of_ble_eq_true rfl) rfl hF hl ?_
  intro p e s m args below meth c hC hr hno hnm
  change m_C D aC s0 RX9 _ _ _ _ _ _ _ _ _ at hC
  have h11 := hB.n11
  have hps := S_pos_rg (g := g) y (by omega)
  refine m_aload_n hC 0 dX9_goblinOf_0 rfl rfl ?_
  refine m_getf hC dX9_goblinOf_1 kf_X9_12 hO rfl ?_
  refine m_getf hC dX9_goblinOf_4 kf_X9_201 hR.ob rfl ?_
  refine m_getf hC dX9_goblinOf_7 kf_X9_223 hR.co rfl ?_
  refine m_aload_n hC 0 dX9_goblinOf_10 rfl rfl ?_
  refine m_iload_n hC 1 dX9_goblinOf_11 rfl rfl ?_
  refine m_callV hC (t_X9_checkedPosition hF hl hX hO hR hB hy) dX9_goblinOf_12 kc_X9_checkedPosition kV_X9_225 hO rfl rfl rfl rfl (Nat.le_of_ble_eq_true rfl) (by decide) ⟨Nat.le_of_ble_eq_true rfl, Nat.le_of_ble_eq_true rfl⟩ (m_out hC hno (Nat.le_of_ble_eq_true rfl) (Nat.le_of_ble_eq_true rfl) (fun E9 M9 h9 => (by obtain ⟨⟨rfl, h8⟩, h7, h6⟩ := h9; exact g_px.mk 1 0 (G_if.f h8) (by decide) rfl h7 h6))) (fun v9 M9 h9 => ?_)
  obtain ⟨rfl, h9, hyp⟩ := h9
  replace h9 := h9.symm
  subst h9
  refine m_ld10 hC hR dX9_goblinOf_15 (by first | omega | (simp [hs_at] <;> omega)) (by first | omega | (simp [hs_at] <;> omega)) ?_
  exact m_iret hC dX9_goblinOf_16 hr (Nat.le_of_ble_eq_true rfl) (Nat.le_of_ble_eq_true rfl) (g_po.mk (G_if.t hyp))

set_option maxHeartbeats 4000000 in
set_option maxRecDepth 100000 in
theorem t_X9_roomOf {D : va_G} {aC : Nat → ClassId} {s0 : State} {l : Launch} (hF : m_F D aC s0) (hl : l.stackTraces = false) {x : Nat} {q : Int → Int} {g : h_T} {M : m_M} (hX : m_TH s0) (hO : gO x q M) (hR : hhR (x + 1) g M) (hB : h_B g) {y : Int} (hy : -2147483648 ≤ y ∧ y < 2147483648) : m_Met D aC s0 l yX9_roomOf cX9_roomOf 2 (some .int) 12 (470) (940) [.ref x, VI y] M (g_po (G_con g 11 y) M) (g_px [eN] (G_con g 11 y) M) := by
  refine m_entry (lv := [(0, .ref x), (1, VI y)]) (by decide +kernel) (Nat.le_of_ble_eq_true rfl) rfl hF hl ?_
  intro p e s m args below meth c hC hr hno hnm
  change m_C D aC s0 RX9 _ _ _ _ _ _ _ _ _ at hC
  have h11 := hB.n11
  have hps := S_pos_rg (g := g) y (by omega)
  refine m_aload_n hC 0 dX9_roomOf_0 rfl rfl ?_
  refine m_getf hC dX9_roomOf_1 kf_X9_12 hO rfl ?_
  refine m_getf hC dX9_roomOf_4 kf_X9_201 hR.ob rfl ?_
  refine m_getf hC dX9_roomOf_7 kf_X9_228 hR.co rfl ?_
  refine m_aload_n hC 0 dX9_roomOf_10 rfl rfl ?_
  refine m_iload_n hC 1 dX9_roomOf_11 rfl rfl ?_
  refine m_callV hC (t_X9_checkedPosition hF hl hX hO hR hB hy) dX9_roomOf_12 kc_X9_checkedPosition kV_X9_225 hO rfl rfl rfl rfl (Nat.le_of_ble_eq_true rfl) (by decide) ⟨Nat.le_of_ble_eq_true rfl, Nat.le_of_ble_eq_true rfl⟩ (m_out hC hno (Nat.le_of_ble_eq_true rfl) (Nat.le_of_ble_eq_true rfl) (fun E9 M9 h9 => (by obtain ⟨⟨rfl, h8⟩, h7, h6⟩ := h9; exact g_px.mk 1 0 (G_if.f h8) (by decide) rfl h7 h6))) (fun v9 M9 h9 => ?_)
  obtain ⟨rfl, h9, hyp⟩ := h9
  replace h9 := h9.symm
  subst h9
  refine m_ld11 hC hR dX9_roomOf_15 (by first | omega | (simp [hs_at] <;> omega)) (by first | omega | (simp [hs_at] <;> omega)) ?_
  exact m_iret hC dX9_roomOf_16 hr (Nat.le_of_ble_eq_true rfl) (Nat.le_of_ble_eq_true rfl) (g_po.mk (G_if.t hyp))

set_option maxHeartbeats 4000000 in
set_option maxRecDepth 100000 in
theorem t_X9_wage {D : va_G} {aC : Nat → ClassId} {s0 : State} {l : Launch} (hF : m_F D aC s0) (hl : l.stackTraces = false) {x : Nat} {q : Int → Int} {g : h_T} {M : m_M} (hX : m_TH s0) (hO : gO x q M) (hR : hhR (x + 1) g M) (hB : h_B g) {y : Int} (hy : -2147483648 ≤ y ∧ y < 2147483648) : m_Met D aC s0 l yX9_wage cX9_wage 2 (some .int) 12 (470) (940) [.ref x, VI y] M (g_po (G_con g 12 y) M) (g_px [eN] (G_con g 12 y) M) := by
  refine m_entry (lv := [(0, .ref x), (1, VI y)]) (by decide +kernel) (Nat.le_of_ble_eq_true rfl) rfl hF hl ?_
  intro p e s m args below meth c hC hr hno hnm
  change m_C D aC s0 RX9 _ _ _ _ _ _ _ _ _ at hC
  have h11 := hB.n11
  have hps := S_pos_rg (g := g) y (by omega)
  refine m_aload_n hC 0 dX9_wage_0 rfl rfl ?_
  refine m_getf hC dX9_wage_1 kf_X9_12 hO rfl ?_
  refine m_getf hC dX9_wage_4 kf_X9_201 hR.ob rfl ?_
  refine m_getf hC dX9_wage_7 kf_X9_231 hR.co rfl ?_
  refine m_aload_n hC 0 dX9_wage_10 rfl rfl ?_
  refine m_iload_n hC 1 dX9_wage_11 rfl rfl ?_
  refine m_callV hC (t_X9_checkedPosition hF hl hX hO hR hB hy) dX9_wage_12 kc_X9_checkedPosition kV_X9_225 hO rfl rfl rfl rfl (Nat.le_of_ble_eq_true rfl) (by decide) ⟨Nat.le_of_ble_eq_true rfl, Nat.le_of_ble_eq_true rfl⟩ (m_out hC hno (Nat.le_of_ble_eq_true rfl) (Nat.le_of_ble_eq_true rfl) (fun E9 M9 h9 => (by obtain ⟨⟨rfl, h8⟩, h7, h6⟩ := h9; exact g_px.mk 1 0 (G_if.f h8) (by decide) rfl h7 h6))) (fun v9 M9 h9 => ?_)
  obtain ⟨rfl, h9, hyp⟩ := h9
  replace h9 := h9.symm
  subst h9
  refine m_ld12 hC hR dX9_wage_15 (by first | omega | (simp [hs_at] <;> omega)) (by first | omega | (simp [hs_at] <;> omega)) ?_
  exact m_iret hC dX9_wage_16 hr (Nat.le_of_ble_eq_true rfl) (Nat.le_of_ble_eq_true rfl) (g_po.mk (G_if.t hyp))

set_option maxHeartbeats 4000000 in
set_option maxRecDepth 100000 in
theorem t_X9_effort {D : va_G} {aC : Nat → ClassId} {s0 : State} {l : Launch} (hF : m_F D aC s0) (hl : l.stackTraces = false) {x : Nat} {q : Int → Int} {g : h_T} {M : m_M} (hX : m_TH s0) (hO : gO x q M) (hR : hhR (x + 1) g M) (hB : h_B g) {y : Int} (hy : -2147483648 ≤ y ∧ y < 2147483648) : m_Met D aC s0 l yX9_effort cX9_effort 2 (some .int) 12 (470) (940) [.ref x, VI y] M (g_po (G_con g 13 y) M) (g_px [eN] (G_con g 13 y) M) := by
  refine m_entry (lv := [(0, .ref x), (1, VI y)]) (by decide +kernel) (Nat.le_of_ble_eq_true rfl) rfl hF hl ?_
  intro p e s m args below meth c hC hr hno hnm
  change m_C D aC s0 RX9 _ _ _ _ _ _ _ _ _ at hC
  have h11 := hB.n11
  have hps := S_pos_rg (g := g) y (by omega)
  refine m_aload_n hC 0 dX9_effort_0 rfl rfl ?_
  refine m_getf hC dX9_effort_1 kf_X9_12 hO rfl ?_
  refine m_getf hC dX9_effort_4 kf_X9_201 hR.ob rfl ?_
  refine m_getf hC dX9_effort_7 kf_X9_234 hR.co rfl ?_
  refine m_aload_n hC 0 dX9_effort_10 rfl rfl ?_
  refine m_iload_n hC 1 dX9_effort_11 rfl rfl ?_
  refine m_callV hC (t_X9_checkedPosition hF hl hX hO hR hB hy) dX9_effort_12 kc_X9_checkedPosition kV_X9_225 hO rfl rfl rfl rfl (Nat.le_of_ble_eq_true rfl) (by decide) ⟨Nat.le_of_ble_eq_true rfl, Nat.le_of_ble_eq_true rfl⟩ (m_out hC hno (Nat.le_of_ble_eq_true rfl) (Nat.le_of_ble_eq_true rfl) (fun E9 M9 h9 => (by obtain ⟨⟨rfl, h8⟩, h7, h6⟩ := h9; exact g_px.mk 1 0 (G_if.f h8) (by decide) rfl h7 h6))) (fun v9 M9 h9 => ?_)
  obtain ⟨rfl, h9, hyp⟩ := h9
  replace h9 := h9.symm
  subst h9
  refine m_ld13 hC hR dX9_effort_15 (by first | omega | (simp [hs_at] <;> omega)) (by first | omega | (simp [hs_at] <;> omega)) ?_
  exact m_iret hC dX9_effort_16 hr (Nat.le_of_ble_eq_true rfl) (Nat.le_of_ble_eq_true rfl) (g_po.mk (G_if.t hyp))

set_option maxHeartbeats 4000000 in
set_option maxRecDepth 100000 in
theorem t_X9_contractAt {D : va_G} {aC : Nat → ClassId} {s0 : State} {l : Launch} (hF : m_F D aC s0) (hl : l.stackTraces = false) {x : Nat} {q : Int → Int} {g : h_T} {M : m_M} (hX : m_TH s0) (hO : gO x q M) (hR : hhR (x + 1) g M) (hB : h_B g) {y : Int} (hy : -2147483648 ≤ y ∧ y < 2147483648) : m_Met D aC s0 l yX9_contractAt cX9_contractAt 2 (some .int) 12 (470) (940) [.ref x, VI y] M (g_po (G_cat g y) M) (g_px [eN] (G_cat g y) M) := by
  refine m_entry (lv := [(0, .ref x), (1, VI y)]) (by decide +kernel) (Nat.le_of_ble_eq_true rfl) rfl hF hl ?_
  intro p e s m args below meth c hC hr hno hnm
  change m_C D aC s0 RX9 _ _ _ _ _ _ _ _ _ at hC
  have h11 := hB.n11
  refine m_iload_n hC 1 dX9_contractAt_0 rfl rfl ?_
  refine m_if_lt (tgt := 18) hC dX9_contractAt_1 (by decide) (by first | omega | (simp [hs_at] <;> omega)) (fun c1 => ?_) (fun c1 => ?_)
  · exact m_thn hC hX (is := 218) (text := "no such position") (by decide) kX_126 kXi_126 ⟨by decide +kernel, by decide +kernel⟩ dX9_contractAt_18 dX9_contractAt_21 dX9_contractAt_22 dX9_contractAt_24 dX9_contractAt_27 hno (by decide) (Nat.le_of_ble_eq_true rfl) (Nat.le_of_ble_eq_true rfl) (Nat.le_of_ble_eq_true rfl) (Nat.le_of_ble_eq_true rfl) (Nat.le_of_ble_eq_true rfl) (fun M9 e1 e2 => (g_px.mk 1 0 (G_if.f (by omega)) (by decide) rfl e1 e2))
  · refine m_iload_n hC 1 dX9_contractAt_4 rfl rfl ?_
    refine m_aload_n hC 0 dX9_contractAt_5 rfl rfl ?_
    refine m_getf hC dX9_contractAt_6 kf_X9_12 hO rfl ?_
    refine m_getf hC dX9_contractAt_9 kf_X9_201 hR.ob rfl ?_
    refine m_getf hC dX9_contractAt_12 kf_X9_217 hR.co rfl ?_
    refine m_icmp_lt (tgt := 28) hC dX9_contractAt_15 (by decide) (by first | omega | (simp [hs_at] <;> omega)) (fun c2 => ?_) (fun c2 => ?_)
    · refine m_aload_n hC 0 dX9_contractAt_28 rfl rfl ?_
      refine m_getf hC dX9_contractAt_29 kf_X9_12 hO rfl ?_
      refine m_getf hC dX9_contractAt_32 kf_X9_201 hR.ob rfl ?_
      refine m_getf hC dX9_contractAt_35 kf_X9_220 hR.co rfl ?_
      refine m_iload_n hC 1 dX9_contractAt_38 rfl rfl ?_
      refine m_ld9 hC hR dX9_contractAt_39 (by first | omega | (simp [hs_at] <;> omega)) (by first | omega | (simp [hs_at] <;> omega)) ?_
      exact m_iret hC dX9_contractAt_40 hr (Nat.le_of_ble_eq_true rfl) (Nat.le_of_ble_eq_true rfl) (g_po.mk (G_if.t (by omega)))
    · exact m_thn hC hX (is := 218) (text := "no such position") (by decide) kX_126 kXi_126 ⟨by decide +kernel, by decide +kernel⟩ dX9_contractAt_18 dX9_contractAt_21 dX9_contractAt_22 dX9_contractAt_24 dX9_contractAt_27 hno (by decide) (Nat.le_of_ble_eq_true rfl) (Nat.le_of_ble_eq_true rfl) (Nat.le_of_ble_eq_true rfl) (Nat.le_of_ble_eq_true rfl) (Nat.le_of_ble_eq_true rfl) (fun M9 e1 e2 => (g_px.mk 1 0 (G_if.f (by omega)) (by decide) rfl e1 e2))

set_option maxHeartbeats 4000000 in
set_option maxRecDepth 100000 in
theorem t_X9_broomCount {D : va_G} {aC : Nat → ClassId} {s0 : State} {l : Launch} (hF : m_F D aC s0) (hl : l.stackTraces = false) {x : Nat} {q : Int → Int} {g : h_T} {M : m_M} (hX : m_TH s0) (hO : gO x q M) (hR : hhR (x + 1) g M) (hB : h_B g)   : m_Met D aC s0 l yX9_broomCount cX9_broomCount 1 (some .int) 0 (470) (940) [.ref x] M (g_po (((0 : Int), g 0 8)) M) (g_px [] (((0 : Int), g 0 8)) M) := by
  refine m_entry (lv := [(0, .ref x)]) (by decide +kernel) (Nat.le_of_ble_eq_true rfl) rfl hF hl ?_
  intro p e s m args below meth c hC hr hno hnm
  change m_C D aC s0 RX9 _ _ _ _ _ _ _ _ _ at hC
  refine m_aload_n hC 0 dX9_broomCount_0 rfl rfl ?_
  refine m_getf hC dX9_broomCount_1 kf_X9_12 hO rfl ?_
  refine m_getf hC dX9_broomCount_4 kf_X9_144 hR.ob rfl ?_
  refine m_getf hC dX9_broomCount_7 kf_X9_148 hR.br rfl ?_
  exact m_iret hC dX9_broomCount_10 hr (Nat.le_of_ble_eq_true rfl) (Nat.le_of_ble_eq_true rfl) (g_po.mk rfl)

set_option maxHeartbeats 4000000 in
set_option maxRecDepth 100000 in
theorem t_X9_goblinCount {D : va_G} {aC : Nat → ClassId} {s0 : State} {l : Launch} (hF : m_F D aC s0) (hl : l.stackTraces = false) {x : Nat} {q : Int → Int} {g : h_T} {M : m_M} (hX : m_TH s0) (hO : gO x q M) (hR : hhR (x + 1) g M) (hB : h_B g)   : m_Met D aC s0 l yX9_goblinCount cX9_goblinCount 1 (some .int) 0 (470) (940) [.ref x] M (g_po (((0 : Int), g 0 9)) M) (g_px [] (((0 : Int), g 0 9)) M) := by
  refine m_entry (lv := [(0, .ref x)]) (by decide +kernel) (Nat.le_of_ble_eq_true rfl) rfl hF hl ?_
  intro p e s m args below meth c hC hr hno hnm
  change m_C D aC s0 RX9 _ _ _ _ _ _ _ _ _ at hC
  refine m_aload_n hC 0 dX9_goblinCount_0 rfl rfl ?_
  refine m_getf hC dX9_goblinCount_1 kf_X9_12 hO rfl ?_
  refine m_getf hC dX9_goblinCount_4 kf_X9_170 hR.ob rfl ?_
  refine m_getf hC dX9_goblinCount_7 kf_X9_174 hR.go rfl ?_
  exact m_iret hC dX9_goblinCount_10 hr (Nat.le_of_ble_eq_true rfl) (Nat.le_of_ble_eq_true rfl) (g_po.mk rfl)

set_option maxHeartbeats 4000000 in
set_option maxRecDepth 100000 in
theorem t_X9_openContracts {D : va_G} {aC : Nat → ClassId} {s0 : State} {l : Launch} (hF : m_F D aC s0) (hl : l.stackTraces = false) {x : Nat} {q : Int → Int} {g : h_T} {M : m_M} (hX : m_TH s0) (hO : gO x q M) (hR : hhR (x + 1) g M) (hB : h_B g)   : m_Met D aC s0 l yX9_openContracts cX9_openContracts 1 (some .int) 0 (470) (940) [.ref x] M (g_po (((0 : Int), g 0 11)) M) (g_px [] (((0 : Int), g 0 11)) M) := by
  refine m_entry (lv := [(0, .ref x)]) (by decide +kernel) (Nat.le_of_ble_eq_true rfl) rfl hF hl ?_
  intro p e s m args below meth c hC hr hno hnm
  change m_C D aC s0 RX9 _ _ _ _ _ _ _ _ _ at hC
  refine m_aload_n hC 0 dX9_openContracts_0 rfl rfl ?_
  refine m_getf hC dX9_openContracts_1 kf_X9_12 hO rfl ?_
  refine m_getf hC dX9_openContracts_4 kf_X9_201 hR.ob rfl ?_
  refine m_getf hC dX9_openContracts_7 kf_X9_217 hR.co rfl ?_
  exact m_iret hC dX9_openContracts_10 hr (Nat.le_of_ble_eq_true rfl) (Nat.le_of_ble_eq_true rfl) (g_po.mk rfl)

set_option maxHeartbeats 4000000 in
set_option maxRecDepth 100000 in
theorem t_X9_night {D : va_G} {aC : Nat → ClassId} {s0 : State} {l : Launch} (hF : m_F D aC s0) (hl : l.stackTraces = false) {x : Nat} {q : Int → Int} {g : h_T} {M : m_M} (hX : m_TH s0) (hO : gO x q M) (hR : hhR (x + 1) g M) (hB : h_B g)   : m_Met D aC s0 l yX9_night cX9_night 1 (some .int) 0 (470) (940) [.ref x] M (g_po (((0 : Int), g 0 0)) M) (g_px [] (((0 : Int), g 0 0)) M) := by
  refine m_entry (lv := [(0, .ref x)]) (by decide +kernel) (Nat.le_of_ble_eq_true rfl) rfl hF hl ?_
  intro p e s m args below meth c hC hr hno hnm
  change m_C D aC s0 RX9 _ _ _ _ _ _ _ _ _ at hC
  refine m_aload_n hC 0 dX9_night_0 rfl rfl ?_
  refine m_getf hC dX9_night_1 kf_X9_12 hO rfl ?_
  refine m_getf hC dX9_night_4 kf_X9_258 hR.ob rfl ?_
  exact m_iret hC dX9_night_7 hr (Nat.le_of_ble_eq_true rfl) (Nat.le_of_ble_eq_true rfl) (g_po.mk rfl)

set_option maxHeartbeats 4000000 in
set_option maxRecDepth 100000 in
theorem t_X9_chest {D : va_G} {aC : Nat → ClassId} {s0 : State} {l : Launch} (hF : m_F D aC s0) (hl : l.stackTraces = false) {x : Nat} {q : Int → Int} {g : h_T} {M : m_M} (hX : m_TH s0) (hO : gO x q M) (hR : hhR (x + 1) g M) (hB : h_B g)   : m_Met D aC s0 l yX9_chest cX9_chest 1 (some .int) 0 (470) (940) [.ref x] M (g_po (((0 : Int), g 0 1)) M) (g_px [] (((0 : Int), g 0 1)) M) := by
  refine m_entry (lv := [(0, .ref x)]) (by decide +kernel) (Nat.le_of_ble_eq_true rfl) rfl hF hl ?_
  intro p e s m args below meth c hC hr hno hnm
  change m_C D aC s0 RX9 _ _ _ _ _ _ _ _ _ at hC
  refine m_aload_n hC 0 dX9_chest_0 rfl rfl ?_
  refine m_getf hC dX9_chest_1 kf_X9_12 hO rfl ?_
  refine m_getf hC dX9_chest_4 kf_X9_253 hR.ob rfl ?_
  exact m_iret hC dX9_chest_7 hr (Nat.le_of_ble_eq_true rfl) (Nat.le_of_ble_eq_true rfl) (g_po.mk rfl)

set_option maxHeartbeats 4000000 in
set_option maxRecDepth 100000 in
theorem t_X9_doneTotal {D : va_G} {aC : Nat → ClassId} {s0 : State} {l : Launch} (hF : m_F D aC s0) (hl : l.stackTraces = false) {x : Nat} {q : Int → Int} {g : h_T} {M : m_M} (hX : m_TH s0) (hO : gO x q M) (hR : hhR (x + 1) g M) (hB : h_B g)   : m_Met D aC s0 l yX9_doneTotal cX9_doneTotal 1 (some .int) 0 (470) (940) [.ref x] M (g_po (((0 : Int), g 0 4)) M) (g_px [] (((0 : Int), g 0 4)) M) := by
  refine m_entry (lv := [(0, .ref x)]) (by decide +kernel) (Nat.le_of_ble_eq_true rfl) rfl hF hl ?_
  intro p e s m args below meth c hC hr hno hnm
  change m_C D aC s0 RX9 _ _ _ _ _ _ _ _ _ at hC
  refine m_aload_n hC 0 dX9_doneTotal_0 rfl rfl ?_
  refine m_getf hC dX9_doneTotal_1 kf_X9_12 hO rfl ?_
  refine m_getf hC dX9_doneTotal_4 kf_X9_271 hR.ob rfl ?_
  exact m_iret hC dX9_doneTotal_7 hr (Nat.le_of_ble_eq_true rfl) (Nat.le_of_ble_eq_true rfl) (g_po.mk rfl)

set_option maxHeartbeats 4000000 in
set_option maxRecDepth 100000 in
theorem t_X9_brokenTotal {D : va_G} {aC : Nat → ClassId} {s0 : State} {l : Launch} (hF : m_F D aC s0) (hl : l.stackTraces = false) {x : Nat} {q : Int → Int} {g : h_T} {M : m_M} (hX : m_TH s0) (hO : gO x q M) (hR : hhR (x + 1) g M) (hB : h_B g)   : m_Met D aC s0 l yX9_brokenTotal cX9_brokenTotal 1 (some .int) 0 (470) (940) [.ref x] M (g_po (((0 : Int), g 0 5)) M) (g_px [] (((0 : Int), g 0 5)) M) := by
  refine m_entry (lv := [(0, .ref x)]) (by decide +kernel) (Nat.le_of_ble_eq_true rfl) rfl hF hl ?_
  intro p e s m args below meth c hC hr hno hnm
  change m_C D aC s0 RX9 _ _ _ _ _ _ _ _ _ at hC
  refine m_aload_n hC 0 dX9_brokenTotal_0 rfl rfl ?_
  refine m_getf hC dX9_brokenTotal_1 kf_X9_12 hO rfl ?_
  refine m_getf hC dX9_brokenTotal_4 kf_X9_274 hR.ob rfl ?_
  exact m_iret hC dX9_brokenTotal_7 hr (Nat.le_of_ble_eq_true rfl) (Nat.le_of_ble_eq_true rfl) (g_po.mk rfl)

set_option maxHeartbeats 4000000 in
set_option maxRecDepth 100000 in
theorem t_X9_unpaidTotal {D : va_G} {aC : Nat → ClassId} {s0 : State} {l : Launch} (hF : m_F D aC s0) (hl : l.stackTraces = false) {x : Nat} {q : Int → Int} {g : h_T} {M : m_M} (hX : m_TH s0) (hO : gO x q M) (hR : hhR (x + 1) g M) (hB : h_B g)   : m_Met D aC s0 l yX9_unpaidTotal cX9_unpaidTotal 1 (some .int) 0 (470) (940) [.ref x] M (g_po (((0 : Int), g 0 6)) M) (g_px [] (((0 : Int), g 0 6)) M) := by
  refine m_entry (lv := [(0, .ref x)]) (by decide +kernel) (Nat.le_of_ble_eq_true rfl) rfl hF hl ?_
  intro p e s m args below meth c hC hr hno hnm
  change m_C D aC s0 RX9 _ _ _ _ _ _ _ _ _ at hC
  refine m_aload_n hC 0 dX9_unpaidTotal_0 rfl rfl ?_
  refine m_getf hC dX9_unpaidTotal_1 kf_X9_12 hO rfl ?_
  refine m_getf hC dX9_unpaidTotal_4 kf_X9_277 hR.ob rfl ?_
  exact m_iret hC dX9_unpaidTotal_7 hr (Nat.le_of_ble_eq_true rfl) (Nat.le_of_ble_eq_true rfl) (g_po.mk rfl)

set_option maxHeartbeats 4000000 in
set_option maxRecDepth 100000 in
theorem t_X9_interestTotal {D : va_G} {aC : Nat → ClassId} {s0 : State} {l : Launch} (hF : m_F D aC s0) (hl : l.stackTraces = false) {x : Nat} {q : Int → Int} {g : h_T} {M : m_M} (hX : m_TH s0) (hO : gO x q M) (hR : hhR (x + 1) g M) (hB : h_B g)   : m_Met D aC s0 l yX9_interestTotal cX9_interestTotal 1 (some .int) 0 (470) (940) [.ref x] M (g_po (((0 : Int), g 0 7)) M) (g_px [] (((0 : Int), g 0 7)) M) := by
  refine m_entry (lv := [(0, .ref x)]) (by decide +kernel) (Nat.le_of_ble_eq_true rfl) rfl hF hl ?_
  intro p e s m args below meth c hC hr hno hnm
  change m_C D aC s0 RX9 _ _ _ _ _ _ _ _ _ at hC
  refine m_aload_n hC 0 dX9_interestTotal_0 rfl rfl ?_
  refine m_getf hC dX9_interestTotal_1 kf_X9_12 hO rfl ?_
  refine m_getf hC dX9_interestTotal_4 kf_X9_280 hR.ob rfl ?_
  exact m_iret hC dX9_interestTotal_7 hr (Nat.le_of_ble_eq_true rfl) (Nat.le_of_ble_eq_true rfl) (g_po.mk rfl)

set_option maxHeartbeats 4000000 in
set_option maxRecDepth 100000 in
theorem t_X9_allCrumbsByAccounts {D : va_G} {aC : Nat → ClassId} {s0 : State} {l : Launch} (hF : m_F D aC s0) (hl : l.stackTraces = false) {x : Nat} {q : Int → Int} {g : h_T} {M : m_M} (hX : m_TH s0) (hO : gO x q M) (hR : hhR (x + 1) g M) (hB : h_B g)   : m_Met D aC s0 l yX9_allCrumbsByAccounts cX9_allCrumbsByAccounts 1 (some .int) 5 (470) (940) [.ref x] M (g_po (((0 : Int), 100 + g 0 2 - g 0 3)) M) (g_px [] (((0 : Int), 100 + g 0 2 - g 0 3)) M) := by
  refine m_entry (lv := [(0, .ref x)]) (by decide +kernel) (Nat.le_of_ble_eq_true rfl) rfl hF hl ?_
  intro p e s m args below meth c hC hr hno hnm
  change m_C D aC s0 RX9 _ _ _ _ _ _ _ _ _ at hC
  refine m_bipush hC dX9_allCrumbsByAccounts_0 (by decide) ?_
  refine m_aload_n hC 0 dX9_allCrumbsByAccounts_2 rfl rfl ?_
  refine m_getf hC dX9_allCrumbsByAccounts_3 kf_X9_12 hO rfl ?_
  refine m_getf hC dX9_allCrumbsByAccounts_6 kf_X9_265 hR.ob rfl ?_
  refine m_iadd hC dX9_allCrumbsByAccounts_9 ?_
  refine m_aload_n hC 0 dX9_allCrumbsByAccounts_10 rfl rfl ?_
  refine m_getf hC dX9_allCrumbsByAccounts_11 kf_X9_12 hO rfl ?_
  refine m_getf hC dX9_allCrumbsByAccounts_14 kf_X9_268 hR.ob rfl ?_
  refine m_isub hC dX9_allCrumbsByAccounts_17 ?_
  exact m_iret hC dX9_allCrumbsByAccounts_18 hr (Nat.le_of_ble_eq_true rfl) (Nat.le_of_ble_eq_true rfl) (g_po.mk rfl)

set_option maxHeartbeats 4000000 in
set_option maxRecDepth 100000 in
theorem t_X9_allCrumbs {D : va_G} {aC : Nat → ClassId} {s0 : State} {l : Launch} (hF : m_F D aC s0) (hl : l.stackTraces = false) {x : Nat} {q : Int → Int} {g : h_T} {M : m_M} (hX : m_TH s0) (hO : gO x q M) (hR : hhR (x + 1) g M) (hB : h_B g)   : m_Met D aC s0 l yX9_allCrumbs cX9_allCrumbs 1 (some .int) 5 (470) (940) [.ref x] M (g_po (((0 : Int), g 0 1 + S_purses g)) M) (g_px [] (((0 : Int), g 0 1 + S_purses g)) M) := by
  refine m_entry (lv := [(0, .ref x)]) (by decide +kernel) (Nat.le_of_ble_eq_true rfl) rfl hF hl ?_
  intro p e s m args below meth c hC hr hno hnm
  change m_C D aC s0 RX9 _ _ _ _ _ _ _ _ _ at hC
  refine m_aload_n hC 0 dX9_allCrumbs_0 rfl rfl ?_
  refine m_getf hC dX9_allCrumbs_1 kf_X9_12 hO rfl ?_
  refine m_getf hC dX9_allCrumbs_4 kf_X9_253 hR.ob rfl ?_
  refine m_aload_n hC 0 dX9_allCrumbs_7 rfl rfl ?_
  refine m_getf hC dX9_allCrumbs_8 kf_X9_12 hO rfl ?_
  refine m_getf hC dX9_allCrumbs_11 kf_X9_170 hR.ob rfl ?_
  refine m_callV hC (t_X5_crumbsInPurses hF hl hR hB) dX9_allCrumbs_14 kc_X5_crumbsInPurses kV_X9_261 hR.go rfl rfl rfl rfl (Nat.le_of_ble_eq_true rfl) (by decide) ⟨Nat.le_of_ble_eq_true rfl, Nat.le_of_ble_eq_true rfl⟩ m_nox (fun v9 M1 h9 => ?_)
  obtain ⟨rfl, h9⟩ := h9
  replace h9 := h9.symm
  subst h9
  refine m_iadd hC dX9_allCrumbs_17 ?_
  exact m_iret hC dX9_allCrumbs_18 hr (Nat.le_of_ble_eq_true rfl) (Nat.le_of_ble_eq_true rfl) (g_po.mk rfl)

theorem S_rdust_bd (g : h_T) (a : Int) : 0 ≤ S_rdust g a ∧ S_rdust g a ≤ 6 := by
  have := h_sum_bd (f := fun o => if g 1 o > g 1 a ∨ (g 1 o = g 1 a ∧ o < a) then (1 : Int) else 0) (B := 1) (n := 6) (by omega) (fun j hj => by split <;> omega)
  unfold S_rdust
  have e : (6 : Int).toNat = 6 := rfl
  rw [e] at this
  omega
theorem S_rwealth_bd {g : h_T} (h : 0 ≤ g 0 9 ∧ g 0 9 ≤ 5) (a : Int) : 0 ≤ S_rwealth g a ∧ S_rwealth g a ≤ 5 := by
  have := h_sum_bd (f := fun o => if S_ahead g o a = true then (1 : Int) else 0) (B := 1) (n := g 0 9) (by omega) (fun j hj => by split <;> omega)
  unfold S_rwealth
  omega

set_option maxHeartbeats 4000000 in
set_option maxRecDepth 100000 in
theorem t_X9_roomByDust {D : va_G} {aC : Nat → ClassId} {s0 : State} {l : Launch} (hF : m_F D aC s0) (hl : l.stackTraces = false) {x : Nat} {q : Int → Int} {g : h_T} {M : m_M} (hX : m_TH s0) (hO : gO x q M) (hR : hhR (x + 1) g M) (hB : h_B g) {y : Int} (hy : -2147483648 ≤ y ∧ y < 2147483648) : m_Met D aC s0 l yX9_roomByDust cX9_roomByDust 3 (some .int) 12 (470) (940) [.ref x, VI y] M (g_po (G_rbd g y) M) (g_px [eN] (G_rbd g y) M) := by
  refine m_entry (lv := [(0, .ref x), (1, VI y)]) (by decide +kernel) (Nat.le_of_ble_eq_true rfl) rfl hF hl ?_
  intro p e s m args below meth c hC hr hno hnm
  change m_C D aC s0 RX9 _ _ _ _ _ _ _ _ _ at hC
  refine m_iconst hC dX9_roomByDust_0 ?_
  refine m_istore_n hC dX9_roomByDust_1 rfl (by decide) rfl ?_
  have L : ∀ (n : Nat) (i : Int), (6 : Int) - i < (n : Int) → 0 ≤ i → i ≤ (6 : Int) → S_rbd g y = h_find (fun a => decide (S_rdust g a = y)) ((6 : Int) - i).toNat i → m_W D aC s0 3 p l e (m_R 12 (470) (940)) s m args below meth c (0) (0) (m_Q D aC s0 below (g_po (G_rbd g y) M) (g_px [eN] (G_rbd g y) M) args s (470) (940)) 2 [(2, VI i), (1, VI y), (0, .ref x)] [] M := by
    intro n
    induction n with
    | zero =>
      intro i hn h0 h1 ha
      omega
    | succ n ih =>
      intro i hn h0 h1 ha
      refine m_iload_n hC 0 dX9_roomByDust_2 rfl rfl ?_
      refine m_bipush hC dX9_roomByDust_3 (by decide) ?_
      refine m_icmp_ge (tgt := 28) hC dX9_roomByDust_5 (by decide) (by first | omega | (simp [hs_at] <;> omega)) (fun c1 => ?_) (fun c1 => ?_)
      · exact m_thn hC hX (is := 142) (text := "no such rank") (by decide) kX_126 kXi_126 ⟨by decide +kernel, by decide +kernel⟩ dX9_roomByDust_28 dX9_roomByDust_31 dX9_roomByDust_32 dX9_roomByDust_34 dX9_roomByDust_37 hno (by decide) (Nat.le_of_ble_eq_true rfl) (Nat.le_of_ble_eq_true rfl) (Nat.le_of_ble_eq_true rfl) (Nat.le_of_ble_eq_true rfl) (Nat.le_of_ble_eq_true rfl) (fun M9 e1 e2 => (g_px.mk 1 0 (G_if.f (by rw [ha, h_find_0 (by omega)]; decide)) (by decide) rfl e1 e2))
      · refine m_aload_n hC 2 dX9_roomByDust_8 rfl rfl ?_
        refine m_getf hC dX9_roomByDust_9 kf_X9_12 hO rfl ?_
        refine m_iload_n hC 0 dX9_roomByDust_12 rfl rfl ?_
        refine m_callV hC (t_X7_rankByDust hF hl hR hB (x := i) (by omega)) dX9_roomByDust_13 kc_X7_rankByDust kV_X9_139 hR.ob rfl rfl rfl rfl (Nat.le_of_ble_eq_true rfl) (by decide) ⟨Nat.le_of_ble_eq_true rfl, Nat.le_of_ble_eq_true rfl⟩ m_nox (fun v9 M2 h9 => ?_)
        obtain ⟨rfl, h9⟩ := h9
        replace h9 := h9.symm
        subst h9
        have hrb := S_rdust_bd g i
        refine m_iload_n hC 1 dX9_roomByDust_16 rfl rfl ?_
        refine m_icmp_ne (tgt := 22) hC dX9_roomByDust_17 (by decide) (by first | omega | (simp [hs_at] <;> omega)) (fun c3 => ?_) (fun c3 => ?_)
        · refine m_iinc hC 0 dX9_roomByDust_22 rfl (by decide) rfl ?_
          refine m_goto (tgt := 2) hC dX9_roomByDust_25 (by decide) ?_
          refine m_lvs [0, 1, 2] rfl (ih (i + 1) (by omega) (by omega) (by omega) ?_)
          rw [ha, h_find_f (by omega) (by simp only [decide_eq_false_iff_not]; omega)]
          congr 2; omega
        · refine m_iload_n hC 0 dX9_roomByDust_20 rfl rfl ?_
          exact m_iret hC dX9_roomByDust_21 hr (Nat.le_of_ble_eq_true rfl) (Nat.le_of_ble_eq_true rfl) (g_po.mk (by unfold G_rbd; rw [show S_rbd g y = i from by rw [ha, h_find_t (by omega) (by simp only [decide_eq_true_eq]; omega)]]; exact G_if.t (by omega)))
  refine m_lvs [0, 2, 1] rfl (L (((6 : Int) - 0).toNat + 1) 0 (by omega) (by omega) (by omega) (by rw [Int.sub_zero]; rfl))

set_option maxHeartbeats 4000000 in
set_option maxRecDepth 100000 in
theorem t_X9_goblinByWealth {D : va_G} {aC : Nat → ClassId} {s0 : State} {l : Launch} (hF : m_F D aC s0) (hl : l.stackTraces = false) {x : Nat} {q : Int → Int} {g : h_T} {M : m_M} (hX : m_TH s0) (hO : gO x q M) (hR : hhR (x + 1) g M) (hB : h_B g) {y : Int} (hy : -2147483648 ≤ y ∧ y < 2147483648) : m_Met D aC s0 l yX9_goblinByWealth cX9_goblinByWealth 3 (some .int) 12 (470) (940) [.ref x, VI y] M (g_po (G_gbw g y) M) (g_px [eN] (G_gbw g y) M) := by
  refine m_entry (lv := [(0, .ref x), (1, VI y)]) (by decide +kernel) (Nat.le_of_ble_eq_true rfl) rfl hF hl ?_
  intro p e s m args below meth c hC hr hno hnm
  change m_C D aC s0 RX9 _ _ _ _ _ _ _ _ _ at hC
  have hn9 := hB.n9
  refine m_iconst hC dX9_goblinByWealth_0 ?_
  refine m_istore_n hC dX9_goblinByWealth_1 rfl (by decide) rfl ?_
  have L : ∀ (n : Nat) (i : Int), g 0 9 - i < (n : Int) → 0 ≤ i → i ≤ g 0 9 → S_gbw g y = h_find (fun a => decide (S_rwealth g a = y)) (g 0 9 - i).toNat i → m_W D aC s0 3 p l e (m_R 12 (470) (940)) s m args below meth c (0) (0) (m_Q D aC s0 below (g_po (G_gbw g y) M) (g_px [eN] (G_gbw g y) M) args s (470) (940)) 2 [(2, VI i), (1, VI y), (0, .ref x)] [] M := by
    intro n
    induction n with
    | zero =>
      intro i hn h0 h1 ha
      omega
    | succ n ih =>
      intro i hn h0 h1 ha
      refine m_iload_n hC 0 dX9_goblinByWealth_2 rfl rfl ?_
      refine m_aload_n hC 2 dX9_goblinByWealth_3 rfl rfl ?_
      refine m_getf hC dX9_goblinByWealth_4 kf_X9_12 hO rfl ?_
      refine m_getf hC dX9_goblinByWealth_7 kf_X9_170 hR.ob rfl ?_
      refine m_getf hC dX9_goblinByWealth_10 kf_X9_174 hR.go rfl ?_
      refine m_icmp_ge (tgt := 39) hC dX9_goblinByWealth_13 (by decide) (by first | omega | (simp [hs_at] <;> omega)) (fun c1 => ?_) (fun c1 => ?_)
      · exact m_thn hC hX (is := 142) (text := "no such rank") (by decide) kX_126 kXi_126 ⟨by decide +kernel, by decide +kernel⟩ dX9_goblinByWealth_39 dX9_goblinByWealth_42 dX9_goblinByWealth_43 dX9_goblinByWealth_45 dX9_goblinByWealth_48 hno (by decide) (Nat.le_of_ble_eq_true rfl) (Nat.le_of_ble_eq_true rfl) (Nat.le_of_ble_eq_true rfl) (Nat.le_of_ble_eq_true rfl) (Nat.le_of_ble_eq_true rfl) (fun M9 e1 e2 => (g_px.mk 1 0 (G_if.f (by rw [ha, h_find_0 (by omega)]; decide)) (by decide) rfl e1 e2))
      · refine m_aload_n hC 2 dX9_goblinByWealth_16 rfl rfl ?_
        refine m_getf hC dX9_goblinByWealth_17 kf_X9_12 hO rfl ?_
        refine m_getf hC dX9_goblinByWealth_20 kf_X9_170 hR.ob rfl ?_
        refine m_iload_n hC 0 dX9_goblinByWealth_23 rfl rfl ?_
        refine m_callV hC (t_X5_rankByWealth hF hl hR hB (x := i) (by omega)) dX9_goblinByWealth_24 kc_X5_rankByWealth kV_X9_198 hR.go rfl rfl rfl rfl (Nat.le_of_ble_eq_true rfl) (by decide) ⟨Nat.le_of_ble_eq_true rfl, Nat.le_of_ble_eq_true rfl⟩ m_nox (fun v9 M2 h9 => ?_)
        obtain ⟨rfl, h9⟩ := h9
        replace h9 := h9.symm
        subst h9
        have hrb := S_rwealth_bd hn9 i
        refine m_iload_n hC 1 dX9_goblinByWealth_27 rfl rfl ?_
        refine m_icmp_ne (tgt := 33) hC dX9_goblinByWealth_28 (by decide) (by first | omega | (simp [hs_at] <;> omega)) (fun c3 => ?_) (fun c3 => ?_)
        · refine m_iinc hC 0 dX9_goblinByWealth_33 rfl (by decide) rfl ?_
          refine m_goto (tgt := 2) hC dX9_goblinByWealth_36 (by decide) ?_
          refine m_lvs [0, 1, 2] rfl (ih (i + 1) (by omega) (by omega) (by omega) ?_)
          rw [ha, h_find_f (by omega) (by simp only [decide_eq_false_iff_not]; omega)]
          congr 2; omega
        · refine m_iload_n hC 0 dX9_goblinByWealth_31 rfl rfl ?_
          exact m_iret hC dX9_goblinByWealth_32 hr (Nat.le_of_ble_eq_true rfl) (Nat.le_of_ble_eq_true rfl) (g_po.mk (by unfold G_gbw; rw [show S_gbw g y = i from by rw [ha, h_find_t (by omega) (by simp only [decide_eq_true_eq]; omega)]]; exact G_if.t (by omega)))
  refine m_lvs [0, 2, 1] rfl (L ((g 0 9 - 0).toNat + 1) 0 (by omega) (by omega) (by omega) (by rw [Int.sub_zero]; rfl))

