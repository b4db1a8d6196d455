theorem md_th {a : Nat} {w g sg : h_T} {th t : Int} {L : Nat → h_T} {q : Int → Int} {tx ot : List Int} {M : m_M} (hW : mdW w th sg L q tx ot) (hV : mmV a (hs w 0 14 t) g M) : mdP a t g sg L q tx ot M := ⟨_, hV, hW.th t⟩
theorem md_hgl {w sg : h_T} {th : Int} {L : Nat → h_T} {q : Int → Int} {tx ot : List Int} (hW : mdW w th sg L q tx ot) (hL : ∀ i : Nat, (i : Int) < q 0 → cB (L i)) : 0 < w 0 6 → h_eq (tA (fun k => w 5 (91 * (w 0 6 - 1) + k))) (L (q 0 - 1).toNat) ∧ cB (L (q 0 - 1).toNat) := by
  intro h0
  have e6 := hW.2.1.1
  have h := hW.2.2.2.2.2.1 (q 0 - 1).toNat (by omega)
  rw [show (((q 0 - 1).toNat : Nat) : Int) = w 0 6 - 1 by omega] at h
  exact ⟨h, hL _ (by omega)⟩
theorem md_undo {a : Nat} {w g sg : h_T} {th : Int} {L : Nat → h_T} {q : Int → Int} {tx ot : List Int} {M : m_M} (hW : mdW w th sg L q tx ot) (h0 : 0 < q 0) (hV : mmV a (hs (hs w 0 14 0) 0 6 (w 0 6 - 1)) g M) : mdP a 0 g sg L (m_ug q 0 (q 0 - 1)) tx ot M := by
  obtain ⟨h14, ⟨e6, e5, e7, e8⟩, hq0, hq1, hs4, hL, ht, ho⟩ := hW
  have c0 : m_ug q 0 (q 0 - 1) 0 = q 0 - 1 := if_pos rfl
  have c1 : ∀ k : Int, k ≠ 0 → m_ug q 0 (q 0 - 1) k = q k := fun k hk => if_neg hk
  refine ⟨_, hV, ?_⟩
  unfold mdW
  rw [c0, c1 1 (by decide), c1 2 (by decide), c1 3 (by decide)]
  exact ⟨rfl, ⟨by rw [hs_s, e6], e5, e7, e8⟩, by omega, hq1, hs4, fun i hi => hL i (by omega), ht, ho⟩
theorem md_save {a : Nat} {w g sg : h_T} {th : Int} {L : Nat → h_T} {q : Int → Int} {tx ot : List Int} {M : m_M} {B : Int → Int} (hW : mdW w th sg L q tx ot) (hB : h_eq (tA B) g) (hV : mmV a (hs (wc (hs w 0 14 0) 4 B) 0 5 1) g M) : mdP a 0 g g L (m_ug q 1 1) tx ot M := by
  obtain ⟨h14, ⟨e6, e5, e7, e8⟩, hq0, hq1, hs4, hL, ht, ho⟩ := hW
  have c0 : m_ug q 1 1 1 = 1 := if_pos rfl
  have c1 : ∀ k : Int, k ≠ 1 → m_ug q 1 1 k = q k := fun k hk => if_neg hk
  refine ⟨_, hV, ?_⟩
  unfold mdW
  rw [c0, c1 0 (by decide), c1 2 (by decide), c1 3 (by decide)]
  exact ⟨rfl, ⟨e6, hs_s, e7, e8⟩, hq0, Or.inr rfl, fun _ => hB, hL, ht, ho⟩
theorem md_res {a : Nat} {w g sg : h_T} {th : Int} {L : Nat → h_T} {q : Int → Int} {tx ot : List Int} {M : m_M} (hW : mdW w th sg L q tx ot) (hV : mmV a (hs (hs w 0 14 0) 0 6 0) g M) : mdP a 0 g sg L (m_ug q 0 0) tx ot M := by
  obtain ⟨h14, ⟨e6, e5, e7, e8⟩, hq0, hq1, hs4, hL, ht, ho⟩ := hW
  have c0 : m_ug q 0 0 0 = 0 := if_pos rfl
  have c1 : ∀ k : Int, k ≠ 0 → m_ug q 0 0 k = q k := fun k hk => if_neg hk
  refine ⟨_, hV, ?_⟩
  unfold mdW
  rw [c0, c1 1 (by decide), c1 2 (by decide), c1 3 (by decide)]
  exact ⟨rfl, ⟨hs_s, e5, e7, e8⟩, by omega, hq1, hs4, fun i hi => by omega, ht, ho⟩
theorem md_type {a : Nat} {w g sg : h_T} {th x : Int} {L : Nat → h_T} {q : Int → Int} {tx ot : List Int} {M : m_M} (hW : mdW w th sg L q tx ot) (hV : mmV a (hs (hs (hs w 0 14 0) 7 (w 0 11) x) 0 11 (w 0 11 + 1)) g M) : mdP a 0 g sg L q (tx ++ [x]) ot M := by
  obtain ⟨h14, hqq, hq0, hq1, hs4, hL, ⟨et, ht⟩, ho⟩ := hW
  refine ⟨_, hV, rfl, hqq, hq0, hq1, hs4, hL, ⟨?_, fun i hi => ?_⟩, ho⟩
  · rw [hs_s, et]
    simp
  · show hs w 7 (w 0 11) x 7 (i : Int) = _
    rw [hs_at]
    simp only [List.length_append, List.length_singleton] at hi
    by_cases z : i = tx.length
    · rw [if_pos ⟨rfl, by omega⟩, z]
      simp
    · rw [if_neg (fun y => z (by omega)), ht i (by omega)]
      simp [List.getD, List.getElem?_append_left (show i < tx.length by omega)]
