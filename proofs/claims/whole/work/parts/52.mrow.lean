def b01 (P : Prop) [Decidable P] : Int := if P then 1 else 0
theorem b01_t {P : Prop} [Decidable P] (h : P) : b01 P = 1 := if_pos h
theorem b01_f {P : Prop} [Decidable P] (h : ¬ P) : b01 P = 0 := if_neg h
theorem b01_z {P : Prop} [Decidable P] : b01 P = 0 ∨ b01 P = 1 := by unfold b01; split <;> simp
theorem b01_r {P : Prop} [Decidable P] : -2147483648 ≤ b01 P ∧ b01 P < 2147483648 := by unfold b01; split <;> omega
theorem b01_ne {P : Prop} [Decidable P] : b01 P ≠ 0 ↔ P := by unfold b01; split <;> simp_all
theorem b01_eq {P : Prop} [Decidable P] : b01 P = 0 ↔ ¬ P := by unfold b01; split <;> simp_all
theorem b01_c {P Q : Prop} [Decidable P] [Decidable Q] (h : P ↔ Q) : b01 P = b01 Q := by unfold b01; split <;> split <;> simp_all
theorem b01_nz {P : Prop} [Decidable P] : narrow .boolean (VI (b01 P)) = VI (b01 P) := by unfold b01; split <;> rfl
theorem r01_nz {z : Int} (h : z = 0 ∨ z = 1) : narrow .boolean (VI z) = VI z := by rcases h with rfl | rfl <;> rfl
def m_th (b1 b2 b3 b4 : Int) : Int := if b1 = 0 then 1 else if b2 = 0 then 2 else if b3 = 0 then 3 else if b4 = 0 then 4 else 0
theorem m_th_r (b1 b2 b3 b4 : Int) : 0 ≤ m_th b1 b2 b3 b4 ∧ m_th b1 b2 b3 b4 ≤ 4 := by unfold m_th; (repeat' split) <;> omega
def o_ix : List Int → Int → Int
  | [], _ => 1
  | x :: cs, z => if x = z then 1 else o_ix cs z + 1
def o_th (cs : List Int) (z : Int) : Int := if 0 ≤ z then 0 else o_ix cs z
def wc (w : h_T) (c : Nat) (B : Int → Int) : h_T := fun c' => if c' = c then B else w c'
theorem wc_s {w : h_T} {c : Nat} {B : Int → Int} : wc w c B c = B := if_pos rfl
theorem wc_n {w : h_T} {c c' : Nat} {B : Int → Int} (h : c' ≠ c) : wc w c B c' = w c' := if_neg h
theorem hs_ss {w : h_T} {c : Nat} {i v v2 : Int} : hs (hs w c i v) c i v2 = hs w c i v2 := by
  funext c' j
  simp only [hs_at]
  split <;> rfl
theorem fl_co {c : Nat} {i : Int} (h : 9 ≤ c) : fl c i = 51 + 5 * i + ((c : Int) - 9) := by
  unfold fl
  rw [if_neg (by omega), if_neg (by omega), if_neg (by omega), if_neg (by omega)]
theorem fl_go {c : Nat} {i : Int} (h : 4 ≤ c ∧ c ≤ 8) : fl c i = 26 + 5 * i + ((c : Int) - 4) := by
  unfold fl
  rw [if_neg (by omega), if_neg (by omega), if_neg (by omega), if_pos (by omega)]
theorem fl_br {c : Nat} {i : Int} (h : 2 ≤ c ∧ c ≤ 3) : fl c i = 18 + 2 * i + ((c : Int) - 2) := by
  unfold fl
  rw [if_neg (by omega), if_neg (by omega), if_pos (by omega)]
def h_all (t g : h_T) : Prop := ∀ (c : Nat) (i : Int), c ≤ 13 → 0 ≤ i ∧ i < h_len c → t c i = g c i
theorem h_all.eq {t g : h_T} (h : h_all t g) (hn : g 0 8 ≤ 4 ∧ g 0 9 ≤ 5 ∧ g 0 11 ≤ 8) : h_eq t g := by
  refine ⟨fun k hk => h 0 k (by omega) (by unfold h_len; simpa using hk), fun c i hc hi => h c i hc.2 ?_⟩
  unfold h_n at hi
  unfold h_len
  (repeat' split at hi) <;> (repeat' split) <;> omega
theorem h_all.ug {A : Int → Int} {g : h_T} {c : Nat} {i v : Int} (h : h_all (tA A) g) (hc : c ≤ 13) (hi : 0 ≤ i ∧ i < h_len c) : h_all (tA (m_ug A (fl c i) v)) (hs g c i v) := by
  intro c' j h1 h2
  unfold tA m_ug
  rw [hs_at]
  by_cases q : fl c' j = fl c i
  · have r := fl_inj h1 hc h2 hi q
    rw [if_pos q, if_pos r]
  · rw [if_neg q, if_neg (fun z => q (by rw [z.1, z.2]))]
    exact h c' j h1 h2
def mmA (a : Nat) (w g : h_T) (M : m_M) : Prop := ∃ u : h_T, mmP a u M ∧ (∀ c, c ≠ 1 → u c = w c) ∧ h_all (tA (u 1)) g
theorem mmV.A {a : Nat} {w g : h_T} {M : m_M} (h : mmV a w g M) : ∃ G, mmA a w G M ∧ h_eq G g := by
  obtain ⟨u, h1, h2, h3⟩ := h
  exact ⟨tA (u 1), ⟨u, h1, h2, fun _ _ _ _ => rfl⟩, h3⟩
theorem mmA.V {a : Nat} {w g g2 : h_T} {M : m_M} (h : mmA a w g M) (hn : g 0 8 ≤ 4 ∧ g 0 9 ≤ 5 ∧ g 0 11 ≤ 8) (he : h_eq g g2) : mmV a w g2 M := by
  obtain ⟨u, h1, h2, h3⟩ := h
  exact ⟨u, h1, h2, (h3.eq hn).tr he⟩
theorem mmA.ob {a : Nat} {w g : h_T} {M : m_M} (h : mmA a w g M) : M.2 a = some (m_ob 12 [.ref (a + 1), .ref (a + 2), .ref (a + 3), .ref (a + 4), .ref (a + 5), VI (w 0 5), VI (w 0 6), VI (w 0 7), VI (w 0 8), .ref (a + 6), .ref (a + 7), VI (w 0 11), .ref (a + 8), VI (w 0 13), VI (w 0 14), VI (w 0 15), VI (w 0 16), VI (w 0 17), VI (w 0 18), .ref (a + 9)]) := by
  obtain ⟨u, h1, h2, -⟩ := h
  have e := h1.1
  rw [h2 0 (by decide)] at e
  exact e
theorem mmP.cp1 {a : Nat} {u : h_T} {M M2 : m_M} {B : Int → Int} (h : mmP a u M) (hb : M2.2 (a + 1) = some (m_ia 0 91 B)) (hf : m_fr (a + 1) 1 M M2) : mmP a (wc u 1 B) M2 := by
  unfold mmP
  rw [wc_s, (wc_n (by decide) : wc u 1 B 0 = u 0), (wc_n (by decide) : wc u 1 B 2 = u 2), (wc_n (by decide) : wc u 1 B 3 = u 3), (wc_n (by decide) : wc u 1 B 4 = u 4), (wc_n (by decide) : wc u 1 B 5 = u 5), (wc_n (by decide) : wc u 1 B 6 = u 6), (wc_n (by decide) : wc u 1 B 7 = u 7), (wc_n (by decide) : wc u 1 B 8 = u 8), (wc_n (by decide) : wc u 1 B 9 = u 9)]
  exact ⟨(hf.2 _ (by omega)).trans h.1, hb, (hf.2 _ (by omega)).trans h.2.2.1, (hf.2 _ (by omega)).trans h.2.2.2.1, (hf.2 _ (by omega)).trans h.2.2.2.2.1, (hf.2 _ (by omega)).trans h.2.2.2.2.2.1, (hf.2 _ (by omega)).trans h.2.2.2.2.2.2.1, (hf.2 _ (by omega)).trans h.2.2.2.2.2.2.2.1, (hf.2 _ (by omega)).trans h.2.2.2.2.2.2.2.2.1, (hf.2 _ (by omega)).trans h.2.2.2.2.2.2.2.2.2⟩
theorem mmP.cp2 {a : Nat} {u : h_T} {M M2 : m_M} {B : Int → Int} (h : mmP a u M) (hb : M2.2 (a + 2) = some (m_ia 0 91 B)) (hf : m_fr (a + 2) 1 M M2) : mmP a (wc u 2 B) M2 := by
  unfold mmP
  rw [wc_s, (wc_n (by decide) : wc u 2 B 0 = u 0), (wc_n (by decide) : wc u 2 B 1 = u 1), (wc_n (by decide) : wc u 2 B 3 = u 3), (wc_n (by decide) : wc u 2 B 4 = u 4), (wc_n (by decide) : wc u 2 B 5 = u 5), (wc_n (by decide) : wc u 2 B 6 = u 6), (wc_n (by decide) : wc u 2 B 7 = u 7), (wc_n (by decide) : wc u 2 B 8 = u 8), (wc_n (by decide) : wc u 2 B 9 = u 9)]
  exact ⟨(hf.2 _ (by omega)).trans h.1, (hf.2 _ (by omega)).trans h.2.1, hb, (hf.2 _ (by omega)).trans h.2.2.2.1, (hf.2 _ (by omega)).trans h.2.2.2.2.1, (hf.2 _ (by omega)).trans h.2.2.2.2.2.1, (hf.2 _ (by omega)).trans h.2.2.2.2.2.2.1, (hf.2 _ (by omega)).trans h.2.2.2.2.2.2.2.1, (hf.2 _ (by omega)).trans h.2.2.2.2.2.2.2.2.1, (hf.2 _ (by omega)).trans h.2.2.2.2.2.2.2.2.2⟩
theorem mmP.cp3 {a : Nat} {u : h_T} {M M2 : m_M} {B : Int → Int} (h : mmP a u M) (hb : M2.2 (a + 3) = some (m_ia 0 91 B)) (hf : m_fr (a + 3) 1 M M2) : mmP a (wc u 3 B) M2 := by
  unfold mmP
  rw [wc_s, (wc_n (by decide) : wc u 3 B 0 = u 0), (wc_n (by decide) : wc u 3 B 1 = u 1), (wc_n (by decide) : wc u 3 B 2 = u 2), (wc_n (by decide) : wc u 3 B 4 = u 4), (wc_n (by decide) : wc u 3 B 5 = u 5), (wc_n (by decide) : wc u 3 B 6 = u 6), (wc_n (by decide) : wc u 3 B 7 = u 7), (wc_n (by decide) : wc u 3 B 8 = u 8), (wc_n (by decide) : wc u 3 B 9 = u 9)]
  exact ⟨(hf.2 _ (by omega)).trans h.1, (hf.2 _ (by omega)).trans h.2.1, (hf.2 _ (by omega)).trans h.2.2.1, hb, (hf.2 _ (by omega)).trans h.2.2.2.2.1, (hf.2 _ (by omega)).trans h.2.2.2.2.2.1, (hf.2 _ (by omega)).trans h.2.2.2.2.2.2.1, (hf.2 _ (by omega)).trans h.2.2.2.2.2.2.2.1, (hf.2 _ (by omega)).trans h.2.2.2.2.2.2.2.2.1, (hf.2 _ (by omega)).trans h.2.2.2.2.2.2.2.2.2⟩
theorem mmP.cp4 {a : Nat} {u : h_T} {M M2 : m_M} {B : Int → Int} (h : mmP a u M) (hb : M2.2 (a + 4) = some (m_ia 0 91 B)) (hf : m_fr (a + 4) 1 M M2) : mmP a (wc u 4 B) M2 := by
  unfold mmP
  rw [wc_s, (wc_n (by decide) : wc u 4 B 0 = u 0), (wc_n (by decide) : wc u 4 B 1 = u 1), (wc_n (by decide) : wc u 4 B 2 = u 2), (wc_n (by decide) : wc u 4 B 3 = u 3), (wc_n (by decide) : wc u 4 B 5 = u 5), (wc_n (by decide) : wc u 4 B 6 = u 6), (wc_n (by decide) : wc u 4 B 7 = u 7), (wc_n (by decide) : wc u 4 B 8 = u 8), (wc_n (by decide) : wc u 4 B 9 = u 9)]
  exact ⟨(hf.2 _ (by omega)).trans h.1, (hf.2 _ (by omega)).trans h.2.1, (hf.2 _ (by omega)).trans h.2.2.1, (hf.2 _ (by omega)).trans h.2.2.2.1, hb, (hf.2 _ (by omega)).trans h.2.2.2.2.2.1, (hf.2 _ (by omega)).trans h.2.2.2.2.2.2.1, (hf.2 _ (by omega)).trans h.2.2.2.2.2.2.2.1, (hf.2 _ (by omega)).trans h.2.2.2.2.2.2.2.2.1, (hf.2 _ (by omega)).trans h.2.2.2.2.2.2.2.2.2⟩
theorem mmP.cp5 {a : Nat} {u : h_T} {M M2 : m_M} {B : Int → Int} (h : mmP a u M) (hb : M2.2 (a + 5) = some (m_ia 0 728 B)) (hf : m_fr (a + 5) 1 M M2) : mmP a (wc u 5 B) M2 := by
  unfold mmP
  rw [wc_s, (wc_n (by decide) : wc u 5 B 0 = u 0), (wc_n (by decide) : wc u 5 B 1 = u 1), (wc_n (by decide) : wc u 5 B 2 = u 2), (wc_n (by decide) : wc u 5 B 3 = u 3), (wc_n (by decide) : wc u 5 B 4 = u 4), (wc_n (by decide) : wc u 5 B 6 = u 6), (wc_n (by decide) : wc u 5 B 7 = u 7), (wc_n (by decide) : wc u 5 B 8 = u 8), (wc_n (by decide) : wc u 5 B 9 = u 9)]
  exact ⟨(hf.2 _ (by omega)).trans h.1, (hf.2 _ (by omega)).trans h.2.1, (hf.2 _ (by omega)).trans h.2.2.1, (hf.2 _ (by omega)).trans h.2.2.2.1, (hf.2 _ (by omega)).trans h.2.2.2.2.1, hb, (hf.2 _ (by omega)).trans h.2.2.2.2.2.2.1, (hf.2 _ (by omega)).trans h.2.2.2.2.2.2.2.1, (hf.2 _ (by omega)).trans h.2.2.2.2.2.2.2.2.1, (hf.2 _ (by omega)).trans h.2.2.2.2.2.2.2.2.2⟩
theorem mmP.cp6 {a : Nat} {u : h_T} {M M2 : m_M} {B : Int → Int} (h : mmP a u M) (hb : M2.2 (a + 6) = some (m_ia 0 60 B)) (hf : m_fr (a + 6) 1 M M2) : mmP a (wc u 6 B) M2 := by
  unfold mmP
  rw [wc_s, (wc_n (by decide) : wc u 6 B 0 = u 0), (wc_n (by decide) : wc u 6 B 1 = u 1), (wc_n (by decide) : wc u 6 B 2 = u 2), (wc_n (by decide) : wc u 6 B 3 = u 3), (wc_n (by decide) : wc u 6 B 4 = u 4), (wc_n (by decide) : wc u 6 B 5 = u 5), (wc_n (by decide) : wc u 6 B 7 = u 7), (wc_n (by decide) : wc u 6 B 8 = u 8), (wc_n (by decide) : wc u 6 B 9 = u 9)]
  exact ⟨(hf.2 _ (by omega)).trans h.1, (hf.2 _ (by omega)).trans h.2.1, (hf.2 _ (by omega)).trans h.2.2.1, (hf.2 _ (by omega)).trans h.2.2.2.1, (hf.2 _ (by omega)).trans h.2.2.2.2.1, (hf.2 _ (by omega)).trans h.2.2.2.2.2.1, hb, (hf.2 _ (by omega)).trans h.2.2.2.2.2.2.2.1, (hf.2 _ (by omega)).trans h.2.2.2.2.2.2.2.2.1, (hf.2 _ (by omega)).trans h.2.2.2.2.2.2.2.2.2⟩
theorem mmP.cp7 {a : Nat} {u : h_T} {M M2 : m_M} {B : Int → Int} (h : mmP a u M) (hb : M2.2 (a + 7) = some (m_ia 0 60 B)) (hf : m_fr (a + 7) 1 M M2) : mmP a (wc u 7 B) M2 := by
  unfold mmP
  rw [wc_s, (wc_n (by decide) : wc u 7 B 0 = u 0), (wc_n (by decide) : wc u 7 B 1 = u 1), (wc_n (by decide) : wc u 7 B 2 = u 2), (wc_n (by decide) : wc u 7 B 3 = u 3), (wc_n (by decide) : wc u 7 B 4 = u 4), (wc_n (by decide) : wc u 7 B 5 = u 5), (wc_n (by decide) : wc u 7 B 6 = u 6), (wc_n (by decide) : wc u 7 B 8 = u 8), (wc_n (by decide) : wc u 7 B 9 = u 9)]
  exact ⟨(hf.2 _ (by omega)).trans h.1, (hf.2 _ (by omega)).trans h.2.1, (hf.2 _ (by omega)).trans h.2.2.1, (hf.2 _ (by omega)).trans h.2.2.2.1, (hf.2 _ (by omega)).trans h.2.2.2.2.1, (hf.2 _ (by omega)).trans h.2.2.2.2.2.1, (hf.2 _ (by omega)).trans h.2.2.2.2.2.2.1, hb, (hf.2 _ (by omega)).trans h.2.2.2.2.2.2.2.2.1, (hf.2 _ (by omega)).trans h.2.2.2.2.2.2.2.2.2⟩
theorem mmP.cp8 {a : Nat} {u : h_T} {M M2 : m_M} {B : Int → Int} (h : mmP a u M) (hb : M2.2 (a + 8) = some (m_ia 0 240 B)) (hf : m_fr (a + 8) 1 M M2) : mmP a (wc u 8 B) M2 := by
  unfold mmP
  rw [wc_s, (wc_n (by decide) : wc u 8 B 0 = u 0), (wc_n (by decide) : wc u 8 B 1 = u 1), (wc_n (by decide) : wc u 8 B 2 = u 2), (wc_n (by decide) : wc u 8 B 3 = u 3), (wc_n (by decide) : wc u 8 B 4 = u 4), (wc_n (by decide) : wc u 8 B 5 = u 5), (wc_n (by decide) : wc u 8 B 6 = u 6), (wc_n (by decide) : wc u 8 B 7 = u 7), (wc_n (by decide) : wc u 8 B 9 = u 9)]
  exact ⟨(hf.2 _ (by omega)).trans h.1, (hf.2 _ (by omega)).trans h.2.1, (hf.2 _ (by omega)).trans h.2.2.1, (hf.2 _ (by omega)).trans h.2.2.2.1, (hf.2 _ (by omega)).trans h.2.2.2.2.1, (hf.2 _ (by omega)).trans h.2.2.2.2.2.1, (hf.2 _ (by omega)).trans h.2.2.2.2.2.2.1, (hf.2 _ (by omega)).trans h.2.2.2.2.2.2.2.1, hb, (hf.2 _ (by omega)).trans h.2.2.2.2.2.2.2.2.2⟩
theorem mmP.cp9 {a : Nat} {u : h_T} {M M2 : m_M} {B : Int → Int} (h : mmP a u M) (hb : M2.2 (a + 9) = some (m_ia 0 150 B)) (hf : m_fr (a + 9) 1 M M2) : mmP a (wc u 9 B) M2 := by
  unfold mmP
  rw [wc_s, (wc_n (by decide) : wc u 9 B 0 = u 0), (wc_n (by decide) : wc u 9 B 1 = u 1), (wc_n (by decide) : wc u 9 B 2 = u 2), (wc_n (by decide) : wc u 9 B 3 = u 3), (wc_n (by decide) : wc u 9 B 4 = u 4), (wc_n (by decide) : wc u 9 B 5 = u 5), (wc_n (by decide) : wc u 9 B 6 = u 6), (wc_n (by decide) : wc u 9 B 7 = u 7), (wc_n (by decide) : wc u 9 B 8 = u 8)]
  exact ⟨(hf.2 _ (by omega)).trans h.1, (hf.2 _ (by omega)).trans h.2.1, (hf.2 _ (by omega)).trans h.2.2.1, (hf.2 _ (by omega)).trans h.2.2.2.1, (hf.2 _ (by omega)).trans h.2.2.2.2.1, (hf.2 _ (by omega)).trans h.2.2.2.2.2.1, (hf.2 _ (by omega)).trans h.2.2.2.2.2.2.1, (hf.2 _ (by omega)).trans h.2.2.2.2.2.2.2.1, (hf.2 _ (by omega)).trans h.2.2.2.2.2.2.2.2.1, hb⟩
theorem mmV.cp2 {a : Nat} {w g : h_T} {M M2 : m_M} {B : Int → Int} (h : mmV a w g M) (hb : M2.2 (a + 2) = some (m_ia 0 91 B)) (hf : m_fr (a + 2) 1 M M2) : mmV a (wc w 2 B) g M2 := by
  obtain ⟨u, h1, h2, h3⟩ := h
  refine ⟨wc u 2 B, h1.cp2 hb hf, fun c' q => ?_, by rw [wc_n (by decide)]; exact h3⟩
  unfold wc
  rw [h2 c' q]
theorem mmV.cp3 {a : Nat} {w g : h_T} {M M2 : m_M} {B : Int → Int} (h : mmV a w g M) (hb : M2.2 (a + 3) = some (m_ia 0 91 B)) (hf : m_fr (a + 3) 1 M M2) : mmV a (wc w 3 B) g M2 := by
  obtain ⟨u, h1, h2, h3⟩ := h
  refine ⟨wc u 3 B, h1.cp3 hb hf, fun c' q => ?_, by rw [wc_n (by decide)]; exact h3⟩
  unfold wc
  rw [h2 c' q]
theorem mmV.cp4 {a : Nat} {w g : h_T} {M M2 : m_M} {B : Int → Int} (h : mmV a w g M) (hb : M2.2 (a + 4) = some (m_ia 0 91 B)) (hf : m_fr (a + 4) 1 M M2) : mmV a (wc w 4 B) g M2 := by
  obtain ⟨u, h1, h2, h3⟩ := h
  refine ⟨wc u 4 B, h1.cp4 hb hf, fun c' q => ?_, by rw [wc_n (by decide)]; exact h3⟩
  unfold wc
  rw [h2 c' q]
theorem mmV.cp5 {a : Nat} {w g : h_T} {M M2 : m_M} {B : Int → Int} (h : mmV a w g M) (hb : M2.2 (a + 5) = some (m_ia 0 728 B)) (hf : m_fr (a + 5) 1 M M2) : mmV a (wc w 5 B) g M2 := by
  obtain ⟨u, h1, h2, h3⟩ := h
  refine ⟨wc u 5 B, h1.cp5 hb hf, fun c' q => ?_, by rw [wc_n (by decide)]; exact h3⟩
  unfold wc
  rw [h2 c' q]
theorem mmV.cp6 {a : Nat} {w g : h_T} {M M2 : m_M} {B : Int → Int} (h : mmV a w g M) (hb : M2.2 (a + 6) = some (m_ia 0 60 B)) (hf : m_fr (a + 6) 1 M M2) : mmV a (wc w 6 B) g M2 := by
  obtain ⟨u, h1, h2, h3⟩ := h
  refine ⟨wc u 6 B, h1.cp6 hb hf, fun c' q => ?_, by rw [wc_n (by decide)]; exact h3⟩
  unfold wc
  rw [h2 c' q]
theorem mmV.cp7 {a : Nat} {w g : h_T} {M M2 : m_M} {B : Int → Int} (h : mmV a w g M) (hb : M2.2 (a + 7) = some (m_ia 0 60 B)) (hf : m_fr (a + 7) 1 M M2) : mmV a (wc w 7 B) g M2 := by
  obtain ⟨u, h1, h2, h3⟩ := h
  refine ⟨wc u 7 B, h1.cp7 hb hf, fun c' q => ?_, by rw [wc_n (by decide)]; exact h3⟩
  unfold wc
  rw [h2 c' q]
theorem mmV.cp8 {a : Nat} {w g : h_T} {M M2 : m_M} {B : Int → Int} (h : mmV a w g M) (hb : M2.2 (a + 8) = some (m_ia 0 240 B)) (hf : m_fr (a + 8) 1 M M2) : mmV a (wc w 8 B) g M2 := by
  obtain ⟨u, h1, h2, h3⟩ := h
  refine ⟨wc u 8 B, h1.cp8 hb hf, fun c' q => ?_, by rw [wc_n (by decide)]; exact h3⟩
  unfold wc
  rw [h2 c' q]
theorem mmV.cp9 {a : Nat} {w g : h_T} {M M2 : m_M} {B : Int → Int} (h : mmV a w g M) (hb : M2.2 (a + 9) = some (m_ia 0 150 B)) (hf : m_fr (a + 9) 1 M M2) : mmV a (wc w 9 B) g M2 := by
  obtain ⟨u, h1, h2, h3⟩ := h
  refine ⟨wc u 9 B, h1.cp9 hb hf, fun c' q => ?_, by rw [wc_n (by decide)]; exact h3⟩
  unfold wc
  rw [h2 c' q]
theorem mmV.cp1 {a : Nat} {w g g2 : h_T} {M M2 : m_M} {B : Int → Int} (h : mmV a w g M) (hb : M2.2 (a + 1) = some (m_ia 0 91 B)) (hf : m_fr (a + 1) 1 M M2) (he : h_eq (tA B) g2) : mmV a w g2 M2 := by
  obtain ⟨u, h1, h2, h3⟩ := h
  exact ⟨wc u 1 B, h1.cp1 hb hf, fun c' q => (wc_n q).trans (h2 c' q), by rw [wc_s]; exact he⟩
theorem mmV.c1 {a : Nat} {w g : h_T} {M : m_M} (h : mmV a w g M) : ∃ A : Int → Int, M.2 (a + 1) = some (m_ia 0 91 A) ∧ h_eq (tA A) g := by
  obtain ⟨u, h1, h2, h3⟩ := h
  exact ⟨u 1, h1.2.1, h3⟩
theorem h_eq.B {A B : Int → Int} {g : h_T} (h : h_eq (tA A) g) (hb : ∀ j : Int, 0 ≤ j ∧ j < 91 → B j = A j) (hn : g 0 8 ≤ 4 ∧ g 0 9 ≤ 5 ∧ g 0 11 ≤ 8) : h_eq (tA B) g := by
  refine h_eq.tr (g := tA A) ?_ h
  refine h_all.eq (fun c i hc hi => hb _ (fl_rg hc hi)) ?_
  have e8 := h.1 8 (by omega)
  have e9 := h.1 9 (by omega)
  have e11 := h.1 11 (by omega)
  omega
section m_DROWS
variable {D : va_G} {aC : Nat → ClassId} {s0 : State} {own : String} {cc : ByteArray} {nL : Nat} {p : Program} {l : Launch} {e : Env} {R : Room} {s : State} {m : MethodId} {args : Array Value} {below : List Frame} {meth : Method} {c : Code} {cells slots : Nat} {Q : State → Prop} {pc : Nat} {lv : List (Nat × Value)} {st : List Value} {M : m_M}
theorem m_dia_icmp_ge (C : m_C D aC s0 own cc nL l p s m args meth c) {a b off o2 : Int} (hd : decode cc pc = .ok (.if_icmp .ge off, 3)) (h1 : decode cc (pc + 3) = .ok (.iconst 1, 1)) (h2 : decode cc (pc + 4) = .ok (.goto o2, 3)) (h3 : decode cc (pc + 7) = .ok (.iconst 0, 1)) (ht : off = 7) (h4 : o2 = 4) (hr : -2147483648 ≤ a ∧ a < 2147483648 ∧ -2147483648 ≤ b ∧ b < 2147483648) (kk : m_W D aC s0 nL p l e R s m args below meth c cells slots Q (pc + 8) lv (VI (b01 (a < b)) :: st) M) : m_W D aC s0 nL p l e R s m args below meth c cells slots Q pc lv (VI b :: VI a :: st) M := m_icmp_ge (tgt := pc + 7) C hd (by omega) hr (fun z => m_iconst C h3 (by rw [b01_f (by omega)] at kk; exact kk)) (fun z => m_iconst C h1 (m_goto (tgt := pc + 8) C h2 (by omega) (by rw [b01_t (by omega)] at kk; exact kk)))
theorem m_dia_if_ge (C : m_C D aC s0 own cc nL l p s m args meth c) {a off o2 : Int} (hd : decode cc pc = .ok (.ifCond .ge off, 3)) (h1 : decode cc (pc + 3) = .ok (.iconst 1, 1)) (h2 : decode cc (pc + 4) = .ok (.goto o2, 3)) (h3 : decode cc (pc + 7) = .ok (.iconst 0, 1)) (ht : off = 7) (h4 : o2 = 4) (hr : -2147483648 ≤ a ∧ a < 2147483648) (kk : m_W D aC s0 nL p l e R s m args below meth c cells slots Q (pc + 8) lv (VI (b01 (a < 0)) :: st) M) : m_W D aC s0 nL p l e R s m args below meth c cells slots Q pc lv (VI a :: st) M := m_if_ge (tgt := pc + 7) C hd (by omega) hr (fun z => m_iconst C h3 (by rw [b01_f (by omega)] at kk; exact kk)) (fun z => m_iconst C h1 (m_goto (tgt := pc + 8) C h2 (by omega) (by rw [b01_t (by omega)] at kk; exact kk)))
theorem m_dia_icmp_le (C : m_C D aC s0 own cc nL l p s m args meth c) {a b off o2 : Int} (hd : decode cc pc = .ok (.if_icmp .le off, 3)) (h1 : decode cc (pc + 3) = .ok (.iconst 1, 1)) (h2 : decode cc (pc + 4) = .ok (.goto o2, 3)) (h3 : decode cc (pc + 7) = .ok (.iconst 0, 1)) (ht : off = 7) (h4 : o2 = 4) (hr : -2147483648 ≤ a ∧ a < 2147483648 ∧ -2147483648 ≤ b ∧ b < 2147483648) (kk : m_W D aC s0 nL p l e R s m args below meth c cells slots Q (pc + 8) lv (VI (b01 (b < a)) :: st) M) : m_W D aC s0 nL p l e R s m args below meth c cells slots Q pc lv (VI b :: VI a :: st) M := m_icmp_le (tgt := pc + 7) C hd (by omega) hr (fun z => m_iconst C h3 (by rw [b01_f (by omega)] at kk; exact kk)) (fun z => m_iconst C h1 (m_goto (tgt := pc + 8) C h2 (by omega) (by rw [b01_t (by omega)] at kk; exact kk)))
theorem m_dia_if_le (C : m_C D aC s0 own cc nL l p s m args meth c) {a off o2 : Int} (hd : decode cc pc = .ok (.ifCond .le off, 3)) (h1 : decode cc (pc + 3) = .ok (.iconst 1, 1)) (h2 : decode cc (pc + 4) = .ok (.goto o2, 3)) (h3 : decode cc (pc + 7) = .ok (.iconst 0, 1)) (ht : off = 7) (h4 : o2 = 4) (hr : -2147483648 ≤ a ∧ a < 2147483648) (kk : m_W D aC s0 nL p l e R s m args below meth c cells slots Q (pc + 8) lv (VI (b01 (0 < a)) :: st) M) : m_W D aC s0 nL p l e R s m args below meth c cells slots Q pc lv (VI a :: st) M := m_if_le (tgt := pc + 7) C hd (by omega) hr (fun z => m_iconst C h3 (by rw [b01_f (by omega)] at kk; exact kk)) (fun z => m_iconst C h1 (m_goto (tgt := pc + 8) C h2 (by omega) (by rw [b01_t (by omega)] at kk; exact kk)))
theorem m_dia_icmp_lt (C : m_C D aC s0 own cc nL l p s m args meth c) {a b off o2 : Int} (hd : decode cc pc = .ok (.if_icmp .lt off, 3)) (h1 : decode cc (pc + 3) = .ok (.iconst 1, 1)) (h2 : decode cc (pc + 4) = .ok (.goto o2, 3)) (h3 : decode cc (pc + 7) = .ok (.iconst 0, 1)) (ht : off = 7) (h4 : o2 = 4) (hr : -2147483648 ≤ a ∧ a < 2147483648 ∧ -2147483648 ≤ b ∧ b < 2147483648) (kk : m_W D aC s0 nL p l e R s m args below meth c cells slots Q (pc + 8) lv (VI (b01 (b ≤ a)) :: st) M) : m_W D aC s0 nL p l e R s m args below meth c cells slots Q pc lv (VI b :: VI a :: st) M := m_icmp_lt (tgt := pc + 7) C hd (by omega) hr (fun z => m_iconst C h3 (by rw [b01_f (by omega)] at kk; exact kk)) (fun z => m_iconst C h1 (m_goto (tgt := pc + 8) C h2 (by omega) (by rw [b01_t (by omega)] at kk; exact kk)))
theorem m_dia_if_lt (C : m_C D aC s0 own cc nL l p s m args meth c) {a off o2 : Int} (hd : decode cc pc = .ok (.ifCond .lt off, 3)) (h1 : decode cc (pc + 3) = .ok (.iconst 1, 1)) (h2 : decode cc (pc + 4) = .ok (.goto o2, 3)) (h3 : decode cc (pc + 7) = .ok (.iconst 0, 1)) (ht : off = 7) (h4 : o2 = 4) (hr : -2147483648 ≤ a ∧ a < 2147483648) (kk : m_W D aC s0 nL p l e R s m args below meth c cells slots Q (pc + 8) lv (VI (b01 (0 ≤ a)) :: st) M) : m_W D aC s0 nL p l e R s m args below meth c cells slots Q pc lv (VI a :: st) M := m_if_lt (tgt := pc + 7) C hd (by omega) hr (fun z => m_iconst C h3 (by rw [b01_f (by omega)] at kk; exact kk)) (fun z => m_iconst C h1 (m_goto (tgt := pc + 8) C h2 (by omega) (by rw [b01_t (by omega)] at kk; exact kk)))
theorem m_dia_icmp_gt (C : m_C D aC s0 own cc nL l p s m args meth c) {a b off o2 : Int} (hd : decode cc pc = .ok (.if_icmp .gt off, 3)) (h1 : decode cc (pc + 3) = .ok (.iconst 1, 1)) (h2 : decode cc (pc + 4) = .ok (.goto o2, 3)) (h3 : decode cc (pc + 7) = .ok (.iconst 0, 1)) (ht : off = 7) (h4 : o2 = 4) (hr : -2147483648 ≤ a ∧ a < 2147483648 ∧ -2147483648 ≤ b ∧ b < 2147483648) (kk : m_W D aC s0 nL p l e R s m args below meth c cells slots Q (pc + 8) lv (VI (b01 (a ≤ b)) :: st) M) : m_W D aC s0 nL p l e R s m args below meth c cells slots Q pc lv (VI b :: VI a :: st) M := m_icmp_gt (tgt := pc + 7) C hd (by omega) hr (fun z => m_iconst C h3 (by rw [b01_f (by omega)] at kk; exact kk)) (fun z => m_iconst C h1 (m_goto (tgt := pc + 8) C h2 (by omega) (by rw [b01_t (by omega)] at kk; exact kk)))
theorem m_dia_if_gt (C : m_C D aC s0 own cc nL l p s m args meth c) {a off o2 : Int} (hd : decode cc pc = .ok (.ifCond .gt off, 3)) (h1 : decode cc (pc + 3) = .ok (.iconst 1, 1)) (h2 : decode cc (pc + 4) = .ok (.goto o2, 3)) (h3 : decode cc (pc + 7) = .ok (.iconst 0, 1)) (ht : off = 7) (h4 : o2 = 4) (hr : -2147483648 ≤ a ∧ a < 2147483648) (kk : m_W D aC s0 nL p l e R s m args below meth c cells slots Q (pc + 8) lv (VI (b01 (a ≤ 0)) :: st) M) : m_W D aC s0 nL p l e R s m args below meth c cells slots Q pc lv (VI a :: st) M := m_if_gt (tgt := pc + 7) C hd (by omega) hr (fun z => m_iconst C h3 (by rw [b01_f (by omega)] at kk; exact kk)) (fun z => m_iconst C h1 (m_goto (tgt := pc + 8) C h2 (by omega) (by rw [b01_t (by omega)] at kk; exact kk)))
theorem m_dia_icmp_eq (C : m_C D aC s0 own cc nL l p s m args meth c) {a b off o2 : Int} (hd : decode cc pc = .ok (.if_icmp .eq off, 3)) (h1 : decode cc (pc + 3) = .ok (.iconst 1, 1)) (h2 : decode cc (pc + 4) = .ok (.goto o2, 3)) (h3 : decode cc (pc + 7) = .ok (.iconst 0, 1)) (ht : off = 7) (h4 : o2 = 4) (hr : -2147483648 ≤ a ∧ a < 2147483648 ∧ -2147483648 ≤ b ∧ b < 2147483648) (kk : m_W D aC s0 nL p l e R s m args below meth c cells slots Q (pc + 8) lv (VI (b01 (a ≠ b)) :: st) M) : m_W D aC s0 nL p l e R s m args below meth c cells slots Q pc lv (VI b :: VI a :: st) M := m_icmp_eq (tgt := pc + 7) C hd (by omega) hr (fun z => m_iconst C h3 (by rw [b01_f (by omega)] at kk; exact kk)) (fun z => m_iconst C h1 (m_goto (tgt := pc + 8) C h2 (by omega) (by rw [b01_t (by omega)] at kk; exact kk)))
theorem m_dia_if_eq (C : m_C D aC s0 own cc nL l p s m args meth c) {a off o2 : Int} (hd : decode cc pc = .ok (.ifCond .eq off, 3)) (h1 : decode cc (pc + 3) = .ok (.iconst 1, 1)) (h2 : decode cc (pc + 4) = .ok (.goto o2, 3)) (h3 : decode cc (pc + 7) = .ok (.iconst 0, 1)) (ht : off = 7) (h4 : o2 = 4) (hr : -2147483648 ≤ a ∧ a < 2147483648) (kk : m_W D aC s0 nL p l e R s m args below meth c cells slots Q (pc + 8) lv (VI (b01 (a ≠ 0)) :: st) M) : m_W D aC s0 nL p l e R s m args below meth c cells slots Q pc lv (VI a :: st) M := m_if_eq (tgt := pc + 7) C hd (by omega) hr (fun z => m_iconst C h3 (by rw [b01_f (by omega)] at kk; exact kk)) (fun z => m_iconst C h1 (m_goto (tgt := pc + 8) C h2 (by omega) (by rw [b01_t (by omega)] at kk; exact kk)))
theorem m_dia_icmp_ne (C : m_C D aC s0 own cc nL l p s m args meth c) {a b off o2 : Int} (hd : decode cc pc = .ok (.if_icmp .ne off, 3)) (h1 : decode cc (pc + 3) = .ok (.iconst 1, 1)) (h2 : decode cc (pc + 4) = .ok (.goto o2, 3)) (h3 : decode cc (pc + 7) = .ok (.iconst 0, 1)) (ht : off = 7) (h4 : o2 = 4) (hr : -2147483648 ≤ a ∧ a < 2147483648 ∧ -2147483648 ≤ b ∧ b < 2147483648) (kk : m_W D aC s0 nL p l e R s m args below meth c cells slots Q (pc + 8) lv (VI (b01 (a = b)) :: st) M) : m_W D aC s0 nL p l e R s m args below meth c cells slots Q pc lv (VI b :: VI a :: st) M := m_icmp_ne (tgt := pc + 7) C hd (by omega) hr (fun z => m_iconst C h3 (by rw [b01_f (by omega)] at kk; exact kk)) (fun z => m_iconst C h1 (m_goto (tgt := pc + 8) C h2 (by omega) (by rw [b01_t (by omega)] at kk; exact kk)))
theorem m_dia_if_ne (C : m_C D aC s0 own cc nL l p s m args meth c) {a off o2 : Int} (hd : decode cc pc = .ok (.ifCond .ne off, 3)) (h1 : decode cc (pc + 3) = .ok (.iconst 1, 1)) (h2 : decode cc (pc + 4) = .ok (.goto o2, 3)) (h3 : decode cc (pc + 7) = .ok (.iconst 0, 1)) (ht : off = 7) (h4 : o2 = 4) (hr : -2147483648 ≤ a ∧ a < 2147483648) (kk : m_W D aC s0 nL p l e R s m args below meth c cells slots Q (pc + 8) lv (VI (b01 (a = 0)) :: st) M) : m_W D aC s0 nL p l e R s m args below meth c cells slots Q pc lv (VI a :: st) M := m_if_ne (tgt := pc + 7) C hd (by omega) hr (fun z => m_iconst C h3 (by rw [b01_f (by omega)] at kk; exact kk)) (fun z => m_iconst C h1 (m_goto (tgt := pc + 8) C h2 (by omega) (by rw [b01_t (by omega)] at kk; exact kk)))
theorem m_ar (C : m_C D aC s0 own cc nL l p s m args meth c) {a : Nat} {w g : h_T} {x : Int} (c1 : Nat) (i : Int) (hV : mmA a w g M) (hd : decode cc pc = .ok (.iaload, 1)) (hx : fl c1 i = x) (hc : c1 ≤ 13) (hi : 0 ≤ i ∧ i < h_len c1) (kk : m_W D aC s0 nL p l e R s m args below meth c cells slots Q (pc + 1) lv (VI (g c1 i) :: st) M) : m_W D aC s0 nL p l e R s m args below meth c cells slots Q pc lv (VI x :: .ref (a + 1) :: st) M := by
  obtain ⟨u, h1, h2, h3⟩ := hV
  have hr := fl_rg hc hi
  refine m_iald C hd h1.2.1 (by decide) (by omega) ?_
  rw [show u 1 x = g c1 i by rw [← hx]; exact h3 c1 i hc hi]
  exact kk
theorem m_aw (C : m_C D aC s0 own cc nL l p s m args meth c) {a : Nat} {w g : h_T} {x v : Int} (c1 : Nat) (i : Int) (hV : mmA a w g M) (ha : s0.heap.size ≤ a) (hd : decode cc pc = .ok (.iastore, 1)) (hx : fl c1 i = x) (hc : c1 ≤ 13) (hi : 0 ≤ i ∧ i < h_len c1) (kk : ∀ M1 : m_M, mmA a w (hs g c1 i v) M1 → m_fr a 10 M M1 → m_W D aC s0 nL p l e R s m args below meth c cells slots Q (pc + 1) lv st M1) : m_W D aC s0 nL p l e R s m args below meth c cells slots Q pc lv (VI v :: VI x :: .ref (a + 1) :: st) M := by
  obtain ⟨u, h1, h2, h3⟩ := hV
  subst hx
  have hr := fl_rg hc hi
  refine m_iast C hd h1.2.1 (by omega) (by decide) hr (kk _ ⟨_, h1.st1, fun c' q => (hs_c q).trans (h2 c' q), ?_⟩ (m_fr.up (by omega) (by omega)))
  rw [hs_ug]
  exact h3.ug hc hi
end m_DROWS
