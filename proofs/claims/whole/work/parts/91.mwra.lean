/-! the law's methods with handlers: which exception, and what the call answers, in the place out -/
def gFo (x w o1 : Nat) (M M2 : m_M) : Prop := M.1 ≤ M2.1 ∧ ∀ a : Nat, a < w → (a < x ∨ x + 238 ≤ a) → a ≠ o1 → M2.2 a = M.2 a
def wQ (z0 : Nat) (fo : Nat → Nat) (x w o1 : Nat) (r : Int × Int) (W2 : gW) (M : m_M) : Option Value → m_M → Prop := fun v M' => v = some (VI r.1) ∧ (0 ≤ r.1 ∧ r.1 ≤ 5) ∧ (r.1 = 0 → M'.2 o1 = some (m_va 3 1 (fun _ => VL r.2))) ∧ (∃ f, M'.2 o1 = some (m_va 3 1 f)) ∧ gIn z0 fo x w W2 M' ∧ gFo x w o1 M M'
theorem gIn.out {z0 : Nat} {fo : Nat → Nat} {x w o1 : Nat} {W2 : gW} {M1 M2 : m_M} (h : gIn z0 fo x w W2 M1) (ho : x + 238 ≤ o1 ∧ o1 < w) (hf : m_fr o1 1 M1 M2) : gIn z0 fo x w W2 M2 :=
  ghP.far h (by rw [hf.1]; exact Nat.le_refl _) (fun a _ h1 _ => hf.2 a (by omega))
theorem gFo.out {x w o1 : Nat} {M M1 M2 : m_M} (h : gFr x w M M1) (hf : m_fr o1 1 M1 M2) : gFo x w o1 M M2 :=
  ⟨by rw [hf.1]; exact h.1, fun a a1 a2 a3 => (hf.2 a (by omega)).trans (h.2 a a1 a2)⟩
theorem wQ.ok {z0 : Nat} {fo : Nat → Nat} {x w o1 : Nat} {r : Int × Int} {W2 : gW} {M M1 M2 : m_M} (h0 : r.1 = 0) (hA : gIn z0 fo x w W2 M1 ∧ gFr x w M M1) (ho : x + 238 ≤ o1 ∧ o1 < w) (hM : M2.2 o1 = some (m_va 3 1 (fun _ => VL r.2))) (hf : m_fr o1 1 M1 M2) : wQ z0 fo x w o1 r W2 M (some (VI 0)) M2 :=
  ⟨by rw [h0], by rw [h0]; decide, fun _ => hM, ⟨_, hM⟩, hA.1.out ho hf, gFo.out hA.2 hf⟩
theorem wQ.ex {z0 : Nat} {fo : Nat → Nat} {x w o1 : Nat} {r : Int × Int} {W2 : gW} {M M1 : m_M} {k : Int} {f : Nat → Value} (h0 : r.1 = k) (hk : k ≠ 0 ∧ 0 ≤ k ∧ k ≤ 5) (hA : gIn z0 fo x w W2 M1 ∧ gFr x w M M1) (ho : x + 238 ≤ o1 ∧ o1 < w) (hO : M.2 o1 = some (m_va 3 1 f)) : wQ z0 fo x w o1 r W2 M (some (VI k)) M1 :=
  ⟨by rw [h0], by rw [h0]; exact hk.2, fun z => absurd (h0.symm.trans z) hk.1, ⟨f, (hA.2.2 o1 ho.2 (Or.inr ho.1)).trans hO⟩, hA.1, hA.2.1, fun a a1 a2 _ => hA.2.2 a a1 a2⟩
/-- the same with a place for a double -/
def wD (z0 : Nat) (fo : Nat → Nat) (x w o2 : Nat) (th : Int) (v2 : UInt64) (W2 : gW) (M : m_M) : Option Value → m_M → Prop := fun v M' => v = some (VI th) ∧ (th = 0 → M'.2 o2 = some (m_va 4 1 (fun _ => .double v2))) ∧ (∃ f, M'.2 o2 = some (m_va 4 1 f)) ∧ gIn z0 fo x w W2 M' ∧ gFo x w o2 M M'
section m_WR2
variable {D : va_G} {aC : Nat → ClassId} {s0 : State} {cc : ByteArray} {nL : Nat} {p : Program} {l : Launch} {e : Env} {R : Room} {s : State} {m : MethodId} {args : Array Value} {below : List Frame} {meth : Method} {c : Code} {cells slots : Nat} {Q : State → Prop} {pc : Nat} {lv : List (Nat × Value)}
theorem m_cat (C : m_C D aC s0 RL cc nL l p s m args meth c) (hN : m_NC s0) {hh pre suf : List (Nat × Nat × Nat × Nat)} {a b h ct : Nat} {E : String} (ht : c.exceptionTable.toList = tableOf hh) (hs : hh = pre ++ (a, b, h, ct) :: suf) (hz : ctW ct E) (hp : ∀ y ∈ pre, ∃ nm, ctW y.2.2.2 nm ∧ nm ≠ E) (hpc : a ≤ pc ∧ pc < b) {M' : m_M} {ce : Cell} {q9 : Addr} {H1 : Heap} {locs1 : List Loc} {ls : Array Slot} {rest : List Value} (h1 : lv_has ls nL lv) (hH : m_H D aC M' H1) (hS : va_S (m_A s0) s.heap H1 locs1) (hce : H1[q9]? = some ce) (hcv : ce.vm = .none) (hcl : s.vm.findClass E = some ce.cls)
    (kk : m_W D aC s0 nL p l e R s m args below meth c cells slots Q h lv [.ref q9] M') : vx_W p l e R s m args below meth c H1 locs1 cells slots Q (F0 m pc ls rest) q9 := m_catch C hN (z := (a, b, h, ct)) ht hs hz hp hpc h1 hH hS hce hcv hcl kk
end m_WR2
theorem kw_L_addGoblin : m_cdW yL_addGoblin cL_addGoblin 4 (some .int) [(0, 9, 12, 13), (0, 9, 15, 15)] 3 := ⟨lwg_of (List.mem_append_right _ (List.mem_of_getElem? (i := 851) (by decide +kernel))) rfl, lwg_of (List.mem_append_right _ (List.mem_of_getElem? (i := 0) (by decide +kernel))) rfl, by decide +kernel, by decide +kernel, by decide +kernel⟩
set_option maxHeartbeats 2000000 in
theorem w_addGoblin {D : va_G} {aC : Nat → ClassId} {s0 : State} {l : Launch} (hF : m_F D aC s0) (hl : l.stackTraces = false) {fo : Nat → Nat} {x w o1 : Nat} {W W2 : gW} {r : Int × Int} {M : m_M} (hN : m_NC s0) (hG : gIn s0.heap.size fo x w W M) (ho : x + 238 ≤ o1 ∧ o1 < w) {f : Nat → Value} (hO : M.2 o1 = some (m_va 3 1 f)) {y1 : Int} (hM : cU D aC s0 l fo x w yX9_addGoblin cX9_addGoblin 2 (some .int) 12 [.ref x, VI y1] M [eA, eS] r W2) : m_MetW D aC s0 l yL_addGoblin cL_addGoblin 4 (some .int) [(0, 9, 12, 13), (0, 9, 15, 15)] 13 470 940 [.ref x, VI y1, .ref o1] M (wQ s0.heap.size fo x w o1 r W2 M) := by
  refine m_entryW (lv := [(0, .ref x), (1, VI y1), (2, .ref o1)]) (by decide +kernel) (Nat.le_of_ble_eq_true rfl) rfl hF hl ?_
  intro p e s m args below meth c hC hr ht
  change m_C D aC s0 RL _ _ _ _ _ _ _ _ _ at hC
  have hox : s0.heap.size ≤ o1 := by have := hG.1.2.2; omega
  refine m_aload_n hC 2 dL_addGoblin_0 rfl rfl ?_
  refine m_iconst hC dL_addGoblin_1 ?_
  refine m_aload_n hC 0 dL_addGoblin_2 rfl rfl ?_
  refine m_iload_n hC 1 dL_addGoblin_3 rfl rfl ?_
  refine m_callV hC hM dL_addGoblin_4 kc_X9_addGoblin kV_L_7 hG.2.1 rfl rfl rfl rfl (Nat.le_of_ble_eq_true rfl) (by decide) ⟨(Nat.le_of_ble_eq_true rfl), (Nat.le_of_ble_eq_true rfl)⟩ (fun E M1 ce q9 H1 locs1 ls h1 hx hH hS hce hcv hcl => ?_) (fun v9 M1 h9 => ?_)
  · obtain ⟨⟨hr1, hEs⟩, hA⟩ := hx
    have hk : r.1 = 1 ∨ r.1 = 2 := by
      have hlt := (List.getElem?_eq_some_iff.mp hEs).1
      simp only [List.length_cons, List.length_nil] at hlt
      omega
    rcases hk with hk | hk
    · rw [hk] at hEs
      have hE : eA = E := Option.some.inj hEs
      subst hE
      refine m_cat hC hN (pre := []) (a := 0) (b := 9) (h := 12) (ct := 13) (suf := [(0, 9, 15, 15)]) (E := eA) ht rfl ct_A (fun y hy => absurd hy List.not_mem_nil) ⟨by decide, by decide⟩ h1 hH hS hce hcv hcl ?_
      refine m_astore_n hC dL_addGoblin_12 rfl (by decide) rfl ?_
      refine m_iconst hC dL_addGoblin_13 ?_
      exact m_iret hC dL_addGoblin_14 hr (Nat.le_of_ble_eq_true rfl) (Nat.le_of_ble_eq_true rfl) (wQ.ex hk (by decide) hA ho hO)
    · rw [hk] at hEs
      have hE : eS = E := Option.some.inj hEs
      subst hE
      refine m_cat hC hN (pre := [(0, 9, 12, 13)]) (a := 0) (b := 9) (h := 15) (ct := 15) (suf := []) (E := eS) ht rfl ct_S (List.forall_mem_cons.mpr ⟨⟨eA, ct_A, by decide⟩, (fun y hy => absurd hy List.not_mem_nil)⟩) ⟨by decide, by decide⟩ h1 hH hS hce hcv hcl ?_
      refine m_astore_n hC dL_addGoblin_15 rfl (by decide) rfl ?_
      refine m_iconst hC dL_addGoblin_16 ?_
      exact m_iret hC dL_addGoblin_17 hr (Nat.le_of_ble_eq_true rfl) (Nat.le_of_ble_eq_true rfl) (wQ.ex hk (by decide) hA ho hO)
  · obtain ⟨h0, rfl, hA⟩ := h9
    have hO1 := (hA.2.2 o1 ho.2 (Or.inr ho.1)).trans hO
    refine m_i2l hC dL_addGoblin_7 ?_
    refine m_last1 hC dL_addGoblin_8 hO1 hox (fun M2 R2 f2 => ?_)
    refine m_goto (tgt := 18) hC dL_addGoblin_9 (by decide) ?_
    refine m_iconst hC dL_addGoblin_18 ?_
    exact m_iret hC dL_addGoblin_19 hr (Nat.le_of_ble_eq_true rfl) (Nat.le_of_ble_eq_true rfl) (wQ.ok h0 hA ho R2 f2)
theorem kw_L_addBroom : m_cdW yL_addBroom cL_addBroom 4 (some .int) [(0, 9, 12, 13), (0, 9, 15, 15)] 3 := ⟨lwg_of (List.mem_append_right _ (List.mem_of_getElem? (i := 929) (by decide +kernel))) rfl, lwg_of (List.mem_append_right _ (List.mem_of_getElem? (i := 0) (by decide +kernel))) rfl, by decide +kernel, by decide +kernel, by decide +kernel⟩
set_option maxHeartbeats 2000000 in
theorem w_addBroom {D : va_G} {aC : Nat → ClassId} {s0 : State} {l : Launch} (hF : m_F D aC s0) (hl : l.stackTraces = false) {fo : Nat → Nat} {x w o1 : Nat} {W W2 : gW} {r : Int × Int} {M : m_M} (hN : m_NC s0) (hG : gIn s0.heap.size fo x w W M) (ho : x + 238 ≤ o1 ∧ o1 < w) {f : Nat → Value} (hO : M.2 o1 = some (m_va 3 1 f)) {y1 : Int} (hM : cU D aC s0 l fo x w yX9_addBroom cX9_addBroom 2 (some .int) 12 [.ref x, VI y1] M [eA, eS] r W2) : m_MetW D aC s0 l yL_addBroom cL_addBroom 4 (some .int) [(0, 9, 12, 13), (0, 9, 15, 15)] 13 470 940 [.ref x, VI y1, .ref o1] M (wQ s0.heap.size fo x w o1 r W2 M) := by
  refine m_entryW (lv := [(0, .ref x), (1, VI y1), (2, .ref o1)]) (by decide +kernel) (Nat.le_of_ble_eq_true rfl) rfl hF hl ?_
  intro p e s m args below meth c hC hr ht
  change m_C D aC s0 RL _ _ _ _ _ _ _ _ _ at hC
  have hox : s0.heap.size ≤ o1 := by have := hG.1.2.2; omega
  refine m_aload_n hC 2 dL_addBroom_0 rfl rfl ?_
  refine m_iconst hC dL_addBroom_1 ?_
  refine m_aload_n hC 0 dL_addBroom_2 rfl rfl ?_
  refine m_iload_n hC 1 dL_addBroom_3 rfl rfl ?_
  refine m_callV hC hM dL_addBroom_4 kc_X9_addBroom kV_L_17 hG.2.1 rfl rfl rfl rfl (Nat.le_of_ble_eq_true rfl) (by decide) ⟨(Nat.le_of_ble_eq_true rfl), (Nat.le_of_ble_eq_true rfl)⟩ (fun E M1 ce q9 H1 locs1 ls h1 hx hH hS hce hcv hcl => ?_) (fun v9 M1 h9 => ?_)
  · obtain ⟨⟨hr1, hEs⟩, hA⟩ := hx
    have hk : r.1 = 1 ∨ r.1 = 2 := by
      have hlt := (List.getElem?_eq_some_iff.mp hEs).1
      simp only [List.length_cons, List.length_nil] at hlt
      omega
    rcases hk with hk | hk
    · rw [hk] at hEs
      have hE : eA = E := Option.some.inj hEs
      subst hE
      refine m_cat hC hN (pre := []) (a := 0) (b := 9) (h := 12) (ct := 13) (suf := [(0, 9, 15, 15)]) (E := eA) ht rfl ct_A (fun y hy => absurd hy List.not_mem_nil) ⟨by decide, by decide⟩ h1 hH hS hce hcv hcl ?_
      refine m_astore_n hC dL_addBroom_12 rfl (by decide) rfl ?_
      refine m_iconst hC dL_addBroom_13 ?_
      exact m_iret hC dL_addBroom_14 hr (Nat.le_of_ble_eq_true rfl) (Nat.le_of_ble_eq_true rfl) (wQ.ex hk (by decide) hA ho hO)
    · rw [hk] at hEs
      have hE : eS = E := Option.some.inj hEs
      subst hE
      refine m_cat hC hN (pre := [(0, 9, 12, 13)]) (a := 0) (b := 9) (h := 15) (ct := 15) (suf := []) (E := eS) ht rfl ct_S (List.forall_mem_cons.mpr ⟨⟨eA, ct_A, by decide⟩, (fun y hy => absurd hy List.not_mem_nil)⟩) ⟨by decide, by decide⟩ h1 hH hS hce hcv hcl ?_
      refine m_astore_n hC dL_addBroom_15 rfl (by decide) rfl ?_
      refine m_iconst hC dL_addBroom_16 ?_
      exact m_iret hC dL_addBroom_17 hr (Nat.le_of_ble_eq_true rfl) (Nat.le_of_ble_eq_true rfl) (wQ.ex hk (by decide) hA ho hO)
  · obtain ⟨h0, rfl, hA⟩ := h9
    have hO1 := (hA.2.2 o1 ho.2 (Or.inr ho.1)).trans hO
    refine m_i2l hC dL_addBroom_7 ?_
    refine m_last1 hC dL_addBroom_8 hO1 hox (fun M2 R2 f2 => ?_)
    refine m_goto (tgt := 18) hC dL_addBroom_9 (by decide) ?_
    refine m_iconst hC dL_addBroom_18 ?_
    exact m_iret hC dL_addBroom_19 hr (Nat.le_of_ble_eq_true rfl) (Nat.le_of_ble_eq_true rfl) (wQ.ok h0 hA ho R2 f2)
theorem kw_L_banishBroom : m_cdW yL_banishBroom cL_banishBroom 4 (some .int) [(0, 9, 12, 23), (0, 9, 15, 15)] 3 := ⟨lwg_of (List.mem_append_right _ (List.mem_of_getElem? (i := 940) (by decide +kernel))) rfl, lwg_of (List.mem_append_right _ (List.mem_of_getElem? (i := 0) (by decide +kernel))) rfl, by decide +kernel, by decide +kernel, by decide +kernel⟩
set_option maxHeartbeats 2000000 in
theorem w_banishBroom {D : va_G} {aC : Nat → ClassId} {s0 : State} {l : Launch} (hF : m_F D aC s0) (hl : l.stackTraces = false) {fo : Nat → Nat} {x w o1 : Nat} {W W2 : gW} {r : Int × Int} {M : m_M} (hN : m_NC s0) (hG : gIn s0.heap.size fo x w W M) (ho : x + 238 ≤ o1 ∧ o1 < w) {f : Nat → Value} (hO : M.2 o1 = some (m_va 3 1 f)) {y1 : Int} (hM : cU D aC s0 l fo x w yX9_banishBroom cX9_banishBroom 2 (some .int) 12 [.ref x, VI y1] M [eI, eS] r W2) : m_MetW D aC s0 l yL_banishBroom cL_banishBroom 4 (some .int) [(0, 9, 12, 23), (0, 9, 15, 15)] 13 470 940 [.ref x, VI y1, .ref o1] M (wQ s0.heap.size fo x w o1 r W2 M) := by
  refine m_entryW (lv := [(0, .ref x), (1, VI y1), (2, .ref o1)]) (by decide +kernel) (Nat.le_of_ble_eq_true rfl) rfl hF hl ?_
  intro p e s m args below meth c hC hr ht
  change m_C D aC s0 RL _ _ _ _ _ _ _ _ _ at hC
  have hox : s0.heap.size ≤ o1 := by have := hG.1.2.2; omega
  refine m_aload_n hC 2 dL_banishBroom_0 rfl rfl ?_
  refine m_iconst hC dL_banishBroom_1 ?_
  refine m_aload_n hC 0 dL_banishBroom_2 rfl rfl ?_
  refine m_iload_n hC 1 dL_banishBroom_3 rfl rfl ?_
  refine m_callV hC hM dL_banishBroom_4 kc_X9_banishBroom kV_L_20 hG.2.1 rfl rfl rfl rfl (Nat.le_of_ble_eq_true rfl) (by decide) ⟨(Nat.le_of_ble_eq_true rfl), (Nat.le_of_ble_eq_true rfl)⟩ (fun E M1 ce q9 H1 locs1 ls h1 hx hH hS hce hcv hcl => ?_) (fun v9 M1 h9 => ?_)
  · obtain ⟨⟨hr1, hEs⟩, hA⟩ := hx
    have hk : r.1 = 1 ∨ r.1 = 2 := by
      have hlt := (List.getElem?_eq_some_iff.mp hEs).1
      simp only [List.length_cons, List.length_nil] at hlt
      omega
    rcases hk with hk | hk
    · rw [hk] at hEs
      have hE : eI = E := Option.some.inj hEs
      subst hE
      refine m_cat hC hN (pre := []) (a := 0) (b := 9) (h := 12) (ct := 23) (suf := [(0, 9, 15, 15)]) (E := eI) ht rfl ct_I (fun y hy => absurd hy List.not_mem_nil) ⟨by decide, by decide⟩ h1 hH hS hce hcv hcl ?_
      refine m_astore_n hC dL_banishBroom_12 rfl (by decide) rfl ?_
      refine m_iconst hC dL_banishBroom_13 ?_
      exact m_iret hC dL_banishBroom_14 hr (Nat.le_of_ble_eq_true rfl) (Nat.le_of_ble_eq_true rfl) (wQ.ex hk (by decide) hA ho hO)
    · rw [hk] at hEs
      have hE : eS = E := Option.some.inj hEs
      subst hE
      refine m_cat hC hN (pre := [(0, 9, 12, 23)]) (a := 0) (b := 9) (h := 15) (ct := 15) (suf := []) (E := eS) ht rfl ct_S (List.forall_mem_cons.mpr ⟨⟨eI, ct_I, by decide⟩, (fun y hy => absurd hy List.not_mem_nil)⟩) ⟨by decide, by decide⟩ h1 hH hS hce hcv hcl ?_
      refine m_astore_n hC dL_banishBroom_15 rfl (by decide) rfl ?_
      refine m_iconst hC dL_banishBroom_16 ?_
      exact m_iret hC dL_banishBroom_17 hr (Nat.le_of_ble_eq_true rfl) (Nat.le_of_ble_eq_true rfl) (wQ.ex hk (by decide) hA ho hO)
  · obtain ⟨h0, rfl, hA⟩ := h9
    have hO1 := (hA.2.2 o1 ho.2 (Or.inr ho.1)).trans hO
    refine m_i2l hC dL_banishBroom_7 ?_
    refine m_last1 hC dL_banishBroom_8 hO1 hox (fun M2 R2 f2 => ?_)
    refine m_goto (tgt := 18) hC dL_banishBroom_9 (by decide) ?_
    refine m_iconst hC dL_banishBroom_18 ?_
    exact m_iret hC dL_banishBroom_19 hr (Nat.le_of_ble_eq_true rfl) (Nat.le_of_ble_eq_true rfl) (wQ.ok h0 hA ho R2 f2)
theorem kw_L_recallBroom : m_cdW yL_recallBroom cL_recallBroom 4 (some .int) [(0, 9, 12, 23), (0, 9, 15, 15)] 3 := ⟨lwg_of (List.mem_append_right _ (List.mem_of_getElem? (i := 958) (by decide +kernel))) rfl, lwg_of (List.mem_append_right _ (List.mem_of_getElem? (i := 0) (by decide +kernel))) rfl, by decide +kernel, by decide +kernel, by decide +kernel⟩
set_option maxHeartbeats 2000000 in
theorem w_recallBroom {D : va_G} {aC : Nat → ClassId} {s0 : State} {l : Launch} (hF : m_F D aC s0) (hl : l.stackTraces = false) {fo : Nat → Nat} {x w o1 : Nat} {W W2 : gW} {r : Int × Int} {M : m_M} (hN : m_NC s0) (hG : gIn s0.heap.size fo x w W M) (ho : x + 238 ≤ o1 ∧ o1 < w) {f : Nat → Value} (hO : M.2 o1 = some (m_va 3 1 f)) {y1 : Int} (hM : cU D aC s0 l fo x w yX9_recallBroom cX9_recallBroom 2 (some .int) 12 [.ref x, VI y1] M [eI, eS] r W2) : m_MetW D aC s0 l yL_recallBroom cL_recallBroom 4 (some .int) [(0, 9, 12, 23), (0, 9, 15, 15)] 13 470 940 [.ref x, VI y1, .ref o1] M (wQ s0.heap.size fo x w o1 r W2 M) := by
  refine m_entryW (lv := [(0, .ref x), (1, VI y1), (2, .ref o1)]) (by decide +kernel) (Nat.le_of_ble_eq_true rfl) rfl hF hl ?_
  intro p e s m args below meth c hC hr ht
  change m_C D aC s0 RL _ _ _ _ _ _ _ _ _ at hC
  have hox : s0.heap.size ≤ o1 := by have := hG.1.2.2; omega
  refine m_aload_n hC 2 dL_recallBroom_0 rfl rfl ?_
  refine m_iconst hC dL_recallBroom_1 ?_
  refine m_aload_n hC 0 dL_recallBroom_2 rfl rfl ?_
  refine m_iload_n hC 1 dL_recallBroom_3 rfl rfl ?_
  refine m_callV hC hM dL_recallBroom_4 kc_X9_recallBroom kV_L_25 hG.2.1 rfl rfl rfl rfl (Nat.le_of_ble_eq_true rfl) (by decide) ⟨(Nat.le_of_ble_eq_true rfl), (Nat.le_of_ble_eq_true rfl)⟩ (fun E M1 ce q9 H1 locs1 ls h1 hx hH hS hce hcv hcl => ?_) (fun v9 M1 h9 => ?_)
  · obtain ⟨⟨hr1, hEs⟩, hA⟩ := hx
    have hk : r.1 = 1 ∨ r.1 = 2 := by
      have hlt := (List.getElem?_eq_some_iff.mp hEs).1
      simp only [List.length_cons, List.length_nil] at hlt
      omega
    rcases hk with hk | hk
    · rw [hk] at hEs
      have hE : eI = E := Option.some.inj hEs
      subst hE
      refine m_cat hC hN (pre := []) (a := 0) (b := 9) (h := 12) (ct := 23) (suf := [(0, 9, 15, 15)]) (E := eI) ht rfl ct_I (fun y hy => absurd hy List.not_mem_nil) ⟨by decide, by decide⟩ h1 hH hS hce hcv hcl ?_
      refine m_astore_n hC dL_recallBroom_12 rfl (by decide) rfl ?_
      refine m_iconst hC dL_recallBroom_13 ?_
      exact m_iret hC dL_recallBroom_14 hr (Nat.le_of_ble_eq_true rfl) (Nat.le_of_ble_eq_true rfl) (wQ.ex hk (by decide) hA ho hO)
    · rw [hk] at hEs
      have hE : eS = E := Option.some.inj hEs
      subst hE
      refine m_cat hC hN (pre := [(0, 9, 12, 23)]) (a := 0) (b := 9) (h := 15) (ct := 15) (suf := []) (E := eS) ht rfl ct_S (List.forall_mem_cons.mpr ⟨⟨eI, ct_I, by decide⟩, (fun y hy => absurd hy List.not_mem_nil)⟩) ⟨by decide, by decide⟩ h1 hH hS hce hcv hcl ?_
      refine m_astore_n hC dL_recallBroom_15 rfl (by decide) rfl ?_
      refine m_iconst hC dL_recallBroom_16 ?_
      exact m_iret hC dL_recallBroom_17 hr (Nat.le_of_ble_eq_true rfl) (Nat.le_of_ble_eq_true rfl) (wQ.ex hk (by decide) hA ho hO)
  · obtain ⟨h0, rfl, hA⟩ := h9
    have hO1 := (hA.2.2 o1 ho.2 (Or.inr ho.1)).trans hO
    refine m_i2l hC dL_recallBroom_7 ?_
    refine m_last1 hC dL_recallBroom_8 hO1 hox (fun M2 R2 f2 => ?_)
    refine m_goto (tgt := 18) hC dL_recallBroom_9 (by decide) ?_
    refine m_iconst hC dL_recallBroom_18 ?_
    exact m_iret hC dL_recallBroom_19 hr (Nat.le_of_ble_eq_true rfl) (Nat.le_of_ble_eq_true rfl) (wQ.ok h0 hA ho R2 f2)
theorem kw_L_hire : m_cdW yL_hire cL_hire 7 (some .int) [(0, 14, 17, 23), (0, 14, 21, 13), (0, 14, 25, 15), (0, 14, 29, 32)] 6 := ⟨lwg_of (List.mem_append_right _ (List.mem_of_getElem? (i := 969) (by decide +kernel))) rfl, lwg_of (List.mem_append_right _ (List.mem_of_getElem? (i := 0) (by decide +kernel))) rfl, by decide +kernel, by decide +kernel, by decide +kernel⟩
set_option maxHeartbeats 2000000 in
theorem w_hire {D : va_G} {aC : Nat → ClassId} {s0 : State} {l : Launch} (hF : m_F D aC s0) (hl : l.stackTraces = false) {fo : Nat → Nat} {x w o1 : Nat} {W W2 : gW} {r : Int × Int} {M : m_M} (hN : m_NC s0) (hG : gIn s0.heap.size fo x w W M) (ho : x + 238 ≤ o1 ∧ o1 < w) {f : Nat → Value} (hO : M.2 o1 = some (m_va 3 1 f)) {y1 : Int} {y2 : Int} {y3 : Int} {y4 : Int} (hM : cU D aC s0 l fo x w yX9_hire cX9_hire 5 (some .int) 12 [.ref x, VI y1, VI y2, VI y3, VI y4] M [eI, eA, eS, eU] r W2) : m_MetW D aC s0 l yL_hire cL_hire 7 (some .int) [(0, 14, 17, 23), (0, 14, 21, 13), (0, 14, 25, 15), (0, 14, 29, 32)] 13 470 940 [.ref x, VI y1, VI y2, VI y3, VI y4, .ref o1] M (wQ s0.heap.size fo x w o1 r W2 M) := by
  refine m_entryW (lv := [(0, .ref x), (1, VI y1), (2, VI y2), (3, VI y3), (4, VI y4), (5, .ref o1)]) (by decide +kernel) (Nat.le_of_ble_eq_true rfl) rfl hF hl ?_
  intro p e s m args below meth c hC hr ht
  change m_C D aC s0 RL _ _ _ _ _ _ _ _ _ at hC
  have hox : s0.heap.size ≤ o1 := by have := hG.1.2.2; omega
  refine m_aload hC 5 dL_hire_0 rfl ?_
  refine m_iconst hC dL_hire_2 ?_
  refine m_aload_n hC 0 dL_hire_3 rfl rfl ?_
  refine m_iload_n hC 1 dL_hire_4 rfl rfl ?_
  refine m_iload_n hC 2 dL_hire_5 rfl rfl ?_
  refine m_iload_n hC 3 dL_hire_6 rfl rfl ?_
  refine m_iload hC 4 dL_hire_7 rfl ?_
  refine m_callV hC hM dL_hire_9 kc_X9_hire kV_L_28 hG.2.1 rfl rfl rfl rfl (Nat.le_of_ble_eq_true rfl) (by decide) ⟨(Nat.le_of_ble_eq_true rfl), (Nat.le_of_ble_eq_true rfl)⟩ (fun E M1 ce q9 H1 locs1 ls h1 hx hH hS hce hcv hcl => ?_) (fun v9 M1 h9 => ?_)
  · obtain ⟨⟨hr1, hEs⟩, hA⟩ := hx
    have hk : r.1 = 1 ∨ r.1 = 2 ∨ r.1 = 3 ∨ r.1 = 4 := by
      have hlt := (List.getElem?_eq_some_iff.mp hEs).1
      simp only [List.length_cons, List.length_nil] at hlt
      omega
    rcases hk with hk | hk | hk | hk
    · rw [hk] at hEs
      have hE : eI = E := Option.some.inj hEs
      subst hE
      refine m_cat hC hN (pre := []) (a := 0) (b := 14) (h := 17) (ct := 23) (suf := [(0, 14, 21, 13), (0, 14, 25, 15), (0, 14, 29, 32)]) (E := eI) ht rfl ct_I (fun y hy => absurd hy List.not_mem_nil) ⟨by decide, by decide⟩ h1 hH hS hce hcv hcl ?_
      refine m_astore hC dL_hire_17 (by decide) rfl ?_
      refine m_iconst hC dL_hire_19 ?_
      exact m_iret hC dL_hire_20 hr (Nat.le_of_ble_eq_true rfl) (Nat.le_of_ble_eq_true rfl) (wQ.ex hk (by decide) hA ho hO)
    · rw [hk] at hEs
      have hE : eA = E := Option.some.inj hEs
      subst hE
      refine m_cat hC hN (pre := [(0, 14, 17, 23)]) (a := 0) (b := 14) (h := 21) (ct := 13) (suf := [(0, 14, 25, 15), (0, 14, 29, 32)]) (E := eA) ht rfl ct_A (List.forall_mem_cons.mpr ⟨⟨eI, ct_I, by decide⟩, (fun y hy => absurd hy List.not_mem_nil)⟩) ⟨by decide, by decide⟩ h1 hH hS hce hcv hcl ?_
      refine m_astore hC dL_hire_21 (by decide) rfl ?_
      refine m_iconst hC dL_hire_23 ?_
      exact m_iret hC dL_hire_24 hr (Nat.le_of_ble_eq_true rfl) (Nat.le_of_ble_eq_true rfl) (wQ.ex hk (by decide) hA ho hO)
    · rw [hk] at hEs
      have hE : eS = E := Option.some.inj hEs
      subst hE
      refine m_cat hC hN (pre := [(0, 14, 17, 23), (0, 14, 21, 13)]) (a := 0) (b := 14) (h := 25) (ct := 15) (suf := [(0, 14, 29, 32)]) (E := eS) ht rfl ct_S (List.forall_mem_cons.mpr ⟨⟨eI, ct_I, by decide⟩, (List.forall_mem_cons.mpr ⟨⟨eA, ct_A, by decide⟩, (fun y hy => absurd hy List.not_mem_nil)⟩)⟩) ⟨by decide, by decide⟩ h1 hH hS hce hcv hcl ?_
      refine m_astore hC dL_hire_25 (by decide) rfl ?_
      refine m_iconst hC dL_hire_27 ?_
      exact m_iret hC dL_hire_28 hr (Nat.le_of_ble_eq_true rfl) (Nat.le_of_ble_eq_true rfl) (wQ.ex hk (by decide) hA ho hO)
    · rw [hk] at hEs
      have hE : eU = E := Option.some.inj hEs
      subst hE
      refine m_cat hC hN (pre := [(0, 14, 17, 23), (0, 14, 21, 13), (0, 14, 25, 15)]) (a := 0) (b := 14) (h := 29) (ct := 32) (suf := []) (E := eU) ht rfl ct_U (List.forall_mem_cons.mpr ⟨⟨eI, ct_I, by decide⟩, (List.forall_mem_cons.mpr ⟨⟨eA, ct_A, by decide⟩, (List.forall_mem_cons.mpr ⟨⟨eS, ct_S, by decide⟩, (fun y hy => absurd hy List.not_mem_nil)⟩)⟩)⟩) ⟨by decide, by decide⟩ h1 hH hS hce hcv hcl ?_
      refine m_astore hC dL_hire_29 (by decide) rfl ?_
      refine m_iconst hC dL_hire_31 ?_
      exact m_iret hC dL_hire_32 hr (Nat.le_of_ble_eq_true rfl) (Nat.le_of_ble_eq_true rfl) (wQ.ex hk (by decide) hA ho hO)
  · obtain ⟨h0, rfl, hA⟩ := h9
    have hO1 := (hA.2.2 o1 ho.2 (Or.inr ho.1)).trans hO
    refine m_i2l hC dL_hire_12 ?_
    refine m_last1 hC dL_hire_13 hO1 hox (fun M2 R2 f2 => ?_)
    refine m_goto (tgt := 33) hC dL_hire_14 (by decide) ?_
    refine m_iconst hC dL_hire_33 ?_
    exact m_iret hC dL_hire_34 hr (Nat.le_of_ble_eq_true rfl) (Nat.le_of_ble_eq_true rfl) (wQ.ok h0 hA ho R2 f2)
theorem kw_L_cancelContract : m_cdW yL_cancelContract cL_cancelContract 4 (some .int) [(0, 9, 12, 37)] 3 := ⟨lwg_of (List.mem_append_right _ (List.mem_of_getElem? (i := 986) (by decide +kernel))) rfl, lwg_of (List.mem_append_right _ (List.mem_of_getElem? (i := 0) (by decide +kernel))) rfl, by decide +kernel, by decide +kernel, by decide +kernel⟩
set_option maxHeartbeats 2000000 in
theorem w_cancelContract {D : va_G} {aC : Nat → ClassId} {s0 : State} {l : Launch} (hF : m_F D aC s0) (hl : l.stackTraces = false) {fo : Nat → Nat} {x w o1 : Nat} {W W2 : gW} {r : Int × Int} {M : m_M} (hN : m_NC s0) (hG : gIn s0.heap.size fo x w W M) (ho : x + 238 ≤ o1 ∧ o1 < w) {f : Nat → Value} (hO : M.2 o1 = some (m_va 3 1 f)) {y1 : Int} (hM : cU D aC s0 l fo x w yX9_cancelContract cX9_cancelContract 2 (some .int) 12 [.ref x, VI y1] M [eN] r W2) : m_MetW D aC s0 l yL_cancelContract cL_cancelContract 4 (some .int) [(0, 9, 12, 37)] 13 470 940 [.ref x, VI y1, .ref o1] M (wQ s0.heap.size fo x w o1 r W2 M) := by
  refine m_entryW (lv := [(0, .ref x), (1, VI y1), (2, .ref o1)]) (by decide +kernel) (Nat.le_of_ble_eq_true rfl) rfl hF hl ?_
  intro p e s m args below meth c hC hr ht
  change m_C D aC s0 RL _ _ _ _ _ _ _ _ _ at hC
  have hox : s0.heap.size ≤ o1 := by have := hG.1.2.2; omega
  refine m_aload_n hC 2 dL_cancelContract_0 rfl rfl ?_
  refine m_iconst hC dL_cancelContract_1 ?_
  refine m_aload_n hC 0 dL_cancelContract_2 rfl rfl ?_
  refine m_iload_n hC 1 dL_cancelContract_3 rfl rfl ?_
  refine m_callV hC hM dL_cancelContract_4 kc_X9_cancelContract kV_L_34 hG.2.1 rfl rfl rfl rfl (Nat.le_of_ble_eq_true rfl) (by decide) ⟨(Nat.le_of_ble_eq_true rfl), (Nat.le_of_ble_eq_true rfl)⟩ (fun E M1 ce q9 H1 locs1 ls h1 hx hH hS hce hcv hcl => ?_) (fun v9 M1 h9 => ?_)
  · obtain ⟨⟨hr1, hEs⟩, hA⟩ := hx
    have hk : r.1 = 1 := by
      have hlt := (List.getElem?_eq_some_iff.mp hEs).1
      simp only [List.length_cons, List.length_nil] at hlt
      omega
    rw [hk] at hEs
    have hE : eN = E := Option.some.inj hEs
    subst hE
    refine m_cat hC hN (pre := []) (a := 0) (b := 9) (h := 12) (ct := 37) (suf := []) (E := eN) ht rfl ct_N (fun y hy => absurd hy List.not_mem_nil) ⟨by decide, by decide⟩ h1 hH hS hce hcv hcl ?_
    refine m_astore_n hC dL_cancelContract_12 rfl (by decide) rfl ?_
    refine m_iconst hC dL_cancelContract_13 ?_
    exact m_iret hC dL_cancelContract_14 hr (Nat.le_of_ble_eq_true rfl) (Nat.le_of_ble_eq_true rfl) (wQ.ex hk (by decide) hA ho hO)
  · obtain ⟨h0, rfl, hA⟩ := h9
    have hO1 := (hA.2.2 o1 ho.2 (Or.inr ho.1)).trans hO
    refine m_i2l hC dL_cancelContract_7 ?_
    refine m_last1 hC dL_cancelContract_8 hO1 hox (fun M2 R2 f2 => ?_)
    refine m_goto (tgt := 15) hC dL_cancelContract_9 (by decide) ?_
    refine m_iconst hC dL_cancelContract_15 ?_
    exact m_iret hC dL_cancelContract_16 hr (Nat.le_of_ble_eq_true rfl) (Nat.le_of_ble_eq_true rfl) (wQ.ok h0 hA ho R2 f2)
theorem kw_L_rest : m_cdW yL_rest cL_rest 4 (some .int) [(0, 9, 12, 23), (0, 9, 15, 15)] 3 := ⟨lwg_of (List.mem_append_right _ (List.mem_of_getElem? (i := 1007) (by decide +kernel))) rfl, lwg_of (List.mem_append_right _ (List.mem_of_getElem? (i := 0) (by decide +kernel))) rfl, by decide +kernel, by decide +kernel, by decide +kernel⟩
set_option maxHeartbeats 2000000 in
theorem w_rest {D : va_G} {aC : Nat → ClassId} {s0 : State} {l : Launch} (hF : m_F D aC s0) (hl : l.stackTraces = false) {fo : Nat → Nat} {x w o1 : Nat} {W W2 : gW} {r : Int × Int} {M : m_M} (hN : m_NC s0) (hG : gIn s0.heap.size fo x w W M) (ho : x + 238 ≤ o1 ∧ o1 < w) {f : Nat → Value} (hO : M.2 o1 = some (m_va 3 1 f)) {y1 : Int} (hM : cU D aC s0 l fo x w yX9_rest cX9_rest 2 (some .int) 12 [.ref x, VI y1] M [eI, eS] r W2) : m_MetW D aC s0 l yL_rest cL_rest 4 (some .int) [(0, 9, 12, 23), (0, 9, 15, 15)] 13 470 940 [.ref x, VI y1, .ref o1] M (wQ s0.heap.size fo x w o1 r W2 M) := by
  refine m_entryW (lv := [(0, .ref x), (1, VI y1), (2, .ref o1)]) (by decide +kernel) (Nat.le_of_ble_eq_true rfl) rfl hF hl ?_
  intro p e s m args below meth c hC hr ht
  change m_C D aC s0 RL _ _ _ _ _ _ _ _ _ at hC
  have hox : s0.heap.size ≤ o1 := by have := hG.1.2.2; omega
  refine m_aload_n hC 2 dL_rest_0 rfl rfl ?_
  refine m_iconst hC dL_rest_1 ?_
  refine m_aload_n hC 0 dL_rest_2 rfl rfl ?_
  refine m_iload_n hC 1 dL_rest_3 rfl rfl ?_
  refine m_callV hC hM dL_rest_4 kc_X9_rest kV_L_39 hG.2.1 rfl rfl rfl rfl (Nat.le_of_ble_eq_true rfl) (by decide) ⟨(Nat.le_of_ble_eq_true rfl), (Nat.le_of_ble_eq_true rfl)⟩ (fun E M1 ce q9 H1 locs1 ls h1 hx hH hS hce hcv hcl => ?_) (fun v9 M1 h9 => ?_)
  · obtain ⟨⟨hr1, hEs⟩, hA⟩ := hx
    have hk : r.1 = 1 ∨ r.1 = 2 := by
      have hlt := (List.getElem?_eq_some_iff.mp hEs).1
      simp only [List.length_cons, List.length_nil] at hlt
      omega
    rcases hk with hk | hk
    · rw [hk] at hEs
      have hE : eI = E := Option.some.inj hEs
      subst hE
      refine m_cat hC hN (pre := []) (a := 0) (b := 9) (h := 12) (ct := 23) (suf := [(0, 9, 15, 15)]) (E := eI) ht rfl ct_I (fun y hy => absurd hy List.not_mem_nil) ⟨by decide, by decide⟩ h1 hH hS hce hcv hcl ?_
      refine m_astore_n hC dL_rest_12 rfl (by decide) rfl ?_
      refine m_iconst hC dL_rest_13 ?_
      exact m_iret hC dL_rest_14 hr (Nat.le_of_ble_eq_true rfl) (Nat.le_of_ble_eq_true rfl) (wQ.ex hk (by decide) hA ho hO)
    · rw [hk] at hEs
      have hE : eS = E := Option.some.inj hEs
      subst hE
      refine m_cat hC hN (pre := [(0, 9, 12, 23)]) (a := 0) (b := 9) (h := 15) (ct := 15) (suf := []) (E := eS) ht rfl ct_S (List.forall_mem_cons.mpr ⟨⟨eI, ct_I, by decide⟩, (fun y hy => absurd hy List.not_mem_nil)⟩) ⟨by decide, by decide⟩ h1 hH hS hce hcv hcl ?_
      refine m_astore_n hC dL_rest_15 rfl (by decide) rfl ?_
      refine m_iconst hC dL_rest_16 ?_
      exact m_iret hC dL_rest_17 hr (Nat.le_of_ble_eq_true rfl) (Nat.le_of_ble_eq_true rfl) (wQ.ex hk (by decide) hA ho hO)
  · obtain ⟨h0, rfl, hA⟩ := h9
    have hO1 := (hA.2.2 o1 ho.2 (Or.inr ho.1)).trans hO
    refine m_i2l hC dL_rest_7 ?_
    refine m_last1 hC dL_rest_8 hO1 hox (fun M2 R2 f2 => ?_)
    refine m_goto (tgt := 18) hC dL_rest_9 (by decide) ?_
    refine m_iconst hC dL_rest_18 ?_
    exact m_iret hC dL_rest_19 hr (Nat.le_of_ble_eq_true rfl) (Nat.le_of_ble_eq_true rfl) (wQ.ok h0 hA ho R2 f2)
theorem kw_L_wake : m_cdW yL_wake cL_wake 4 (some .int) [(0, 9, 12, 23), (0, 9, 15, 15)] 3 := ⟨lwg_of (List.mem_append_right _ (List.mem_of_getElem? (i := 1022) (by decide +kernel))) rfl, lwg_of (List.mem_append_right _ (List.mem_of_getElem? (i := 0) (by decide +kernel))) rfl, by decide +kernel, by decide +kernel, by decide +kernel⟩
set_option maxHeartbeats 2000000 in
theorem w_wake {D : va_G} {aC : Nat → ClassId} {s0 : State} {l : Launch} (hF : m_F D aC s0) (hl : l.stackTraces = false) {fo : Nat → Nat} {x w o1 : Nat} {W W2 : gW} {r : Int × Int} {M : m_M} (hN : m_NC s0) (hG : gIn s0.heap.size fo x w W M) (ho : x + 238 ≤ o1 ∧ o1 < w) {f : Nat → Value} (hO : M.2 o1 = some (m_va 3 1 f)) {y1 : Int} (hM : cU D aC s0 l fo x w yX9_wake cX9_wake 2 (some .int) 12 [.ref x, VI y1] M [eI, eS] r W2) : m_MetW D aC s0 l yL_wake cL_wake 4 (some .int) [(0, 9, 12, 23), (0, 9, 15, 15)] 13 470 940 [.ref x, VI y1, .ref o1] M (wQ s0.heap.size fo x w o1 r W2 M) := by
  refine m_entryW (lv := [(0, .ref x), (1, VI y1), (2, .ref o1)]) (by decide +kernel) (Nat.le_of_ble_eq_true rfl) rfl hF hl ?_
  intro p e s m args below meth c hC hr ht
  change m_C D aC s0 RL _ _ _ _ _ _ _ _ _ at hC
  have hox : s0.heap.size ≤ o1 := by have := hG.1.2.2; omega
  refine m_aload_n hC 2 dL_wake_0 rfl rfl ?_
  refine m_iconst hC dL_wake_1 ?_
  refine m_aload_n hC 0 dL_wake_2 rfl rfl ?_
  refine m_iload_n hC 1 dL_wake_3 rfl rfl ?_
  refine m_callV hC hM dL_wake_4 kc_X9_wake kV_L_42 hG.2.1 rfl rfl rfl rfl (Nat.le_of_ble_eq_true rfl) (by decide) ⟨(Nat.le_of_ble_eq_true rfl), (Nat.le_of_ble_eq_true rfl)⟩ (fun E M1 ce q9 H1 locs1 ls h1 hx hH hS hce hcv hcl => ?_) (fun v9 M1 h9 => ?_)
  · obtain ⟨⟨hr1, hEs⟩, hA⟩ := hx
    have hk : r.1 = 1 ∨ r.1 = 2 := by
      have hlt := (List.getElem?_eq_some_iff.mp hEs).1
      simp only [List.length_cons, List.length_nil] at hlt
      omega
    rcases hk with hk | hk
    · rw [hk] at hEs
      have hE : eI = E := Option.some.inj hEs
      subst hE
      refine m_cat hC hN (pre := []) (a := 0) (b := 9) (h := 12) (ct := 23) (suf := [(0, 9, 15, 15)]) (E := eI) ht rfl ct_I (fun y hy => absurd hy List.not_mem_nil) ⟨by decide, by decide⟩ h1 hH hS hce hcv hcl ?_
      refine m_astore_n hC dL_wake_12 rfl (by decide) rfl ?_
      refine m_iconst hC dL_wake_13 ?_
      exact m_iret hC dL_wake_14 hr (Nat.le_of_ble_eq_true rfl) (Nat.le_of_ble_eq_true rfl) (wQ.ex hk (by decide) hA ho hO)
    · rw [hk] at hEs
      have hE : eS = E := Option.some.inj hEs
      subst hE
      refine m_cat hC hN (pre := [(0, 9, 12, 23)]) (a := 0) (b := 9) (h := 15) (ct := 15) (suf := []) (E := eS) ht rfl ct_S (List.forall_mem_cons.mpr ⟨⟨eI, ct_I, by decide⟩, (fun y hy => absurd hy List.not_mem_nil)⟩) ⟨by decide, by decide⟩ h1 hH hS hce hcv hcl ?_
      refine m_astore_n hC dL_wake_15 rfl (by decide) rfl ?_
      refine m_iconst hC dL_wake_16 ?_
      exact m_iret hC dL_wake_17 hr (Nat.le_of_ble_eq_true rfl) (Nat.le_of_ble_eq_true rfl) (wQ.ex hk (by decide) hA ho hO)
  · obtain ⟨h0, rfl, hA⟩ := h9
    have hO1 := (hA.2.2 o1 ho.2 (Or.inr ho.1)).trans hO
    refine m_i2l hC dL_wake_7 ?_
    refine m_last1 hC dL_wake_8 hO1 hox (fun M2 R2 f2 => ?_)
    refine m_goto (tgt := 18) hC dL_wake_9 (by decide) ?_
    refine m_iconst hC dL_wake_18 ?_
    exact m_iret hC dL_wake_19 hr (Nat.le_of_ble_eq_true rfl) (Nat.le_of_ble_eq_true rfl) (wQ.ok h0 hA ho R2 f2)
theorem kw_L_lend : m_cdW yL_lend cL_lend 5 (some .int) [(0, 10, 13, 23), (0, 10, 17, 13), (0, 10, 21, 32)] 4 := ⟨lwg_of (List.mem_append_right _ (List.mem_of_getElem? (i := 1033) (by decide +kernel))) rfl, lwg_of (List.mem_append_right _ (List.mem_of_getElem? (i := 0) (by decide +kernel))) rfl, by decide +kernel, by decide +kernel, by decide +kernel⟩
set_option maxHeartbeats 2000000 in
theorem w_lend {D : va_G} {aC : Nat → ClassId} {s0 : State} {l : Launch} (hF : m_F D aC s0) (hl : l.stackTraces = false) {fo : Nat → Nat} {x w o1 : Nat} {W W2 : gW} {r : Int × Int} {M : m_M} (hN : m_NC s0) (hG : gIn s0.heap.size fo x w W M) (ho : x + 238 ≤ o1 ∧ o1 < w) {f : Nat → Value} (hO : M.2 o1 = some (m_va 3 1 f)) {y1 : Int} {y2 : Int} (hM : cU D aC s0 l fo x w yX9_lend cX9_lend 3 (some .int) 12 [.ref x, VI y1, VI y2] M [eI, eA, eU] r W2) : m_MetW D aC s0 l yL_lend cL_lend 5 (some .int) [(0, 10, 13, 23), (0, 10, 17, 13), (0, 10, 21, 32)] 13 470 940 [.ref x, VI y1, VI y2, .ref o1] M (wQ s0.heap.size fo x w o1 r W2 M) := by
  refine m_entryW (lv := [(0, .ref x), (1, VI y1), (2, VI y2), (3, .ref o1)]) (by decide +kernel) (Nat.le_of_ble_eq_true rfl) rfl hF hl ?_
  intro p e s m args below meth c hC hr ht
  change m_C D aC s0 RL _ _ _ _ _ _ _ _ _ at hC
  have hox : s0.heap.size ≤ o1 := by have := hG.1.2.2; omega
  refine m_aload_n hC 3 dL_lend_0 rfl rfl ?_
  refine m_iconst hC dL_lend_1 ?_
  refine m_aload_n hC 0 dL_lend_2 rfl rfl ?_
  refine m_iload_n hC 1 dL_lend_3 rfl rfl ?_
  refine m_iload_n hC 2 dL_lend_4 rfl rfl ?_
  refine m_callV hC hM dL_lend_5 kc_X9_lend kV_L_45 hG.2.1 rfl rfl rfl rfl (Nat.le_of_ble_eq_true rfl) (by decide) ⟨(Nat.le_of_ble_eq_true rfl), (Nat.le_of_ble_eq_true rfl)⟩ (fun E M1 ce q9 H1 locs1 ls h1 hx hH hS hce hcv hcl => ?_) (fun v9 M1 h9 => ?_)
  · obtain ⟨⟨hr1, hEs⟩, hA⟩ := hx
    have hk : r.1 = 1 ∨ r.1 = 2 ∨ r.1 = 3 := by
      have hlt := (List.getElem?_eq_some_iff.mp hEs).1
      simp only [List.length_cons, List.length_nil] at hlt
      omega
    rcases hk with hk | hk | hk
    · rw [hk] at hEs
      have hE : eI = E := Option.some.inj hEs
      subst hE
      refine m_cat hC hN (pre := []) (a := 0) (b := 10) (h := 13) (ct := 23) (suf := [(0, 10, 17, 13), (0, 10, 21, 32)]) (E := eI) ht rfl ct_I (fun y hy => absurd hy List.not_mem_nil) ⟨by decide, by decide⟩ h1 hH hS hce hcv hcl ?_
      refine m_astore hC dL_lend_13 (by decide) rfl ?_
      refine m_iconst hC dL_lend_15 ?_
      exact m_iret hC dL_lend_16 hr (Nat.le_of_ble_eq_true rfl) (Nat.le_of_ble_eq_true rfl) (wQ.ex hk (by decide) hA ho hO)
    · rw [hk] at hEs
      have hE : eA = E := Option.some.inj hEs
      subst hE
      refine m_cat hC hN (pre := [(0, 10, 13, 23)]) (a := 0) (b := 10) (h := 17) (ct := 13) (suf := [(0, 10, 21, 32)]) (E := eA) ht rfl ct_A (List.forall_mem_cons.mpr ⟨⟨eI, ct_I, by decide⟩, (fun y hy => absurd hy List.not_mem_nil)⟩) ⟨by decide, by decide⟩ h1 hH hS hce hcv hcl ?_
      refine m_astore hC dL_lend_17 (by decide) rfl ?_
      refine m_iconst hC dL_lend_19 ?_
      exact m_iret hC dL_lend_20 hr (Nat.le_of_ble_eq_true rfl) (Nat.le_of_ble_eq_true rfl) (wQ.ex hk (by decide) hA ho hO)
    · rw [hk] at hEs
      have hE : eU = E := Option.some.inj hEs
      subst hE
      refine m_cat hC hN (pre := [(0, 10, 13, 23), (0, 10, 17, 13)]) (a := 0) (b := 10) (h := 21) (ct := 32) (suf := []) (E := eU) ht rfl ct_U (List.forall_mem_cons.mpr ⟨⟨eI, ct_I, by decide⟩, (List.forall_mem_cons.mpr ⟨⟨eA, ct_A, by decide⟩, (fun y hy => absurd hy List.not_mem_nil)⟩)⟩) ⟨by decide, by decide⟩ h1 hH hS hce hcv hcl ?_
      refine m_astore hC dL_lend_21 (by decide) rfl ?_
      refine m_iconst hC dL_lend_23 ?_
      exact m_iret hC dL_lend_24 hr (Nat.le_of_ble_eq_true rfl) (Nat.le_of_ble_eq_true rfl) (wQ.ex hk (by decide) hA ho hO)
  · obtain ⟨h0, rfl, hA⟩ := h9
    have hO1 := (hA.2.2 o1 ho.2 (Or.inr ho.1)).trans hO
    refine m_i2l hC dL_lend_8 ?_
    refine m_last1 hC dL_lend_9 hO1 hox (fun M2 R2 f2 => ?_)
    refine m_goto (tgt := 25) hC dL_lend_10 (by decide) ?_
    refine m_iconst hC dL_lend_25 ?_
    exact m_iret hC dL_lend_26 hr (Nat.le_of_ble_eq_true rfl) (Nat.le_of_ble_eq_true rfl) (wQ.ok h0 hA ho R2 f2)
theorem kw_L_fund : m_cdW yL_fund cL_fund 4 (some .int) [(0, 9, 12, 13)] 3 := ⟨lwg_of (List.mem_append_right _ (List.mem_of_getElem? (i := 1044) (by decide +kernel))) rfl, lwg_of (List.mem_append_right _ (List.mem_of_getElem? (i := 0) (by decide +kernel))) rfl, by decide +kernel, by decide +kernel, by decide +kernel⟩
set_option maxHeartbeats 2000000 in
theorem w_fund {D : va_G} {aC : Nat → ClassId} {s0 : State} {l : Launch} (hF : m_F D aC s0) (hl : l.stackTraces = false) {fo : Nat → Nat} {x w o1 : Nat} {W W2 : gW} {r : Int × Int} {M : m_M} (hN : m_NC s0) (hG : gIn s0.heap.size fo x w W M) (ho : x + 238 ≤ o1 ∧ o1 < w) {f : Nat → Value} (hO : M.2 o1 = some (m_va 3 1 f)) {y1 : Int} (hM : cU D aC s0 l fo x w yX9_fund cX9_fund 2 (some .int) 12 [.ref x, VI y1] M [eA] r W2) : m_MetW D aC s0 l yL_fund cL_fund 4 (some .int) [(0, 9, 12, 13)] 13 470 940 [.ref x, VI y1, .ref o1] M (wQ s0.heap.size fo x w o1 r W2 M) := by
  refine m_entryW (lv := [(0, .ref x), (1, VI y1), (2, .ref o1)]) (by decide +kernel) (Nat.le_of_ble_eq_true rfl) rfl hF hl ?_
  intro p e s m args below meth c hC hr ht
  change m_C D aC s0 RL _ _ _ _ _ _ _ _ _ at hC
  have hox : s0.heap.size ≤ o1 := by have := hG.1.2.2; omega
  refine m_aload_n hC 2 dL_fund_0 rfl rfl ?_
  refine m_iconst hC dL_fund_1 ?_
  refine m_aload_n hC 0 dL_fund_2 rfl rfl ?_
  refine m_iload_n hC 1 dL_fund_3 rfl rfl ?_
  refine m_callV hC hM dL_fund_4 kc_X9_fund kV_L_49 hG.2.1 rfl rfl rfl rfl (Nat.le_of_ble_eq_true rfl) (by decide) ⟨(Nat.le_of_ble_eq_true rfl), (Nat.le_of_ble_eq_true rfl)⟩ (fun E M1 ce q9 H1 locs1 ls h1 hx hH hS hce hcv hcl => ?_) (fun v9 M1 h9 => ?_)
  · obtain ⟨⟨hr1, hEs⟩, hA⟩ := hx
    have hk : r.1 = 1 := by
      have hlt := (List.getElem?_eq_some_iff.mp hEs).1
      simp only [List.length_cons, List.length_nil] at hlt
      omega
    rw [hk] at hEs
    have hE : eA = E := Option.some.inj hEs
    subst hE
    refine m_cat hC hN (pre := []) (a := 0) (b := 9) (h := 12) (ct := 13) (suf := []) (E := eA) ht rfl ct_A (fun y hy => absurd hy List.not_mem_nil) ⟨by decide, by decide⟩ h1 hH hS hce hcv hcl ?_
    refine m_astore_n hC dL_fund_12 rfl (by decide) rfl ?_
    refine m_iconst hC dL_fund_13 ?_
    exact m_iret hC dL_fund_14 hr (Nat.le_of_ble_eq_true rfl) (Nat.le_of_ble_eq_true rfl) (wQ.ex hk (by decide) hA ho hO)
  · obtain ⟨h0, rfl, hA⟩ := h9
    have hO1 := (hA.2.2 o1 ho.2 (Or.inr ho.1)).trans hO
    refine m_i2l hC dL_fund_7 ?_
    refine m_last1 hC dL_fund_8 hO1 hox (fun M2 R2 f2 => ?_)
    refine m_goto (tgt := 15) hC dL_fund_9 (by decide) ?_
    refine m_iconst hC dL_fund_15 ?_
    exact m_iret hC dL_fund_16 hr (Nat.le_of_ble_eq_true rfl) (Nat.le_of_ble_eq_true rfl) (wQ.ok h0 hA ho R2 f2)
theorem kw_L_spend : m_cdW yL_spend cL_spend 4 (some .int) [(0, 9, 12, 13), (0, 9, 15, 32)] 3 := ⟨lwg_of (List.mem_append_right _ (List.mem_of_getElem? (i := 1055) (by decide +kernel))) rfl, lwg_of (List.mem_append_right _ (List.mem_of_getElem? (i := 0) (by decide +kernel))) rfl, by decide +kernel, by decide +kernel, by decide +kernel⟩
set_option maxHeartbeats 2000000 in
theorem w_spend {D : va_G} {aC : Nat → ClassId} {s0 : State} {l : Launch} (hF : m_F D aC s0) (hl : l.stackTraces = false) {fo : Nat → Nat} {x w o1 : Nat} {W W2 : gW} {r : Int × Int} {M : m_M} (hN : m_NC s0) (hG : gIn s0.heap.size fo x w W M) (ho : x + 238 ≤ o1 ∧ o1 < w) {f : Nat → Value} (hO : M.2 o1 = some (m_va 3 1 f)) {y1 : Int} (hM : cU D aC s0 l fo x w yX9_spend cX9_spend 2 (some .int) 12 [.ref x, VI y1] M [eA, eU] r W2) : m_MetW D aC s0 l yL_spend cL_spend 4 (some .int) [(0, 9, 12, 13), (0, 9, 15, 32)] 13 470 940 [.ref x, VI y1, .ref o1] M (wQ s0.heap.size fo x w o1 r W2 M) := by
  refine m_entryW (lv := [(0, .ref x), (1, VI y1), (2, .ref o1)]) (by decide +kernel) (Nat.le_of_ble_eq_true rfl) rfl hF hl ?_
  intro p e s m args below meth c hC hr ht
  change m_C D aC s0 RL _ _ _ _ _ _ _ _ _ at hC
  have hox : s0.heap.size ≤ o1 := by have := hG.1.2.2; omega
  refine m_aload_n hC 2 dL_spend_0 rfl rfl ?_
  refine m_iconst hC dL_spend_1 ?_
  refine m_aload_n hC 0 dL_spend_2 rfl rfl ?_
  refine m_iload_n hC 1 dL_spend_3 rfl rfl ?_
  refine m_callV hC hM dL_spend_4 kc_X9_spend kV_L_52 hG.2.1 rfl rfl rfl rfl (Nat.le_of_ble_eq_true rfl) (by decide) ⟨(Nat.le_of_ble_eq_true rfl), (Nat.le_of_ble_eq_true rfl)⟩ (fun E M1 ce q9 H1 locs1 ls h1 hx hH hS hce hcv hcl => ?_) (fun v9 M1 h9 => ?_)
  · obtain ⟨⟨hr1, hEs⟩, hA⟩ := hx
    have hk : r.1 = 1 ∨ r.1 = 2 := by
      have hlt := (List.getElem?_eq_some_iff.mp hEs).1
      simp only [List.length_cons, List.length_nil] at hlt
      omega
    rcases hk with hk | hk
    · rw [hk] at hEs
      have hE : eA = E := Option.some.inj hEs
      subst hE
      refine m_cat hC hN (pre := []) (a := 0) (b := 9) (h := 12) (ct := 13) (suf := [(0, 9, 15, 32)]) (E := eA) ht rfl ct_A (fun y hy => absurd hy List.not_mem_nil) ⟨by decide, by decide⟩ h1 hH hS hce hcv hcl ?_
      refine m_astore_n hC dL_spend_12 rfl (by decide) rfl ?_
      refine m_iconst hC dL_spend_13 ?_
      exact m_iret hC dL_spend_14 hr (Nat.le_of_ble_eq_true rfl) (Nat.le_of_ble_eq_true rfl) (wQ.ex hk (by decide) hA ho hO)
    · rw [hk] at hEs
      have hE : eU = E := Option.some.inj hEs
      subst hE
      refine m_cat hC hN (pre := [(0, 9, 12, 13)]) (a := 0) (b := 9) (h := 15) (ct := 32) (suf := []) (E := eU) ht rfl ct_U (List.forall_mem_cons.mpr ⟨⟨eA, ct_A, by decide⟩, (fun y hy => absurd hy List.not_mem_nil)⟩) ⟨by decide, by decide⟩ h1 hH hS hce hcv hcl ?_
      refine m_astore_n hC dL_spend_15 rfl (by decide) rfl ?_
      refine m_iconst hC dL_spend_16 ?_
      exact m_iret hC dL_spend_17 hr (Nat.le_of_ble_eq_true rfl) (Nat.le_of_ble_eq_true rfl) (wQ.ex hk (by decide) hA ho hO)
  · obtain ⟨h0, rfl, hA⟩ := h9
    have hO1 := (hA.2.2 o1 ho.2 (Or.inr ho.1)).trans hO
    refine m_i2l hC dL_spend_7 ?_
    refine m_last1 hC dL_spend_8 hO1 hox (fun M2 R2 f2 => ?_)
    refine m_goto (tgt := 18) hC dL_spend_9 (by decide) ?_
    refine m_iconst hC dL_spend_18 ?_
    exact m_iret hC dL_spend_19 hr (Nat.le_of_ble_eq_true rfl) (Nat.le_of_ble_eq_true rfl) (wQ.ok h0 hA ho R2 f2)
theorem kw_L_passNights : m_cdW yL_passNights cL_passNights 4 (some .int) [(0, 9, 12, 13)] 3 := ⟨lwg_of (List.mem_append_right _ (List.mem_of_getElem? (i := 1066) (by decide +kernel))) rfl, lwg_of (List.mem_append_right _ (List.mem_of_getElem? (i := 0) (by decide +kernel))) rfl, by decide +kernel, by decide +kernel, by decide +kernel⟩
set_option maxHeartbeats 2000000 in
theorem w_passNights {D : va_G} {aC : Nat → ClassId} {s0 : State} {l : Launch} (hF : m_F D aC s0) (hl : l.stackTraces = false) {fo : Nat → Nat} {x w o1 : Nat} {W W2 : gW} {r : Int × Int} {M : m_M} (hN : m_NC s0) (hG : gIn s0.heap.size fo x w W M) (ho : x + 238 ≤ o1 ∧ o1 < w) {f : Nat → Value} (hO : M.2 o1 = some (m_va 3 1 f)) {y1 : Int} (hM : cU D aC s0 l fo x w yX9_passNights cX9_passNights 2 (some .int) 12 [.ref x, VI y1] M [eA] r W2) : m_MetW D aC s0 l yL_passNights cL_passNights 4 (some .int) [(0, 9, 12, 13)] 13 470 940 [.ref x, VI y1, .ref o1] M (wQ s0.heap.size fo x w o1 r W2 M) := by
  refine m_entryW (lv := [(0, .ref x), (1, VI y1), (2, .ref o1)]) (by decide +kernel) (Nat.le_of_ble_eq_true rfl) rfl hF hl ?_
  intro p e s m args below meth c hC hr ht
  change m_C D aC s0 RL _ _ _ _ _ _ _ _ _ at hC
  have hox : s0.heap.size ≤ o1 := by have := hG.1.2.2; omega
  refine m_aload_n hC 2 dL_passNights_0 rfl rfl ?_
  refine m_iconst hC dL_passNights_1 ?_
  refine m_aload_n hC 0 dL_passNights_2 rfl rfl ?_
  refine m_iload_n hC 1 dL_passNights_3 rfl rfl ?_
  refine m_callV hC hM dL_passNights_4 kc_X9_passNights kV_L_55 hG.2.1 rfl rfl rfl rfl (Nat.le_of_ble_eq_true rfl) (by decide) ⟨(Nat.le_of_ble_eq_true rfl), (Nat.le_of_ble_eq_true rfl)⟩ (fun E M1 ce q9 H1 locs1 ls h1 hx hH hS hce hcv hcl => ?_) (fun v9 M1 h9 => ?_)
  · obtain ⟨⟨hr1, hEs⟩, hA⟩ := hx
    have hk : r.1 = 1 := by
      have hlt := (List.getElem?_eq_some_iff.mp hEs).1
      simp only [List.length_cons, List.length_nil] at hlt
      omega
    rw [hk] at hEs
    have hE : eA = E := Option.some.inj hEs
    subst hE
    refine m_cat hC hN (pre := []) (a := 0) (b := 9) (h := 12) (ct := 13) (suf := []) (E := eA) ht rfl ct_A (fun y hy => absurd hy List.not_mem_nil) ⟨by decide, by decide⟩ h1 hH hS hce hcv hcl ?_
    refine m_astore_n hC dL_passNights_12 rfl (by decide) rfl ?_
    refine m_iconst hC dL_passNights_13 ?_
    exact m_iret hC dL_passNights_14 hr (Nat.le_of_ble_eq_true rfl) (Nat.le_of_ble_eq_true rfl) (wQ.ex hk (by decide) hA ho hO)
  · obtain ⟨h0, rfl, hA⟩ := h9
    have hO1 := (hA.2.2 o1 ho.2 (Or.inr ho.1)).trans hO
    refine m_i2l hC dL_passNights_7 ?_
    refine m_last1 hC dL_passNights_8 hO1 hox (fun M2 R2 f2 => ?_)
    refine m_goto (tgt := 15) hC dL_passNights_9 (by decide) ?_
    refine m_iconst hC dL_passNights_15 ?_
    exact m_iret hC dL_passNights_16 hr (Nat.le_of_ble_eq_true rfl) (Nat.le_of_ble_eq_true rfl) (wQ.ok h0 hA ho R2 f2)
theorem kw_L_dust : m_cdW yL_dust cL_dust 4 (some .int) [(0, 9, 12, 23)] 3 := ⟨lwg_of (List.mem_append_right _ (List.mem_of_getElem? (i := 1107) (by decide +kernel))) rfl, lwg_of (List.mem_append_right _ (List.mem_of_getElem? (i := 0) (by decide +kernel))) rfl, by decide +kernel, by decide +kernel, by decide +kernel⟩
set_option maxHeartbeats 2000000 in
theorem w_dust {D : va_G} {aC : Nat → ClassId} {s0 : State} {l : Launch} (hF : m_F D aC s0) (hl : l.stackTraces = false) {fo : Nat → Nat} {x w o1 : Nat} {W W2 : gW} {r : Int × Int} {M : m_M} (hN : m_NC s0) (hG : gIn s0.heap.size fo x w W M) (ho : x + 238 ≤ o1 ∧ o1 < w) {f : Nat → Value} (hO : M.2 o1 = some (m_va 3 1 f)) {y1 : Int} (hM : cU D aC s0 l fo x w yX9_dust cX9_dust 2 (some .int) 12 [.ref x, VI y1] M [eI] r W2) : m_MetW D aC s0 l yL_dust cL_dust 4 (some .int) [(0, 9, 12, 23)] 13 470 940 [.ref x, VI y1, .ref o1] M (wQ s0.heap.size fo x w o1 r W2 M) := by
  refine m_entryW (lv := [(0, .ref x), (1, VI y1), (2, .ref o1)]) (by decide +kernel) (Nat.le_of_ble_eq_true rfl) rfl hF hl ?_
  intro p e s m args below meth c hC hr ht
  change m_C D aC s0 RL _ _ _ _ _ _ _ _ _ at hC
  have hox : s0.heap.size ≤ o1 := by have := hG.1.2.2; omega
  refine m_aload_n hC 2 dL_dust_0 rfl rfl ?_
  refine m_iconst hC dL_dust_1 ?_
  refine m_aload_n hC 0 dL_dust_2 rfl rfl ?_
  refine m_iload_n hC 1 dL_dust_3 rfl rfl ?_
  refine m_callV hC hM dL_dust_4 kc_X9_dust kV_L_58 hG.2.1 rfl rfl rfl rfl (Nat.le_of_ble_eq_true rfl) (by decide) ⟨(Nat.le_of_ble_eq_true rfl), (Nat.le_of_ble_eq_true rfl)⟩ (fun E M1 ce q9 H1 locs1 ls h1 hx hH hS hce hcv hcl => ?_) (fun v9 M1 h9 => ?_)
  · obtain ⟨⟨hr1, hEs⟩, hA⟩ := hx
    have hk : r.1 = 1 := by
      have hlt := (List.getElem?_eq_some_iff.mp hEs).1
      simp only [List.length_cons, List.length_nil] at hlt
      omega
    rw [hk] at hEs
    have hE : eI = E := Option.some.inj hEs
    subst hE
    refine m_cat hC hN (pre := []) (a := 0) (b := 9) (h := 12) (ct := 23) (suf := []) (E := eI) ht rfl ct_I (fun y hy => absurd hy List.not_mem_nil) ⟨by decide, by decide⟩ h1 hH hS hce hcv hcl ?_
    refine m_astore_n hC dL_dust_12 rfl (by decide) rfl ?_
    refine m_iconst hC dL_dust_13 ?_
    exact m_iret hC dL_dust_14 hr (Nat.le_of_ble_eq_true rfl) (Nat.le_of_ble_eq_true rfl) (wQ.ex hk (by decide) hA ho hO)
  · obtain ⟨h0, rfl, hA⟩ := h9
    have hO1 := (hA.2.2 o1 ho.2 (Or.inr ho.1)).trans hO
    refine m_i2l hC dL_dust_7 ?_
    refine m_last1 hC dL_dust_8 hO1 hox (fun M2 R2 f2 => ?_)
    refine m_goto (tgt := 15) hC dL_dust_9 (by decide) ?_
    refine m_iconst hC dL_dust_15 ?_
    exact m_iret hC dL_dust_16 hr (Nat.le_of_ble_eq_true rfl) (Nat.le_of_ble_eq_true rfl) (wQ.ok h0 hA ho R2 f2)
theorem kw_L_roomByDust : m_cdW yL_roomByDust cL_roomByDust 4 (some .int) [(0, 9, 12, 37)] 3 := ⟨lwg_of (List.mem_append_right _ (List.mem_of_getElem? (i := 1115) (by decide +kernel))) rfl, lwg_of (List.mem_append_right _ (List.mem_of_getElem? (i := 0) (by decide +kernel))) rfl, by decide +kernel, by decide +kernel, by decide +kernel⟩
set_option maxHeartbeats 2000000 in
theorem w_roomByDust {D : va_G} {aC : Nat → ClassId} {s0 : State} {l : Launch} (hF : m_F D aC s0) (hl : l.stackTraces = false) {fo : Nat → Nat} {x w o1 : Nat} {W W2 : gW} {r : Int × Int} {M : m_M} (hN : m_NC s0) (hG : gIn s0.heap.size fo x w W M) (ho : x + 238 ≤ o1 ∧ o1 < w) {f : Nat → Value} (hO : M.2 o1 = some (m_va 3 1 f)) {y1 : Int} (hM : cU D aC s0 l fo x w yX9_roomByDust cX9_roomByDust 3 (some .int) 12 [.ref x, VI y1] M [eN] r W2) : m_MetW D aC s0 l yL_roomByDust cL_roomByDust 4 (some .int) [(0, 9, 12, 37)] 13 470 940 [.ref x, VI y1, .ref o1] M (wQ s0.heap.size fo x w o1 r W2 M) := by
  refine m_entryW (lv := [(0, .ref x), (1, VI y1), (2, .ref o1)]) (by decide +kernel) (Nat.le_of_ble_eq_true rfl) rfl hF hl ?_
  intro p e s m args below meth c hC hr ht
  change m_C D aC s0 RL _ _ _ _ _ _ _ _ _ at hC
  have hox : s0.heap.size ≤ o1 := by have := hG.1.2.2; omega
  refine m_aload_n hC 2 dL_roomByDust_0 rfl rfl ?_
  refine m_iconst hC dL_roomByDust_1 ?_
  refine m_aload_n hC 0 dL_roomByDust_2 rfl rfl ?_
  refine m_iload_n hC 1 dL_roomByDust_3 rfl rfl ?_
  refine m_callV hC hM dL_roomByDust_4 kc_X9_roomByDust kV_L_61 hG.2.1 rfl rfl rfl rfl (Nat.le_of_ble_eq_true rfl) (by decide) ⟨(Nat.le_of_ble_eq_true rfl), (Nat.le_of_ble_eq_true rfl)⟩ (fun E M1 ce q9 H1 locs1 ls h1 hx hH hS hce hcv hcl => ?_) (fun v9 M1 h9 => ?_)
  · obtain ⟨⟨hr1, hEs⟩, hA⟩ := hx
    have hk : r.1 = 1 := by
      have hlt := (List.getElem?_eq_some_iff.mp hEs).1
      simp only [List.length_cons, List.length_nil] at hlt
      omega
    rw [hk] at hEs
    have hE : eN = E := Option.some.inj hEs
    subst hE
    refine m_cat hC hN (pre := []) (a := 0) (b := 9) (h := 12) (ct := 37) (suf := []) (E := eN) ht rfl ct_N (fun y hy => absurd hy List.not_mem_nil) ⟨by decide, by decide⟩ h1 hH hS hce hcv hcl ?_
    refine m_astore_n hC dL_roomByDust_12 rfl (by decide) rfl ?_
    refine m_iconst hC dL_roomByDust_13 ?_
    exact m_iret hC dL_roomByDust_14 hr (Nat.le_of_ble_eq_true rfl) (Nat.le_of_ble_eq_true rfl) (wQ.ex hk (by decide) hA ho hO)
  · obtain ⟨h0, rfl, hA⟩ := h9
    have hO1 := (hA.2.2 o1 ho.2 (Or.inr ho.1)).trans hO
    refine m_i2l hC dL_roomByDust_7 ?_
    refine m_last1 hC dL_roomByDust_8 hO1 hox (fun M2 R2 f2 => ?_)
    refine m_goto (tgt := 15) hC dL_roomByDust_9 (by decide) ?_
    refine m_iconst hC dL_roomByDust_15 ?_
    exact m_iret hC dL_roomByDust_16 hr (Nat.le_of_ble_eq_true rfl) (Nat.le_of_ble_eq_true rfl) (wQ.ok h0 hA ho R2 f2)
theorem kw_L_power : m_cdW yL_power cL_power 4 (some .int) [(0, 9, 12, 23)] 3 := ⟨lwg_of (List.mem_append_right _ (List.mem_of_getElem? (i := 1127) (by decide +kernel))) rfl, lwg_of (List.mem_append_right _ (List.mem_of_getElem? (i := 0) (by decide +kernel))) rfl, by decide +kernel, by decide +kernel, by decide +kernel⟩
set_option maxHeartbeats 2000000 in
theorem w_power {D : va_G} {aC : Nat → ClassId} {s0 : State} {l : Launch} (hF : m_F D aC s0) (hl : l.stackTraces = false) {fo : Nat → Nat} {x w o1 : Nat} {W W2 : gW} {r : Int × Int} {M : m_M} (hN : m_NC s0) (hG : gIn s0.heap.size fo x w W M) (ho : x + 238 ≤ o1 ∧ o1 < w) {f : Nat → Value} (hO : M.2 o1 = some (m_va 3 1 f)) {y1 : Int} (hM : cU D aC s0 l fo x w yX9_power cX9_power 2 (some .int) 12 [.ref x, VI y1] M [eI] r W2) : m_MetW D aC s0 l yL_power cL_power 4 (some .int) [(0, 9, 12, 23)] 13 470 940 [.ref x, VI y1, .ref o1] M (wQ s0.heap.size fo x w o1 r W2 M) := by
  refine m_entryW (lv := [(0, .ref x), (1, VI y1), (2, .ref o1)]) (by decide +kernel) (Nat.le_of_ble_eq_true rfl) rfl hF hl ?_
  intro p e s m args below meth c hC hr ht
  change m_C D aC s0 RL _ _ _ _ _ _ _ _ _ at hC
  have hox : s0.heap.size ≤ o1 := by have := hG.1.2.2; omega
  refine m_aload_n hC 2 dL_power_0 rfl rfl ?_
  refine m_iconst hC dL_power_1 ?_
  refine m_aload_n hC 0 dL_power_2 rfl rfl ?_
  refine m_iload_n hC 1 dL_power_3 rfl rfl ?_
  refine m_callV hC hM dL_power_4 kc_X9_power kV_L_64 hG.2.1 rfl rfl rfl rfl (Nat.le_of_ble_eq_true rfl) (by decide) ⟨(Nat.le_of_ble_eq_true rfl), (Nat.le_of_ble_eq_true rfl)⟩ (fun E M1 ce q9 H1 locs1 ls h1 hx hH hS hce hcv hcl => ?_) (fun v9 M1 h9 => ?_)
  · obtain ⟨⟨hr1, hEs⟩, hA⟩ := hx
    have hk : r.1 = 1 := by
      have hlt := (List.getElem?_eq_some_iff.mp hEs).1
      simp only [List.length_cons, List.length_nil] at hlt
      omega
    rw [hk] at hEs
    have hE : eI = E := Option.some.inj hEs
    subst hE
    refine m_cat hC hN (pre := []) (a := 0) (b := 9) (h := 12) (ct := 23) (suf := []) (E := eI) ht rfl ct_I (fun y hy => absurd hy List.not_mem_nil) ⟨by decide, by decide⟩ h1 hH hS hce hcv hcl ?_
    refine m_astore_n hC dL_power_12 rfl (by decide) rfl ?_
    refine m_iconst hC dL_power_13 ?_
    exact m_iret hC dL_power_14 hr (Nat.le_of_ble_eq_true rfl) (Nat.le_of_ble_eq_true rfl) (wQ.ex hk (by decide) hA ho hO)
  · obtain ⟨h0, rfl, hA⟩ := h9
    have hO1 := (hA.2.2 o1 ho.2 (Or.inr ho.1)).trans hO
    refine m_i2l hC dL_power_7 ?_
    refine m_last1 hC dL_power_8 hO1 hox (fun M2 R2 f2 => ?_)
    refine m_goto (tgt := 15) hC dL_power_9 (by decide) ?_
    refine m_iconst hC dL_power_15 ?_
    exact m_iret hC dL_power_16 hr (Nat.le_of_ble_eq_true rfl) (Nat.le_of_ble_eq_true rfl) (wQ.ok h0 hA ho R2 f2)
theorem kw_L_isBanished : m_cdW yL_isBanished cL_isBanished 4 (some .int) [(0, 16, 19, 23)] 3 := ⟨lwg_of (List.mem_append_right _ (List.mem_of_getElem? (i := 1140) (by decide +kernel))) rfl, lwg_of (List.mem_append_right _ (List.mem_of_getElem? (i := 0) (by decide +kernel))) rfl, by decide +kernel, by decide +kernel, by decide +kernel⟩
set_option maxHeartbeats 2000000 in
theorem w_isBanished {D : va_G} {aC : Nat → ClassId} {s0 : State} {l : Launch} (hF : m_F D aC s0) (hl : l.stackTraces = false) {fo : Nat → Nat} {x w o1 : Nat} {W W2 : gW} {r : Int × Int} {M : m_M} (hN : m_NC s0) (hG : gIn s0.heap.size fo x w W M) (ho : x + 238 ≤ o1 ∧ o1 < w) {f : Nat → Value} (hO : M.2 o1 = some (m_va 3 1 f)) {y1 : Int} (hb : r.1 = 0 → r.2 = 0 ∨ r.2 = 1) (hM : cU D aC s0 l fo x w yX9_isBanished cX9_isBanished 2 (some .boolean) 12 [.ref x, VI y1] M [eI] r W2) : m_MetW D aC s0 l yL_isBanished cL_isBanished 4 (some .int) [(0, 16, 19, 23)] 13 470 940 [.ref x, VI y1, .ref o1] M (wQ s0.heap.size fo x w o1 r W2 M) := by
  refine m_entryW (lv := [(0, .ref x), (1, VI y1), (2, .ref o1)]) (by decide +kernel) (Nat.le_of_ble_eq_true rfl) rfl hF hl ?_
  intro p e s m args below meth c hC hr ht
  change m_C D aC s0 RL _ _ _ _ _ _ _ _ _ at hC
  have hox : s0.heap.size ≤ o1 := by have := hG.1.2.2; omega
  refine m_aload_n hC 2 dL_isBanished_0 rfl rfl ?_
  refine m_iconst hC dL_isBanished_1 ?_
  refine m_aload_n hC 0 dL_isBanished_2 rfl rfl ?_
  refine m_iload_n hC 1 dL_isBanished_3 rfl rfl ?_
  refine m_callV hC hM dL_isBanished_4 kc_X9_isBanished kV_L_67 hG.2.1 rfl rfl rfl rfl (Nat.le_of_ble_eq_true rfl) (by decide) ⟨(Nat.le_of_ble_eq_true rfl), (Nat.le_of_ble_eq_true rfl)⟩ (fun E M1 ce q9 H1 locs1 ls h1 hx hH hS hce hcv hcl => ?_) (fun v9 M1 h9 => ?_)
  · obtain ⟨⟨hr1, hEs⟩, hA⟩ := hx
    have hk : r.1 = 1 := by
      have hlt := (List.getElem?_eq_some_iff.mp hEs).1
      simp only [List.length_cons, List.length_nil] at hlt
      omega
    rw [hk] at hEs
    have hE : eI = E := Option.some.inj hEs
    subst hE
    refine m_cat hC hN (pre := []) (a := 0) (b := 16) (h := 19) (ct := 23) (suf := []) (E := eI) ht rfl ct_I (fun y hy => absurd hy List.not_mem_nil) ⟨by decide, by decide⟩ h1 hH hS hce hcv hcl ?_
    refine m_astore_n hC dL_isBanished_19 rfl (by decide) rfl ?_
    refine m_iconst hC dL_isBanished_20 ?_
    exact m_iret hC dL_isBanished_21 hr (Nat.le_of_ble_eq_true rfl) (Nat.le_of_ble_eq_true rfl) (wQ.ex hk (by decide) hA ho hO)
  · obtain ⟨h0, rfl, hA⟩ := h9
    have hO1 := (hA.2.2 o1 ho.2 (Or.inr ho.1)).trans hO
    have hb0 := hb h0
    refine m_if_eq (tgt := 14) hC dL_isBanished_7 (by decide) (by omega) (fun c1 => ?_) (fun c1 => ?_)
    · refine m_lconst (z := 0) hC dL_isBanished_14 rfl ?_
      refine m_last1 hC dL_isBanished_15 hO1 hox (fun M2 R2 f2 => ?_)
      refine m_goto (tgt := 22) hC dL_isBanished_16 (by decide) ?_
      refine m_iconst hC dL_isBanished_22 ?_
      exact m_iret hC dL_isBanished_23 hr (Nat.le_of_ble_eq_true rfl) (Nat.le_of_ble_eq_true rfl) (wQ.ok h0 hA ho (by rw [c1]; exact R2) f2)
    · have c2 : r.2 = 1 := by omega
      refine m_lconst (z := 1) hC dL_isBanished_10 rfl ?_
      refine m_goto (tgt := 15) hC dL_isBanished_11 (by decide) ?_
      refine m_last1 hC dL_isBanished_15 hO1 hox (fun M2 R2 f2 => ?_)
      refine m_goto (tgt := 22) hC dL_isBanished_16 (by decide) ?_
      refine m_iconst hC dL_isBanished_22 ?_
      exact m_iret hC dL_isBanished_23 hr (Nat.le_of_ble_eq_true rfl) (Nat.le_of_ble_eq_true rfl) (wQ.ok h0 hA ho (by rw [c2]; exact R2) f2)
theorem kw_L_strength : m_cdW yL_strength cL_strength 4 (some .int) [(0, 9, 12, 23)] 3 := ⟨lwg_of (List.mem_append_right _ (List.mem_of_getElem? (i := 1147) (by decide +kernel))) rfl, lwg_of (List.mem_append_right _ (List.mem_of_getElem? (i := 0) (by decide +kernel))) rfl, by decide +kernel, by decide +kernel, by decide +kernel⟩
set_option maxHeartbeats 2000000 in
theorem w_strength {D : va_G} {aC : Nat → ClassId} {s0 : State} {l : Launch} (hF : m_F D aC s0) (hl : l.stackTraces = false) {fo : Nat → Nat} {x w o1 : Nat} {W W2 : gW} {r : Int × Int} {M : m_M} (hN : m_NC s0) (hG : gIn s0.heap.size fo x w W M) (ho : x + 238 ≤ o1 ∧ o1 < w) {f : Nat → Value} (hO : M.2 o1 = some (m_va 3 1 f)) {y1 : Int} (hM : cU D aC s0 l fo x w yX9_strength cX9_strength 2 (some .int) 12 [.ref x, VI y1] M [eI] r W2) : m_MetW D aC s0 l yL_strength cL_strength 4 (some .int) [(0, 9, 12, 23)] 13 470 940 [.ref x, VI y1, .ref o1] M (wQ s0.heap.size fo x w o1 r W2 M) := by
  refine m_entryW (lv := [(0, .ref x), (1, VI y1), (2, .ref o1)]) (by decide +kernel) (Nat.le_of_ble_eq_true rfl) rfl hF hl ?_
  intro p e s m args below meth c hC hr ht
  change m_C D aC s0 RL _ _ _ _ _ _ _ _ _ at hC
  have hox : s0.heap.size ≤ o1 := by have := hG.1.2.2; omega
  refine m_aload_n hC 2 dL_strength_0 rfl rfl ?_
  refine m_iconst hC dL_strength_1 ?_
  refine m_aload_n hC 0 dL_strength_2 rfl rfl ?_
  refine m_iload_n hC 1 dL_strength_3 rfl rfl ?_
  refine m_callV hC hM dL_strength_4 kc_X9_strength kV_L_71 hG.2.1 rfl rfl rfl rfl (Nat.le_of_ble_eq_true rfl) (by decide) ⟨(Nat.le_of_ble_eq_true rfl), (Nat.le_of_ble_eq_true rfl)⟩ (fun E M1 ce q9 H1 locs1 ls h1 hx hH hS hce hcv hcl => ?_) (fun v9 M1 h9 => ?_)
  · obtain ⟨⟨hr1, hEs⟩, hA⟩ := hx
    have hk : r.1 = 1 := by
      have hlt := (List.getElem?_eq_some_iff.mp hEs).1
      simp only [List.length_cons, List.length_nil] at hlt
      omega
    rw [hk] at hEs
    have hE : eI = E := Option.some.inj hEs
    subst hE
    refine m_cat hC hN (pre := []) (a := 0) (b := 9) (h := 12) (ct := 23) (suf := []) (E := eI) ht rfl ct_I (fun y hy => absurd hy List.not_mem_nil) ⟨by decide, by decide⟩ h1 hH hS hce hcv hcl ?_
    refine m_astore_n hC dL_strength_12 rfl (by decide) rfl ?_
    refine m_iconst hC dL_strength_13 ?_
    exact m_iret hC dL_strength_14 hr (Nat.le_of_ble_eq_true rfl) (Nat.le_of_ble_eq_true rfl) (wQ.ex hk (by decide) hA ho hO)
  · obtain ⟨h0, rfl, hA⟩ := h9
    have hO1 := (hA.2.2 o1 ho.2 (Or.inr ho.1)).trans hO
    refine m_i2l hC dL_strength_7 ?_
    refine m_last1 hC dL_strength_8 hO1 hox (fun M2 R2 f2 => ?_)
    refine m_goto (tgt := 15) hC dL_strength_9 (by decide) ?_
    refine m_iconst hC dL_strength_15 ?_
    exact m_iret hC dL_strength_16 hr (Nat.le_of_ble_eq_true rfl) (Nat.le_of_ble_eq_true rfl) (wQ.ok h0 hA ho R2 f2)
theorem kw_L_purse : m_cdW yL_purse cL_purse 4 (some .int) [(0, 9, 12, 23)] 3 := ⟨lwg_of (List.mem_append_right _ (List.mem_of_getElem? (i := 1154) (by decide +kernel))) rfl, lwg_of (List.mem_append_right _ (List.mem_of_getElem? (i := 0) (by decide +kernel))) rfl, by decide +kernel, by decide +kernel, by decide +kernel⟩
set_option maxHeartbeats 2000000 in
theorem w_purse {D : va_G} {aC : Nat → ClassId} {s0 : State} {l : Launch} (hF : m_F D aC s0) (hl : l.stackTraces = false) {fo : Nat → Nat} {x w o1 : Nat} {W W2 : gW} {r : Int × Int} {M : m_M} (hN : m_NC s0) (hG : gIn s0.heap.size fo x w W M) (ho : x + 238 ≤ o1 ∧ o1 < w) {f : Nat → Value} (hO : M.2 o1 = some (m_va 3 1 f)) {y1 : Int} (hM : cU D aC s0 l fo x w yX9_purse cX9_purse 2 (some .int) 12 [.ref x, VI y1] M [eI] r W2) : m_MetW D aC s0 l yL_purse cL_purse 4 (some .int) [(0, 9, 12, 23)] 13 470 940 [.ref x, VI y1, .ref o1] M (wQ s0.heap.size fo x w o1 r W2 M) := by
  refine m_entryW (lv := [(0, .ref x), (1, VI y1), (2, .ref o1)]) (by decide +kernel) (Nat.le_of_ble_eq_true rfl) rfl hF hl ?_
  intro p e s m args below meth c hC hr ht
  change m_C D aC s0 RL _ _ _ _ _ _ _ _ _ at hC
  have hox : s0.heap.size ≤ o1 := by have := hG.1.2.2; omega
  refine m_aload_n hC 2 dL_purse_0 rfl rfl ?_
  refine m_iconst hC dL_purse_1 ?_
  refine m_aload_n hC 0 dL_purse_2 rfl rfl ?_
  refine m_iload_n hC 1 dL_purse_3 rfl rfl ?_
  refine m_callV hC hM dL_purse_4 kc_X9_purse kV_L_74 hG.2.1 rfl rfl rfl rfl (Nat.le_of_ble_eq_true rfl) (by decide) ⟨(Nat.le_of_ble_eq_true rfl), (Nat.le_of_ble_eq_true rfl)⟩ (fun E M1 ce q9 H1 locs1 ls h1 hx hH hS hce hcv hcl => ?_) (fun v9 M1 h9 => ?_)
  · obtain ⟨⟨hr1, hEs⟩, hA⟩ := hx
    have hk : r.1 = 1 := by
      have hlt := (List.getElem?_eq_some_iff.mp hEs).1
      simp only [List.length_cons, List.length_nil] at hlt
      omega
    rw [hk] at hEs
    have hE : eI = E := Option.some.inj hEs
    subst hE
    refine m_cat hC hN (pre := []) (a := 0) (b := 9) (h := 12) (ct := 23) (suf := []) (E := eI) ht rfl ct_I (fun y hy => absurd hy List.not_mem_nil) ⟨by decide, by decide⟩ h1 hH hS hce hcv hcl ?_
    refine m_astore_n hC dL_purse_12 rfl (by decide) rfl ?_
    refine m_iconst hC dL_purse_13 ?_
    exact m_iret hC dL_purse_14 hr (Nat.le_of_ble_eq_true rfl) (Nat.le_of_ble_eq_true rfl) (wQ.ex hk (by decide) hA ho hO)
  · obtain ⟨h0, rfl, hA⟩ := h9
    have hO1 := (hA.2.2 o1 ho.2 (Or.inr ho.1)).trans hO
    refine m_i2l hC dL_purse_7 ?_
    refine m_last1 hC dL_purse_8 hO1 hox (fun M2 R2 f2 => ?_)
    refine m_goto (tgt := 15) hC dL_purse_9 (by decide) ?_
    refine m_iconst hC dL_purse_15 ?_
    exact m_iret hC dL_purse_16 hr (Nat.le_of_ble_eq_true rfl) (Nat.le_of_ble_eq_true rfl) (wQ.ok h0 hA ho R2 f2)
theorem kw_L_debt : m_cdW yL_debt cL_debt 4 (some .int) [(0, 9, 12, 23)] 3 := ⟨lwg_of (List.mem_append_right _ (List.mem_of_getElem? (i := 1161) (by decide +kernel))) rfl, lwg_of (List.mem_append_right _ (List.mem_of_getElem? (i := 0) (by decide +kernel))) rfl, by decide +kernel, by decide +kernel, by decide +kernel⟩
set_option maxHeartbeats 2000000 in
theorem w_debt {D : va_G} {aC : Nat → ClassId} {s0 : State} {l : Launch} (hF : m_F D aC s0) (hl : l.stackTraces = false) {fo : Nat → Nat} {x w o1 : Nat} {W W2 : gW} {r : Int × Int} {M : m_M} (hN : m_NC s0) (hG : gIn s0.heap.size fo x w W M) (ho : x + 238 ≤ o1 ∧ o1 < w) {f : Nat → Value} (hO : M.2 o1 = some (m_va 3 1 f)) {y1 : Int} (hM : cU D aC s0 l fo x w yX9_debt cX9_debt 2 (some .int) 12 [.ref x, VI y1] M [eI] r W2) : m_MetW D aC s0 l yL_debt cL_debt 4 (some .int) [(0, 9, 12, 23)] 13 470 940 [.ref x, VI y1, .ref o1] M (wQ s0.heap.size fo x w o1 r W2 M) := by
  refine m_entryW (lv := [(0, .ref x), (1, VI y1), (2, .ref o1)]) (by decide +kernel) (Nat.le_of_ble_eq_true rfl) rfl hF hl ?_
  intro p e s m args below meth c hC hr ht
  change m_C D aC s0 RL _ _ _ _ _ _ _ _ _ at hC
  have hox : s0.heap.size ≤ o1 := by have := hG.1.2.2; omega
  refine m_aload_n hC 2 dL_debt_0 rfl rfl ?_
  refine m_iconst hC dL_debt_1 ?_
  refine m_aload_n hC 0 dL_debt_2 rfl rfl ?_
  refine m_iload_n hC 1 dL_debt_3 rfl rfl ?_
  refine m_callV hC hM dL_debt_4 kc_X9_debt kV_L_77 hG.2.1 rfl rfl rfl rfl (Nat.le_of_ble_eq_true rfl) (by decide) ⟨(Nat.le_of_ble_eq_true rfl), (Nat.le_of_ble_eq_true rfl)⟩ (fun E M1 ce q9 H1 locs1 ls h1 hx hH hS hce hcv hcl => ?_) (fun v9 M1 h9 => ?_)
  · obtain ⟨⟨hr1, hEs⟩, hA⟩ := hx
    have hk : r.1 = 1 := by
      have hlt := (List.getElem?_eq_some_iff.mp hEs).1
      simp only [List.length_cons, List.length_nil] at hlt
      omega
    rw [hk] at hEs
    have hE : eI = E := Option.some.inj hEs
    subst hE
    refine m_cat hC hN (pre := []) (a := 0) (b := 9) (h := 12) (ct := 23) (suf := []) (E := eI) ht rfl ct_I (fun y hy => absurd hy List.not_mem_nil) ⟨by decide, by decide⟩ h1 hH hS hce hcv hcl ?_
    refine m_astore_n hC dL_debt_12 rfl (by decide) rfl ?_
    refine m_iconst hC dL_debt_13 ?_
    exact m_iret hC dL_debt_14 hr (Nat.le_of_ble_eq_true rfl) (Nat.le_of_ble_eq_true rfl) (wQ.ex hk (by decide) hA ho hO)
  · obtain ⟨h0, rfl, hA⟩ := h9
    have hO1 := (hA.2.2 o1 ho.2 (Or.inr ho.1)).trans hO
    refine m_i2l hC dL_debt_7 ?_
    refine m_last1 hC dL_debt_8 hO1 hox (fun M2 R2 f2 => ?_)
    refine m_goto (tgt := 15) hC dL_debt_9 (by decide) ?_
    refine m_iconst hC dL_debt_15 ?_
    exact m_iret hC dL_debt_16 hr (Nat.le_of_ble_eq_true rfl) (Nat.le_of_ble_eq_true rfl) (wQ.ok h0 hA ho R2 f2)
theorem kw_L_skippedNights : m_cdW yL_skippedNights cL_skippedNights 4 (some .int) [(0, 9, 12, 23)] 3 := ⟨lwg_of (List.mem_append_right _ (List.mem_of_getElem? (i := 1168) (by decide +kernel))) rfl, lwg_of (List.mem_append_right _ (List.mem_of_getElem? (i := 0) (by decide +kernel))) rfl, by decide +kernel, by decide +kernel, by decide +kernel⟩
set_option maxHeartbeats 2000000 in
theorem w_skippedNights {D : va_G} {aC : Nat → ClassId} {s0 : State} {l : Launch} (hF : m_F D aC s0) (hl : l.stackTraces = false) {fo : Nat → Nat} {x w o1 : Nat} {W W2 : gW} {r : Int × Int} {M : m_M} (hN : m_NC s0) (hG : gIn s0.heap.size fo x w W M) (ho : x + 238 ≤ o1 ∧ o1 < w) {f : Nat → Value} (hO : M.2 o1 = some (m_va 3 1 f)) {y1 : Int} (hM : cU D aC s0 l fo x w yX9_skippedNights cX9_skippedNights 2 (some .int) 12 [.ref x, VI y1] M [eI] r W2) : m_MetW D aC s0 l yL_skippedNights cL_skippedNights 4 (some .int) [(0, 9, 12, 23)] 13 470 940 [.ref x, VI y1, .ref o1] M (wQ s0.heap.size fo x w o1 r W2 M) := by
  refine m_entryW (lv := [(0, .ref x), (1, VI y1), (2, .ref o1)]) (by decide +kernel) (Nat.le_of_ble_eq_true rfl) rfl hF hl ?_
  intro p e s m args below meth c hC hr ht
  change m_C D aC s0 RL _ _ _ _ _ _ _ _ _ at hC
  have hox : s0.heap.size ≤ o1 := by have := hG.1.2.2; omega
  refine m_aload_n hC 2 dL_skippedNights_0 rfl rfl ?_
  refine m_iconst hC dL_skippedNights_1 ?_
  refine m_aload_n hC 0 dL_skippedNights_2 rfl rfl ?_
  refine m_iload_n hC 1 dL_skippedNights_3 rfl rfl ?_
  refine m_callV hC hM dL_skippedNights_4 kc_X9_skippedNights kV_L_80 hG.2.1 rfl rfl rfl rfl (Nat.le_of_ble_eq_true rfl) (by decide) ⟨(Nat.le_of_ble_eq_true rfl), (Nat.le_of_ble_eq_true rfl)⟩ (fun E M1 ce q9 H1 locs1 ls h1 hx hH hS hce hcv hcl => ?_) (fun v9 M1 h9 => ?_)
  · obtain ⟨⟨hr1, hEs⟩, hA⟩ := hx
    have hk : r.1 = 1 := by
      have hlt := (List.getElem?_eq_some_iff.mp hEs).1
      simp only [List.length_cons, List.length_nil] at hlt
      omega
    rw [hk] at hEs
    have hE : eI = E := Option.some.inj hEs
    subst hE
    refine m_cat hC hN (pre := []) (a := 0) (b := 9) (h := 12) (ct := 23) (suf := []) (E := eI) ht rfl ct_I (fun y hy => absurd hy List.not_mem_nil) ⟨by decide, by decide⟩ h1 hH hS hce hcv hcl ?_
    refine m_astore_n hC dL_skippedNights_12 rfl (by decide) rfl ?_
    refine m_iconst hC dL_skippedNights_13 ?_
    exact m_iret hC dL_skippedNights_14 hr (Nat.le_of_ble_eq_true rfl) (Nat.le_of_ble_eq_true rfl) (wQ.ex hk (by decide) hA ho hO)
  · obtain ⟨h0, rfl, hA⟩ := h9
    have hO1 := (hA.2.2 o1 ho.2 (Or.inr ho.1)).trans hO
    refine m_i2l hC dL_skippedNights_7 ?_
    refine m_last1 hC dL_skippedNights_8 hO1 hox (fun M2 R2 f2 => ?_)
    refine m_goto (tgt := 15) hC dL_skippedNights_9 (by decide) ?_
    refine m_iconst hC dL_skippedNights_15 ?_
    exact m_iret hC dL_skippedNights_16 hr (Nat.le_of_ble_eq_true rfl) (Nat.le_of_ble_eq_true rfl) (wQ.ok h0 hA ho R2 f2)
theorem kw_L_isResting : m_cdW yL_isResting cL_isResting 4 (some .int) [(0, 16, 19, 23)] 3 := ⟨lwg_of (List.mem_append_right _ (List.mem_of_getElem? (i := 1175) (by decide +kernel))) rfl, lwg_of (List.mem_append_right _ (List.mem_of_getElem? (i := 0) (by decide +kernel))) rfl, by decide +kernel, by decide +kernel, by decide +kernel⟩
set_option maxHeartbeats 2000000 in
theorem w_isResting {D : va_G} {aC : Nat → ClassId} {s0 : State} {l : Launch} (hF : m_F D aC s0) (hl : l.stackTraces = false) {fo : Nat → Nat} {x w o1 : Nat} {W W2 : gW} {r : Int × Int} {M : m_M} (hN : m_NC s0) (hG : gIn s0.heap.size fo x w W M) (ho : x + 238 ≤ o1 ∧ o1 < w) {f : Nat → Value} (hO : M.2 o1 = some (m_va 3 1 f)) {y1 : Int} (hb : r.1 = 0 → r.2 = 0 ∨ r.2 = 1) (hM : cU D aC s0 l fo x w yX9_isResting cX9_isResting 2 (some .boolean) 12 [.ref x, VI y1] M [eI] r W2) : m_MetW D aC s0 l yL_isResting cL_isResting 4 (some .int) [(0, 16, 19, 23)] 13 470 940 [.ref x, VI y1, .ref o1] M (wQ s0.heap.size fo x w o1 r W2 M) := by
  refine m_entryW (lv := [(0, .ref x), (1, VI y1), (2, .ref o1)]) (by decide +kernel) (Nat.le_of_ble_eq_true rfl) rfl hF hl ?_
  intro p e s m args below meth c hC hr ht
  change m_C D aC s0 RL _ _ _ _ _ _ _ _ _ at hC
  have hox : s0.heap.size ≤ o1 := by have := hG.1.2.2; omega
  refine m_aload_n hC 2 dL_isResting_0 rfl rfl ?_
  refine m_iconst hC dL_isResting_1 ?_
  refine m_aload_n hC 0 dL_isResting_2 rfl rfl ?_
  refine m_iload_n hC 1 dL_isResting_3 rfl rfl ?_
  refine m_callV hC hM dL_isResting_4 kc_X9_isResting kV_L_83 hG.2.1 rfl rfl rfl rfl (Nat.le_of_ble_eq_true rfl) (by decide) ⟨(Nat.le_of_ble_eq_true rfl), (Nat.le_of_ble_eq_true rfl)⟩ (fun E M1 ce q9 H1 locs1 ls h1 hx hH hS hce hcv hcl => ?_) (fun v9 M1 h9 => ?_)
  · obtain ⟨⟨hr1, hEs⟩, hA⟩ := hx
    have hk : r.1 = 1 := by
      have hlt := (List.getElem?_eq_some_iff.mp hEs).1
      simp only [List.length_cons, List.length_nil] at hlt
      omega
    rw [hk] at hEs
    have hE : eI = E := Option.some.inj hEs
    subst hE
    refine m_cat hC hN (pre := []) (a := 0) (b := 16) (h := 19) (ct := 23) (suf := []) (E := eI) ht rfl ct_I (fun y hy => absurd hy List.not_mem_nil) ⟨by decide, by decide⟩ h1 hH hS hce hcv hcl ?_
    refine m_astore_n hC dL_isResting_19 rfl (by decide) rfl ?_
    refine m_iconst hC dL_isResting_20 ?_
    exact m_iret hC dL_isResting_21 hr (Nat.le_of_ble_eq_true rfl) (Nat.le_of_ble_eq_true rfl) (wQ.ex hk (by decide) hA ho hO)
  · obtain ⟨h0, rfl, hA⟩ := h9
    have hO1 := (hA.2.2 o1 ho.2 (Or.inr ho.1)).trans hO
    have hb0 := hb h0
    refine m_if_eq (tgt := 14) hC dL_isResting_7 (by decide) (by omega) (fun c1 => ?_) (fun c1 => ?_)
    · refine m_lconst (z := 0) hC dL_isResting_14 rfl ?_
      refine m_last1 hC dL_isResting_15 hO1 hox (fun M2 R2 f2 => ?_)
      refine m_goto (tgt := 22) hC dL_isResting_16 (by decide) ?_
      refine m_iconst hC dL_isResting_22 ?_
      exact m_iret hC dL_isResting_23 hr (Nat.le_of_ble_eq_true rfl) (Nat.le_of_ble_eq_true rfl) (wQ.ok h0 hA ho (by rw [c1]; exact R2) f2)
    · have c2 : r.2 = 1 := by omega
      refine m_lconst (z := 1) hC dL_isResting_10 rfl ?_
      refine m_goto (tgt := 15) hC dL_isResting_11 (by decide) ?_
      refine m_last1 hC dL_isResting_15 hO1 hox (fun M2 R2 f2 => ?_)
      refine m_goto (tgt := 22) hC dL_isResting_16 (by decide) ?_
      refine m_iconst hC dL_isResting_22 ?_
      exact m_iret hC dL_isResting_23 hr (Nat.le_of_ble_eq_true rfl) (Nat.le_of_ble_eq_true rfl) (wQ.ok h0 hA ho (by rw [c2]; exact R2) f2)
theorem kw_L_energy : m_cdW yL_energy cL_energy 4 (some .int) [(0, 9, 12, 23)] 3 := ⟨lwg_of (List.mem_append_right _ (List.mem_of_getElem? (i := 1182) (by decide +kernel))) rfl, lwg_of (List.mem_append_right _ (List.mem_of_getElem? (i := 0) (by decide +kernel))) rfl, by decide +kernel, by decide +kernel, by decide +kernel⟩
set_option maxHeartbeats 2000000 in
theorem w_energy {D : va_G} {aC : Nat → ClassId} {s0 : State} {l : Launch} (hF : m_F D aC s0) (hl : l.stackTraces = false) {fo : Nat → Nat} {x w o1 : Nat} {W W2 : gW} {r : Int × Int} {M : m_M} (hN : m_NC s0) (hG : gIn s0.heap.size fo x w W M) (ho : x + 238 ≤ o1 ∧ o1 < w) {f : Nat → Value} (hO : M.2 o1 = some (m_va 3 1 f)) {y1 : Int} (hM : cU D aC s0 l fo x w yX9_energy cX9_energy 2 (some .int) 12 [.ref x, VI y1] M [eI] r W2) : m_MetW D aC s0 l yL_energy cL_energy 4 (some .int) [(0, 9, 12, 23)] 13 470 940 [.ref x, VI y1, .ref o1] M (wQ s0.heap.size fo x w o1 r W2 M) := by
  refine m_entryW (lv := [(0, .ref x), (1, VI y1), (2, .ref o1)]) (by decide +kernel) (Nat.le_of_ble_eq_true rfl) rfl hF hl ?_
  intro p e s m args below meth c hC hr ht
  change m_C D aC s0 RL _ _ _ _ _ _ _ _ _ at hC
  have hox : s0.heap.size ≤ o1 := by have := hG.1.2.2; omega
  refine m_aload_n hC 2 dL_energy_0 rfl rfl ?_
  refine m_iconst hC dL_energy_1 ?_
  refine m_aload_n hC 0 dL_energy_2 rfl rfl ?_
  refine m_iload_n hC 1 dL_energy_3 rfl rfl ?_
  refine m_callV hC hM dL_energy_4 kc_X9_energy kV_L_86 hG.2.1 rfl rfl rfl rfl (Nat.le_of_ble_eq_true rfl) (by decide) ⟨(Nat.le_of_ble_eq_true rfl), (Nat.le_of_ble_eq_true rfl)⟩ (fun E M1 ce q9 H1 locs1 ls h1 hx hH hS hce hcv hcl => ?_) (fun v9 M1 h9 => ?_)
  · obtain ⟨⟨hr1, hEs⟩, hA⟩ := hx
    have hk : r.1 = 1 := by
      have hlt := (List.getElem?_eq_some_iff.mp hEs).1
      simp only [List.length_cons, List.length_nil] at hlt
      omega
    rw [hk] at hEs
    have hE : eI = E := Option.some.inj hEs
    subst hE
    refine m_cat hC hN (pre := []) (a := 0) (b := 9) (h := 12) (ct := 23) (suf := []) (E := eI) ht rfl ct_I (fun y hy => absurd hy List.not_mem_nil) ⟨by decide, by decide⟩ h1 hH hS hce hcv hcl ?_
    refine m_astore_n hC dL_energy_12 rfl (by decide) rfl ?_
    refine m_iconst hC dL_energy_13 ?_
    exact m_iret hC dL_energy_14 hr (Nat.le_of_ble_eq_true rfl) (Nat.le_of_ble_eq_true rfl) (wQ.ex hk (by decide) hA ho hO)
  · obtain ⟨h0, rfl, hA⟩ := h9
    have hO1 := (hA.2.2 o1 ho.2 (Or.inr ho.1)).trans hO
    refine m_i2l hC dL_energy_7 ?_
    refine m_last1 hC dL_energy_8 hO1 hox (fun M2 R2 f2 => ?_)
    refine m_goto (tgt := 15) hC dL_energy_9 (by decide) ?_
    refine m_iconst hC dL_energy_15 ?_
    exact m_iret hC dL_energy_16 hr (Nat.le_of_ble_eq_true rfl) (Nat.le_of_ble_eq_true rfl) (wQ.ok h0 hA ho R2 f2)
theorem kw_L_goblinByWealth : m_cdW yL_goblinByWealth cL_goblinByWealth 4 (some .int) [(0, 9, 12, 37)] 3 := ⟨lwg_of (List.mem_append_right _ (List.mem_of_getElem? (i := 1189) (by decide +kernel))) rfl, lwg_of (List.mem_append_right _ (List.mem_of_getElem? (i := 0) (by decide +kernel))) rfl, by decide +kernel, by decide +kernel, by decide +kernel⟩
set_option maxHeartbeats 2000000 in
theorem w_goblinByWealth {D : va_G} {aC : Nat → ClassId} {s0 : State} {l : Launch} (hF : m_F D aC s0) (hl : l.stackTraces = false) {fo : Nat → Nat} {x w o1 : Nat} {W W2 : gW} {r : Int × Int} {M : m_M} (hN : m_NC s0) (hG : gIn s0.heap.size fo x w W M) (ho : x + 238 ≤ o1 ∧ o1 < w) {f : Nat → Value} (hO : M.2 o1 = some (m_va 3 1 f)) {y1 : Int} (hM : cU D aC s0 l fo x w yX9_goblinByWealth cX9_goblinByWealth 3 (some .int) 12 [.ref x, VI y1] M [eN] r W2) : m_MetW D aC s0 l yL_goblinByWealth cL_goblinByWealth 4 (some .int) [(0, 9, 12, 37)] 13 470 940 [.ref x, VI y1, .ref o1] M (wQ s0.heap.size fo x w o1 r W2 M) := by
  refine m_entryW (lv := [(0, .ref x), (1, VI y1), (2, .ref o1)]) (by decide +kernel) (Nat.le_of_ble_eq_true rfl) rfl hF hl ?_
  intro p e s m args below meth c hC hr ht
  change m_C D aC s0 RL _ _ _ _ _ _ _ _ _ at hC
  have hox : s0.heap.size ≤ o1 := by have := hG.1.2.2; omega
  refine m_aload_n hC 2 dL_goblinByWealth_0 rfl rfl ?_
  refine m_iconst hC dL_goblinByWealth_1 ?_
  refine m_aload_n hC 0 dL_goblinByWealth_2 rfl rfl ?_
  refine m_iload_n hC 1 dL_goblinByWealth_3 rfl rfl ?_
  refine m_callV hC hM dL_goblinByWealth_4 kc_X9_goblinByWealth kV_L_89 hG.2.1 rfl rfl rfl rfl (Nat.le_of_ble_eq_true rfl) (by decide) ⟨(Nat.le_of_ble_eq_true rfl), (Nat.le_of_ble_eq_true rfl)⟩ (fun E M1 ce q9 H1 locs1 ls h1 hx hH hS hce hcv hcl => ?_) (fun v9 M1 h9 => ?_)
  · obtain ⟨⟨hr1, hEs⟩, hA⟩ := hx
    have hk : r.1 = 1 := by
      have hlt := (List.getElem?_eq_some_iff.mp hEs).1
      simp only [List.length_cons, List.length_nil] at hlt
      omega
    rw [hk] at hEs
    have hE : eN = E := Option.some.inj hEs
    subst hE
    refine m_cat hC hN (pre := []) (a := 0) (b := 9) (h := 12) (ct := 37) (suf := []) (E := eN) ht rfl ct_N (fun y hy => absurd hy List.not_mem_nil) ⟨by decide, by decide⟩ h1 hH hS hce hcv hcl ?_
    refine m_astore_n hC dL_goblinByWealth_12 rfl (by decide) rfl ?_
    refine m_iconst hC dL_goblinByWealth_13 ?_
    exact m_iret hC dL_goblinByWealth_14 hr (Nat.le_of_ble_eq_true rfl) (Nat.le_of_ble_eq_true rfl) (wQ.ex hk (by decide) hA ho hO)
  · obtain ⟨h0, rfl, hA⟩ := h9
    have hO1 := (hA.2.2 o1 ho.2 (Or.inr ho.1)).trans hO
    refine m_i2l hC dL_goblinByWealth_7 ?_
    refine m_last1 hC dL_goblinByWealth_8 hO1 hox (fun M2 R2 f2 => ?_)
    refine m_goto (tgt := 15) hC dL_goblinByWealth_9 (by decide) ?_
    refine m_iconst hC dL_goblinByWealth_15 ?_
    exact m_iret hC dL_goblinByWealth_16 hr (Nat.le_of_ble_eq_true rfl) (Nat.le_of_ble_eq_true rfl) (wQ.ok h0 hA ho R2 f2)
theorem kw_L_bestWages : m_cdW yL_bestWages cL_bestWages 4 (some .int) [(0, 9, 12, 23)] 3 := ⟨lwg_of (List.mem_append_right _ (List.mem_of_getElem? (i := 1204) (by decide +kernel))) rfl, lwg_of (List.mem_append_right _ (List.mem_of_getElem? (i := 0) (by decide +kernel))) rfl, by decide +kernel, by decide +kernel, by decide +kernel⟩
set_option maxHeartbeats 2000000 in
theorem w_bestWages {D : va_G} {aC : Nat → ClassId} {s0 : State} {l : Launch} (hF : m_F D aC s0) (hl : l.stackTraces = false) {fo : Nat → Nat} {x w o1 : Nat} {W W2 : gW} {r : Int × Int} {M : m_M} (hN : m_NC s0) (hG : gIn s0.heap.size fo x w W M) (ho : x + 238 ≤ o1 ∧ o1 < w) {f : Nat → Value} (hO : M.2 o1 = some (m_va 3 1 f)) {y1 : Int} (hM : cU D aC s0 l fo x w yX9_bestWages cX9_bestWages 2 (some .int) 12 [.ref x, VI y1] M [eI] r W2) : m_MetW D aC s0 l yL_bestWages cL_bestWages 4 (some .int) [(0, 9, 12, 23)] 13 470 940 [.ref x, VI y1, .ref o1] M (wQ s0.heap.size fo x w o1 r W2 M) := by
  refine m_entryW (lv := [(0, .ref x), (1, VI y1), (2, .ref o1)]) (by decide +kernel) (Nat.le_of_ble_eq_true rfl) rfl hF hl ?_
  intro p e s m args below meth c hC hr ht
  change m_C D aC s0 RL _ _ _ _ _ _ _ _ _ at hC
  have hox : s0.heap.size ≤ o1 := by have := hG.1.2.2; omega
  refine m_aload_n hC 2 dL_bestWages_0 rfl rfl ?_
  refine m_iconst hC dL_bestWages_1 ?_
  refine m_aload_n hC 0 dL_bestWages_2 rfl rfl ?_
  refine m_iload_n hC 1 dL_bestWages_3 rfl rfl ?_
  refine m_callV hC hM dL_bestWages_4 kc_X9_bestWages kV_L_92 hG.2.1 rfl rfl rfl rfl (Nat.le_of_ble_eq_true rfl) (by decide) ⟨(Nat.le_of_ble_eq_true rfl), (Nat.le_of_ble_eq_true rfl)⟩ (fun E M1 ce q9 H1 locs1 ls h1 hx hH hS hce hcv hcl => ?_) (fun v9 M1 h9 => ?_)
  · obtain ⟨⟨hr1, hEs⟩, hA⟩ := hx
    have hk : r.1 = 1 := by
      have hlt := (List.getElem?_eq_some_iff.mp hEs).1
      simp only [List.length_cons, List.length_nil] at hlt
      omega
    rw [hk] at hEs
    have hE : eI = E := Option.some.inj hEs
    subst hE
    refine m_cat hC hN (pre := []) (a := 0) (b := 9) (h := 12) (ct := 23) (suf := []) (E := eI) ht rfl ct_I (fun y hy => absurd hy List.not_mem_nil) ⟨by decide, by decide⟩ h1 hH hS hce hcv hcl ?_
    refine m_astore_n hC dL_bestWages_12 rfl (by decide) rfl ?_
    refine m_iconst hC dL_bestWages_13 ?_
    exact m_iret hC dL_bestWages_14 hr (Nat.le_of_ble_eq_true rfl) (Nat.le_of_ble_eq_true rfl) (wQ.ex hk (by decide) hA ho hO)
  · obtain ⟨h0, rfl, hA⟩ := h9
    have hO1 := (hA.2.2 o1 ho.2 (Or.inr ho.1)).trans hO
    refine m_i2l hC dL_bestWages_7 ?_
    refine m_last1 hC dL_bestWages_8 hO1 hox (fun M2 R2 f2 => ?_)
    refine m_goto (tgt := 15) hC dL_bestWages_9 (by decide) ?_
    refine m_iconst hC dL_bestWages_15 ?_
    exact m_iret hC dL_bestWages_16 hr (Nat.le_of_ble_eq_true rfl) (Nat.le_of_ble_eq_true rfl) (wQ.ok h0 hA ho R2 f2)
theorem kw_L_bestWagesByTable : m_cdW yL_bestWagesByTable cL_bestWagesByTable 4 (some .int) [(0, 9, 12, 23)] 3 := ⟨lwg_of (List.mem_append_right _ (List.mem_of_getElem? (i := 1208) (by decide +kernel))) rfl, lwg_of (List.mem_append_right _ (List.mem_of_getElem? (i := 0) (by decide +kernel))) rfl, by decide +kernel, by decide +kernel, by decide +kernel⟩
set_option maxHeartbeats 2000000 in
theorem w_bestWagesByTable {D : va_G} {aC : Nat → ClassId} {s0 : State} {l : Launch} (hF : m_F D aC s0) (hl : l.stackTraces = false) {fo : Nat → Nat} {x w o1 : Nat} {W W2 : gW} {r : Int × Int} {M : m_M} (hN : m_NC s0) (hG : gIn s0.heap.size fo x w W M) (ho : x + 238 ≤ o1 ∧ o1 < w) {f : Nat → Value} (hO : M.2 o1 = some (m_va 3 1 f)) {y1 : Int} (hM : cU D aC s0 l fo x w yX9_bestWagesByTable cX9_bestWagesByTable 2 (some .int) 12 [.ref x, VI y1] M [eI] r W2) : m_MetW D aC s0 l yL_bestWagesByTable cL_bestWagesByTable 4 (some .int) [(0, 9, 12, 23)] 13 470 940 [.ref x, VI y1, .ref o1] M (wQ s0.heap.size fo x w o1 r W2 M) := by
  refine m_entryW (lv := [(0, .ref x), (1, VI y1), (2, .ref o1)]) (by decide +kernel) (Nat.le_of_ble_eq_true rfl) rfl hF hl ?_
  intro p e s m args below meth c hC hr ht
  change m_C D aC s0 RL _ _ _ _ _ _ _ _ _ at hC
  have hox : s0.heap.size ≤ o1 := by have := hG.1.2.2; omega
  refine m_aload_n hC 2 dL_bestWagesByTable_0 rfl rfl ?_
  refine m_iconst hC dL_bestWagesByTable_1 ?_
  refine m_aload_n hC 0 dL_bestWagesByTable_2 rfl rfl ?_
  refine m_iload_n hC 1 dL_bestWagesByTable_3 rfl rfl ?_
  refine m_callV hC hM dL_bestWagesByTable_4 kc_X9_bestWagesByTable kV_L_95 hG.2.1 rfl rfl rfl rfl (Nat.le_of_ble_eq_true rfl) (by decide) ⟨(Nat.le_of_ble_eq_true rfl), (Nat.le_of_ble_eq_true rfl)⟩ (fun E M1 ce q9 H1 locs1 ls h1 hx hH hS hce hcv hcl => ?_) (fun v9 M1 h9 => ?_)
  · obtain ⟨⟨hr1, hEs⟩, hA⟩ := hx
    have hk : r.1 = 1 := by
      have hlt := (List.getElem?_eq_some_iff.mp hEs).1
      simp only [List.length_cons, List.length_nil] at hlt
      omega
    rw [hk] at hEs
    have hE : eI = E := Option.some.inj hEs
    subst hE
    refine m_cat hC hN (pre := []) (a := 0) (b := 9) (h := 12) (ct := 23) (suf := []) (E := eI) ht rfl ct_I (fun y hy => absurd hy List.not_mem_nil) ⟨by decide, by decide⟩ h1 hH hS hce hcv hcl ?_
    refine m_astore_n hC dL_bestWagesByTable_12 rfl (by decide) rfl ?_
    refine m_iconst hC dL_bestWagesByTable_13 ?_
    exact m_iret hC dL_bestWagesByTable_14 hr (Nat.le_of_ble_eq_true rfl) (Nat.le_of_ble_eq_true rfl) (wQ.ex hk (by decide) hA ho hO)
  · obtain ⟨h0, rfl, hA⟩ := h9
    have hO1 := (hA.2.2 o1 ho.2 (Or.inr ho.1)).trans hO
    refine m_i2l hC dL_bestWagesByTable_7 ?_
    refine m_last1 hC dL_bestWagesByTable_8 hO1 hox (fun M2 R2 f2 => ?_)
    refine m_goto (tgt := 15) hC dL_bestWagesByTable_9 (by decide) ?_
    refine m_iconst hC dL_bestWagesByTable_15 ?_
    exact m_iret hC dL_bestWagesByTable_16 hr (Nat.le_of_ble_eq_true rfl) (Nat.le_of_ble_eq_true rfl) (wQ.ok h0 hA ho R2 f2)
theorem kw_L_contractAt : m_cdW yL_contractAt cL_contractAt 4 (some .int) [(0, 9, 12, 37)] 3 := ⟨lwg_of (List.mem_append_right _ (List.mem_of_getElem? (i := 1212) (by decide +kernel))) rfl, lwg_of (List.mem_append_right _ (List.mem_of_getElem? (i := 0) (by decide +kernel))) rfl, by decide +kernel, by decide +kernel, by decide +kernel⟩
set_option maxHeartbeats 2000000 in
theorem w_contractAt {D : va_G} {aC : Nat → ClassId} {s0 : State} {l : Launch} (hF : m_F D aC s0) (hl : l.stackTraces = false) {fo : Nat → Nat} {x w o1 : Nat} {W W2 : gW} {r : Int × Int} {M : m_M} (hN : m_NC s0) (hG : gIn s0.heap.size fo x w W M) (ho : x + 238 ≤ o1 ∧ o1 < w) {f : Nat → Value} (hO : M.2 o1 = some (m_va 3 1 f)) {y1 : Int} (hM : cU D aC s0 l fo x w yX9_contractAt cX9_contractAt 2 (some .int) 12 [.ref x, VI y1] M [eN] r W2) : m_MetW D aC s0 l yL_contractAt cL_contractAt 4 (some .int) [(0, 9, 12, 37)] 13 470 940 [.ref x, VI y1, .ref o1] M (wQ s0.heap.size fo x w o1 r W2 M) := by
  refine m_entryW (lv := [(0, .ref x), (1, VI y1), (2, .ref o1)]) (by decide +kernel) (Nat.le_of_ble_eq_true rfl) rfl hF hl ?_
  intro p e s m args below meth c hC hr ht
  change m_C D aC s0 RL _ _ _ _ _ _ _ _ _ at hC
  have hox : s0.heap.size ≤ o1 := by have := hG.1.2.2; omega
  refine m_aload_n hC 2 dL_contractAt_0 rfl rfl ?_
  refine m_iconst hC dL_contractAt_1 ?_
  refine m_aload_n hC 0 dL_contractAt_2 rfl rfl ?_
  refine m_iload_n hC 1 dL_contractAt_3 rfl rfl ?_
  refine m_callV hC hM dL_contractAt_4 kc_X9_contractAt kV_L_98 hG.2.1 rfl rfl rfl rfl (Nat.le_of_ble_eq_true rfl) (by decide) ⟨(Nat.le_of_ble_eq_true rfl), (Nat.le_of_ble_eq_true rfl)⟩ (fun E M1 ce q9 H1 locs1 ls h1 hx hH hS hce hcv hcl => ?_) (fun v9 M1 h9 => ?_)
  · obtain ⟨⟨hr1, hEs⟩, hA⟩ := hx
    have hk : r.1 = 1 := by
      have hlt := (List.getElem?_eq_some_iff.mp hEs).1
      simp only [List.length_cons, List.length_nil] at hlt
      omega
    rw [hk] at hEs
    have hE : eN = E := Option.some.inj hEs
    subst hE
    refine m_cat hC hN (pre := []) (a := 0) (b := 9) (h := 12) (ct := 37) (suf := []) (E := eN) ht rfl ct_N (fun y hy => absurd hy List.not_mem_nil) ⟨by decide, by decide⟩ h1 hH hS hce hcv hcl ?_
    refine m_astore_n hC dL_contractAt_12 rfl (by decide) rfl ?_
    refine m_iconst hC dL_contractAt_13 ?_
    exact m_iret hC dL_contractAt_14 hr (Nat.le_of_ble_eq_true rfl) (Nat.le_of_ble_eq_true rfl) (wQ.ex hk (by decide) hA ho hO)
  · obtain ⟨h0, rfl, hA⟩ := h9
    have hO1 := (hA.2.2 o1 ho.2 (Or.inr ho.1)).trans hO
    refine m_i2l hC dL_contractAt_7 ?_
    refine m_last1 hC dL_contractAt_8 hO1 hox (fun M2 R2 f2 => ?_)
    refine m_goto (tgt := 15) hC dL_contractAt_9 (by decide) ?_
    refine m_iconst hC dL_contractAt_15 ?_
    exact m_iret hC dL_contractAt_16 hr (Nat.le_of_ble_eq_true rfl) (Nat.le_of_ble_eq_true rfl) (wQ.ok h0 hA ho R2 f2)
theorem kw_L_goblinOf : m_cdW yL_goblinOf cL_goblinOf 4 (some .int) [(0, 9, 12, 37)] 3 := ⟨lwg_of (List.mem_append_right _ (List.mem_of_getElem? (i := 1220) (by decide +kernel))) rfl, lwg_of (List.mem_append_right _ (List.mem_of_getElem? (i := 0) (by decide +kernel))) rfl, by decide +kernel, by decide +kernel, by decide +kernel⟩
set_option maxHeartbeats 2000000 in
theorem w_goblinOf {D : va_G} {aC : Nat → ClassId} {s0 : State} {l : Launch} (hF : m_F D aC s0) (hl : l.stackTraces = false) {fo : Nat → Nat} {x w o1 : Nat} {W W2 : gW} {r : Int × Int} {M : m_M} (hN : m_NC s0) (hG : gIn s0.heap.size fo x w W M) (ho : x + 238 ≤ o1 ∧ o1 < w) {f : Nat → Value} (hO : M.2 o1 = some (m_va 3 1 f)) {y1 : Int} (hM : cU D aC s0 l fo x w yX9_goblinOf cX9_goblinOf 2 (some .int) 12 [.ref x, VI y1] M [eN] r W2) : m_MetW D aC s0 l yL_goblinOf cL_goblinOf 4 (some .int) [(0, 9, 12, 37)] 13 470 940 [.ref x, VI y1, .ref o1] M (wQ s0.heap.size fo x w o1 r W2 M) := by
  refine m_entryW (lv := [(0, .ref x), (1, VI y1), (2, .ref o1)]) (by decide +kernel) (Nat.le_of_ble_eq_true rfl) rfl hF hl ?_
  intro p e s m args below meth c hC hr ht
  change m_C D aC s0 RL _ _ _ _ _ _ _ _ _ at hC
  have hox : s0.heap.size ≤ o1 := by have := hG.1.2.2; omega
  refine m_aload_n hC 2 dL_goblinOf_0 rfl rfl ?_
  refine m_iconst hC dL_goblinOf_1 ?_
  refine m_aload_n hC 0 dL_goblinOf_2 rfl rfl ?_
  refine m_iload_n hC 1 dL_goblinOf_3 rfl rfl ?_
  refine m_callV hC hM dL_goblinOf_4 kc_X9_goblinOf kV_L_101 hG.2.1 rfl rfl rfl rfl (Nat.le_of_ble_eq_true rfl) (by decide) ⟨(Nat.le_of_ble_eq_true rfl), (Nat.le_of_ble_eq_true rfl)⟩ (fun E M1 ce q9 H1 locs1 ls h1 hx hH hS hce hcv hcl => ?_) (fun v9 M1 h9 => ?_)
  · obtain ⟨⟨hr1, hEs⟩, hA⟩ := hx
    have hk : r.1 = 1 := by
      have hlt := (List.getElem?_eq_some_iff.mp hEs).1
      simp only [List.length_cons, List.length_nil] at hlt
      omega
    rw [hk] at hEs
    have hE : eN = E := Option.some.inj hEs
    subst hE
    refine m_cat hC hN (pre := []) (a := 0) (b := 9) (h := 12) (ct := 37) (suf := []) (E := eN) ht rfl ct_N (fun y hy => absurd hy List.not_mem_nil) ⟨by decide, by decide⟩ h1 hH hS hce hcv hcl ?_
    refine m_astore_n hC dL_goblinOf_12 rfl (by decide) rfl ?_
    refine m_iconst hC dL_goblinOf_13 ?_
    exact m_iret hC dL_goblinOf_14 hr (Nat.le_of_ble_eq_true rfl) (Nat.le_of_ble_eq_true rfl) (wQ.ex hk (by decide) hA ho hO)
  · obtain ⟨h0, rfl, hA⟩ := h9
    have hO1 := (hA.2.2 o1 ho.2 (Or.inr ho.1)).trans hO
    refine m_i2l hC dL_goblinOf_7 ?_
    refine m_last1 hC dL_goblinOf_8 hO1 hox (fun M2 R2 f2 => ?_)
    refine m_goto (tgt := 15) hC dL_goblinOf_9 (by decide) ?_
    refine m_iconst hC dL_goblinOf_15 ?_
    exact m_iret hC dL_goblinOf_16 hr (Nat.le_of_ble_eq_true rfl) (Nat.le_of_ble_eq_true rfl) (wQ.ok h0 hA ho R2 f2)
theorem kw_L_roomOf : m_cdW yL_roomOf cL_roomOf 4 (some .int) [(0, 9, 12, 37)] 3 := ⟨lwg_of (List.mem_append_right _ (List.mem_of_getElem? (i := 1232) (by decide +kernel))) rfl, lwg_of (List.mem_append_right _ (List.mem_of_getElem? (i := 0) (by decide +kernel))) rfl, by decide +kernel, by decide +kernel, by decide +kernel⟩
set_option maxHeartbeats 2000000 in
theorem w_roomOf {D : va_G} {aC : Nat → ClassId} {s0 : State} {l : Launch} (hF : m_F D aC s0) (hl : l.stackTraces = false) {fo : Nat → Nat} {x w o1 : Nat} {W W2 : gW} {r : Int × Int} {M : m_M} (hN : m_NC s0) (hG : gIn s0.heap.size fo x w W M) (ho : x + 238 ≤ o1 ∧ o1 < w) {f : Nat → Value} (hO : M.2 o1 = some (m_va 3 1 f)) {y1 : Int} (hM : cU D aC s0 l fo x w yX9_roomOf cX9_roomOf 2 (some .int) 12 [.ref x, VI y1] M [eN] r W2) : m_MetW D aC s0 l yL_roomOf cL_roomOf 4 (some .int) [(0, 9, 12, 37)] 13 470 940 [.ref x, VI y1, .ref o1] M (wQ s0.heap.size fo x w o1 r W2 M) := by
  refine m_entryW (lv := [(0, .ref x), (1, VI y1), (2, .ref o1)]) (by decide +kernel) (Nat.le_of_ble_eq_true rfl) rfl hF hl ?_
  intro p e s m args below meth c hC hr ht
  change m_C D aC s0 RL _ _ _ _ _ _ _ _ _ at hC
  have hox : s0.heap.size ≤ o1 := by have := hG.1.2.2; omega
  refine m_aload_n hC 2 dL_roomOf_0 rfl rfl ?_
  refine m_iconst hC dL_roomOf_1 ?_
  refine m_aload_n hC 0 dL_roomOf_2 rfl rfl ?_
  refine m_iload_n hC 1 dL_roomOf_3 rfl rfl ?_
  refine m_callV hC hM dL_roomOf_4 kc_X9_roomOf kV_L_104 hG.2.1 rfl rfl rfl rfl (Nat.le_of_ble_eq_true rfl) (by decide) ⟨(Nat.le_of_ble_eq_true rfl), (Nat.le_of_ble_eq_true rfl)⟩ (fun E M1 ce q9 H1 locs1 ls h1 hx hH hS hce hcv hcl => ?_) (fun v9 M1 h9 => ?_)
  · obtain ⟨⟨hr1, hEs⟩, hA⟩ := hx
    have hk : r.1 = 1 := by
      have hlt := (List.getElem?_eq_some_iff.mp hEs).1
      simp only [List.length_cons, List.length_nil] at hlt
      omega
    rw [hk] at hEs
    have hE : eN = E := Option.some.inj hEs
    subst hE
    refine m_cat hC hN (pre := []) (a := 0) (b := 9) (h := 12) (ct := 37) (suf := []) (E := eN) ht rfl ct_N (fun y hy => absurd hy List.not_mem_nil) ⟨by decide, by decide⟩ h1 hH hS hce hcv hcl ?_
    refine m_astore_n hC dL_roomOf_12 rfl (by decide) rfl ?_
    refine m_iconst hC dL_roomOf_13 ?_
    exact m_iret hC dL_roomOf_14 hr (Nat.le_of_ble_eq_true rfl) (Nat.le_of_ble_eq_true rfl) (wQ.ex hk (by decide) hA ho hO)
  · obtain ⟨h0, rfl, hA⟩ := h9
    have hO1 := (hA.2.2 o1 ho.2 (Or.inr ho.1)).trans hO
    refine m_i2l hC dL_roomOf_7 ?_
    refine m_last1 hC dL_roomOf_8 hO1 hox (fun M2 R2 f2 => ?_)
    refine m_goto (tgt := 15) hC dL_roomOf_9 (by decide) ?_
    refine m_iconst hC dL_roomOf_15 ?_
    exact m_iret hC dL_roomOf_16 hr (Nat.le_of_ble_eq_true rfl) (Nat.le_of_ble_eq_true rfl) (wQ.ok h0 hA ho R2 f2)
theorem kw_L_wage : m_cdW yL_wage cL_wage 4 (some .int) [(0, 9, 12, 37)] 3 := ⟨lwg_of (List.mem_append_right _ (List.mem_of_getElem? (i := 1239) (by decide +kernel))) rfl, lwg_of (List.mem_append_right _ (List.mem_of_getElem? (i := 0) (by decide +kernel))) rfl, by decide +kernel, by decide +kernel, by decide +kernel⟩
set_option maxHeartbeats 2000000 in
theorem w_wage {D : va_G} {aC : Nat → ClassId} {s0 : State} {l : Launch} (hF : m_F D aC s0) (hl : l.stackTraces = false) {fo : Nat → Nat} {x w o1 : Nat} {W W2 : gW} {r : Int × Int} {M : m_M} (hN : m_NC s0) (hG : gIn s0.heap.size fo x w W M) (ho : x + 238 ≤ o1 ∧ o1 < w) {f : Nat → Value} (hO : M.2 o1 = some (m_va 3 1 f)) {y1 : Int} (hM : cU D aC s0 l fo x w yX9_wage cX9_wage 2 (some .int) 12 [.ref x, VI y1] M [eN] r W2) : m_MetW D aC s0 l yL_wage cL_wage 4 (some .int) [(0, 9, 12, 37)] 13 470 940 [.ref x, VI y1, .ref o1] M (wQ s0.heap.size fo x w o1 r W2 M) := by
  refine m_entryW (lv := [(0, .ref x), (1, VI y1), (2, .ref o1)]) (by decide +kernel) (Nat.le_of_ble_eq_true rfl) rfl hF hl ?_
  intro p e s m args below meth c hC hr ht
  change m_C D aC s0 RL _ _ _ _ _ _ _ _ _ at hC
  have hox : s0.heap.size ≤ o1 := by have := hG.1.2.2; omega
  refine m_aload_n hC 2 dL_wage_0 rfl rfl ?_
  refine m_iconst hC dL_wage_1 ?_
  refine m_aload_n hC 0 dL_wage_2 rfl rfl ?_
  refine m_iload_n hC 1 dL_wage_3 rfl rfl ?_
  refine m_callV hC hM dL_wage_4 kc_X9_wage kV_L_107 hG.2.1 rfl rfl rfl rfl (Nat.le_of_ble_eq_true rfl) (by decide) ⟨(Nat.le_of_ble_eq_true rfl), (Nat.le_of_ble_eq_true rfl)⟩ (fun E M1 ce q9 H1 locs1 ls h1 hx hH hS hce hcv hcl => ?_) (fun v9 M1 h9 => ?_)
  · obtain ⟨⟨hr1, hEs⟩, hA⟩ := hx
    have hk : r.1 = 1 := by
      have hlt := (List.getElem?_eq_some_iff.mp hEs).1
      simp only [List.length_cons, List.length_nil] at hlt
      omega
    rw [hk] at hEs
    have hE : eN = E := Option.some.inj hEs
    subst hE
    refine m_cat hC hN (pre := []) (a := 0) (b := 9) (h := 12) (ct := 37) (suf := []) (E := eN) ht rfl ct_N (fun y hy => absurd hy List.not_mem_nil) ⟨by decide, by decide⟩ h1 hH hS hce hcv hcl ?_
    refine m_astore_n hC dL_wage_12 rfl (by decide) rfl ?_
    refine m_iconst hC dL_wage_13 ?_
    exact m_iret hC dL_wage_14 hr (Nat.le_of_ble_eq_true rfl) (Nat.le_of_ble_eq_true rfl) (wQ.ex hk (by decide) hA ho hO)
  · obtain ⟨h0, rfl, hA⟩ := h9
    have hO1 := (hA.2.2 o1 ho.2 (Or.inr ho.1)).trans hO
    refine m_i2l hC dL_wage_7 ?_
    refine m_last1 hC dL_wage_8 hO1 hox (fun M2 R2 f2 => ?_)
    refine m_goto (tgt := 15) hC dL_wage_9 (by decide) ?_
    refine m_iconst hC dL_wage_15 ?_
    exact m_iret hC dL_wage_16 hr (Nat.le_of_ble_eq_true rfl) (Nat.le_of_ble_eq_true rfl) (wQ.ok h0 hA ho R2 f2)
theorem kw_L_effort : m_cdW yL_effort cL_effort 4 (some .int) [(0, 9, 12, 37)] 3 := ⟨lwg_of (List.mem_append_right _ (List.mem_of_getElem? (i := 1246) (by decide +kernel))) rfl, lwg_of (List.mem_append_right _ (List.mem_of_getElem? (i := 0) (by decide +kernel))) rfl, by decide +kernel, by decide +kernel, by decide +kernel⟩
set_option maxHeartbeats 2000000 in
theorem w_effort {D : va_G} {aC : Nat → ClassId} {s0 : State} {l : Launch} (hF : m_F D aC s0) (hl : l.stackTraces = false) {fo : Nat → Nat} {x w o1 : Nat} {W W2 : gW} {r : Int × Int} {M : m_M} (hN : m_NC s0) (hG : gIn s0.heap.size fo x w W M) (ho : x + 238 ≤ o1 ∧ o1 < w) {f : Nat → Value} (hO : M.2 o1 = some (m_va 3 1 f)) {y1 : Int} (hM : cU D aC s0 l fo x w yX9_effort cX9_effort 2 (some .int) 12 [.ref x, VI y1] M [eN] r W2) : m_MetW D aC s0 l yL_effort cL_effort 4 (some .int) [(0, 9, 12, 37)] 13 470 940 [.ref x, VI y1, .ref o1] M (wQ s0.heap.size fo x w o1 r W2 M) := by
  refine m_entryW (lv := [(0, .ref x), (1, VI y1), (2, .ref o1)]) (by decide +kernel) (Nat.le_of_ble_eq_true rfl) rfl hF hl ?_
  intro p e s m args below meth c hC hr ht
  change m_C D aC s0 RL _ _ _ _ _ _ _ _ _ at hC
  have hox : s0.heap.size ≤ o1 := by have := hG.1.2.2; omega
  refine m_aload_n hC 2 dL_effort_0 rfl rfl ?_
  refine m_iconst hC dL_effort_1 ?_
  refine m_aload_n hC 0 dL_effort_2 rfl rfl ?_
  refine m_iload_n hC 1 dL_effort_3 rfl rfl ?_
  refine m_callV hC hM dL_effort_4 kc_X9_effort kV_L_110 hG.2.1 rfl rfl rfl rfl (Nat.le_of_ble_eq_true rfl) (by decide) ⟨(Nat.le_of_ble_eq_true rfl), (Nat.le_of_ble_eq_true rfl)⟩ (fun E M1 ce q9 H1 locs1 ls h1 hx hH hS hce hcv hcl => ?_) (fun v9 M1 h9 => ?_)
  · obtain ⟨⟨hr1, hEs⟩, hA⟩ := hx
    have hk : r.1 = 1 := by
      have hlt := (List.getElem?_eq_some_iff.mp hEs).1
      simp only [List.length_cons, List.length_nil] at hlt
      omega
    rw [hk] at hEs
    have hE : eN = E := Option.some.inj hEs
    subst hE
    refine m_cat hC hN (pre := []) (a := 0) (b := 9) (h := 12) (ct := 37) (suf := []) (E := eN) ht rfl ct_N (fun y hy => absurd hy List.not_mem_nil) ⟨by decide, by decide⟩ h1 hH hS hce hcv hcl ?_
    refine m_astore_n hC dL_effort_12 rfl (by decide) rfl ?_
    refine m_iconst hC dL_effort_13 ?_
    exact m_iret hC dL_effort_14 hr (Nat.le_of_ble_eq_true rfl) (Nat.le_of_ble_eq_true rfl) (wQ.ex hk (by decide) hA ho hO)
  · obtain ⟨h0, rfl, hA⟩ := h9
    have hO1 := (hA.2.2 o1 ho.2 (Or.inr ho.1)).trans hO
    refine m_i2l hC dL_effort_7 ?_
    refine m_last1 hC dL_effort_8 hO1 hox (fun M2 R2 f2 => ?_)
    refine m_goto (tgt := 15) hC dL_effort_9 (by decide) ?_
    refine m_iconst hC dL_effort_15 ?_
    exact m_iret hC dL_effort_16 hr (Nat.le_of_ble_eq_true rfl) (Nat.le_of_ble_eq_true rfl) (wQ.ok h0 hA ho R2 f2)
theorem kw_L_nightsUntilDone : m_cdW yL_nightsUntilDone cL_nightsUntilDone 4 (some .int) [(0, 9, 12, 37), (0, 9, 15, 15)] 3 := ⟨lwg_of (List.mem_append_right _ (List.mem_of_getElem? (i := 1253) (by decide +kernel))) rfl, lwg_of (List.mem_append_right _ (List.mem_of_getElem? (i := 0) (by decide +kernel))) rfl, by decide +kernel, by decide +kernel, by decide +kernel⟩
set_option maxHeartbeats 2000000 in
theorem w_nightsUntilDone {D : va_G} {aC : Nat → ClassId} {s0 : State} {l : Launch} (hF : m_F D aC s0) (hl : l.stackTraces = false) {fo : Nat → Nat} {x w o1 : Nat} {W W2 : gW} {r : Int × Int} {M : m_M} (hN : m_NC s0) (hG : gIn s0.heap.size fo x w W M) (ho : x + 238 ≤ o1 ∧ o1 < w) {f : Nat → Value} (hO : M.2 o1 = some (m_va 3 1 f)) {y1 : Int} (hM : cU D aC s0 l fo x w yX9_nightsUntilDone cX9_nightsUntilDone 4 (some .int) 12 [.ref x, VI y1] M [eN, eS] r W2) : m_MetW D aC s0 l yL_nightsUntilDone cL_nightsUntilDone 4 (some .int) [(0, 9, 12, 37), (0, 9, 15, 15)] 13 470 940 [.ref x, VI y1, .ref o1] M (wQ s0.heap.size fo x w o1 r W2 M) := by
  refine m_entryW (lv := [(0, .ref x), (1, VI y1), (2, .ref o1)]) (by decide +kernel) (Nat.le_of_ble_eq_true rfl) rfl hF hl ?_
  intro p e s m args below meth c hC hr ht
  change m_C D aC s0 RL _ _ _ _ _ _ _ _ _ at hC
  have hox : s0.heap.size ≤ o1 := by have := hG.1.2.2; omega
  refine m_aload_n hC 2 dL_nightsUntilDone_0 rfl rfl ?_
  refine m_iconst hC dL_nightsUntilDone_1 ?_
  refine m_aload_n hC 0 dL_nightsUntilDone_2 rfl rfl ?_
  refine m_iload_n hC 1 dL_nightsUntilDone_3 rfl rfl ?_
  refine m_callV hC hM dL_nightsUntilDone_4 kc_X9_nightsUntilDone kV_L_113 hG.2.1 rfl rfl rfl rfl (Nat.le_of_ble_eq_true rfl) (by decide) ⟨(Nat.le_of_ble_eq_true rfl), (Nat.le_of_ble_eq_true rfl)⟩ (fun E M1 ce q9 H1 locs1 ls h1 hx hH hS hce hcv hcl => ?_) (fun v9 M1 h9 => ?_)
  · obtain ⟨⟨hr1, hEs⟩, hA⟩ := hx
    have hk : r.1 = 1 ∨ r.1 = 2 := by
      have hlt := (List.getElem?_eq_some_iff.mp hEs).1
      simp only [List.length_cons, List.length_nil] at hlt
      omega
    rcases hk with hk | hk
    · rw [hk] at hEs
      have hE : eN = E := Option.some.inj hEs
      subst hE
      refine m_cat hC hN (pre := []) (a := 0) (b := 9) (h := 12) (ct := 37) (suf := [(0, 9, 15, 15)]) (E := eN) ht rfl ct_N (fun y hy => absurd hy List.not_mem_nil) ⟨by decide, by decide⟩ h1 hH hS hce hcv hcl ?_
      refine m_astore_n hC dL_nightsUntilDone_12 rfl (by decide) rfl ?_
      refine m_iconst hC dL_nightsUntilDone_13 ?_
      exact m_iret hC dL_nightsUntilDone_14 hr (Nat.le_of_ble_eq_true rfl) (Nat.le_of_ble_eq_true rfl) (wQ.ex hk (by decide) hA ho hO)
    · rw [hk] at hEs
      have hE : eS = E := Option.some.inj hEs
      subst hE
      refine m_cat hC hN (pre := [(0, 9, 12, 37)]) (a := 0) (b := 9) (h := 15) (ct := 15) (suf := []) (E := eS) ht rfl ct_S (List.forall_mem_cons.mpr ⟨⟨eN, ct_N, by decide⟩, (fun y hy => absurd hy List.not_mem_nil)⟩) ⟨by decide, by decide⟩ h1 hH hS hce hcv hcl ?_
      refine m_astore_n hC dL_nightsUntilDone_15 rfl (by decide) rfl ?_
      refine m_iconst hC dL_nightsUntilDone_16 ?_
      exact m_iret hC dL_nightsUntilDone_17 hr (Nat.le_of_ble_eq_true rfl) (Nat.le_of_ble_eq_true rfl) (wQ.ex hk (by decide) hA ho hO)
  · obtain ⟨h0, rfl, hA⟩ := h9
    have hO1 := (hA.2.2 o1 ho.2 (Or.inr ho.1)).trans hO
    refine m_i2l hC dL_nightsUntilDone_7 ?_
    refine m_last1 hC dL_nightsUntilDone_8 hO1 hox (fun M2 R2 f2 => ?_)
    refine m_goto (tgt := 18) hC dL_nightsUntilDone_9 (by decide) ?_
    refine m_iconst hC dL_nightsUntilDone_18 ?_
    exact m_iret hC dL_nightsUntilDone_19 hr (Nat.le_of_ble_eq_true rfl) (Nat.le_of_ble_eq_true rfl) (wQ.ok h0 hA ho R2 f2)
theorem kw_L_chestAfter : m_cdW yL_chestAfter cL_chestAfter 4 (some .int) [(0, 9, 12, 13)] 3 := ⟨lwg_of (List.mem_append_right _ (List.mem_of_getElem? (i := 1263) (by decide +kernel))) rfl, lwg_of (List.mem_append_right _ (List.mem_of_getElem? (i := 0) (by decide +kernel))) rfl, by decide +kernel, by decide +kernel, by decide +kernel⟩
set_option maxHeartbeats 2000000 in
theorem w_chestAfter {D : va_G} {aC : Nat → ClassId} {s0 : State} {l : Launch} (hF : m_F D aC s0) (hl : l.stackTraces = false) {fo : Nat → Nat} {x w o1 : Nat} {W W2 : gW} {r : Int × Int} {M : m_M} (hN : m_NC s0) (hG : gIn s0.heap.size fo x w W M) (ho : x + 238 ≤ o1 ∧ o1 < w) {f : Nat → Value} (hO : M.2 o1 = some (m_va 3 1 f)) {y1 : Int} (hM : cU D aC s0 l fo x w yX9_chestAfter cX9_chestAfter 2 (some .int) 12 [.ref x, VI y1] M [eA] r W2) : m_MetW D aC s0 l yL_chestAfter cL_chestAfter 4 (some .int) [(0, 9, 12, 13)] 13 470 940 [.ref x, VI y1, .ref o1] M (wQ s0.heap.size fo x w o1 r W2 M) := by
  refine m_entryW (lv := [(0, .ref x), (1, VI y1), (2, .ref o1)]) (by decide +kernel) (Nat.le_of_ble_eq_true rfl) rfl hF hl ?_
  intro p e s m args below meth c hC hr ht
  change m_C D aC s0 RL _ _ _ _ _ _ _ _ _ at hC
  have hox : s0.heap.size ≤ o1 := by have := hG.1.2.2; omega
  refine m_aload_n hC 2 dL_chestAfter_0 rfl rfl ?_
  refine m_iconst hC dL_chestAfter_1 ?_
  refine m_aload_n hC 0 dL_chestAfter_2 rfl rfl ?_
  refine m_iload_n hC 1 dL_chestAfter_3 rfl rfl ?_
  refine m_callV hC hM dL_chestAfter_4 kc_X9_chestAfter kV_L_116 hG.2.1 rfl rfl rfl rfl (Nat.le_of_ble_eq_true rfl) (by decide) ⟨(Nat.le_of_ble_eq_true rfl), (Nat.le_of_ble_eq_true rfl)⟩ (fun E M1 ce q9 H1 locs1 ls h1 hx hH hS hce hcv hcl => ?_) (fun v9 M1 h9 => ?_)
  · obtain ⟨⟨hr1, hEs⟩, hA⟩ := hx
    have hk : r.1 = 1 := by
      have hlt := (List.getElem?_eq_some_iff.mp hEs).1
      simp only [List.length_cons, List.length_nil] at hlt
      omega
    rw [hk] at hEs
    have hE : eA = E := Option.some.inj hEs
    subst hE
    refine m_cat hC hN (pre := []) (a := 0) (b := 9) (h := 12) (ct := 13) (suf := []) (E := eA) ht rfl ct_A (fun y hy => absurd hy List.not_mem_nil) ⟨by decide, by decide⟩ h1 hH hS hce hcv hcl ?_
    refine m_astore_n hC dL_chestAfter_12 rfl (by decide) rfl ?_
    refine m_iconst hC dL_chestAfter_13 ?_
    exact m_iret hC dL_chestAfter_14 hr (Nat.le_of_ble_eq_true rfl) (Nat.le_of_ble_eq_true rfl) (wQ.ex hk (by decide) hA ho hO)
  · obtain ⟨h0, rfl, hA⟩ := h9
    have hO1 := (hA.2.2 o1 ho.2 (Or.inr ho.1)).trans hO
    refine m_i2l hC dL_chestAfter_7 ?_
    refine m_last1 hC dL_chestAfter_8 hO1 hox (fun M2 R2 f2 => ?_)
    refine m_goto (tgt := 15) hC dL_chestAfter_9 (by decide) ?_
    refine m_iconst hC dL_chestAfter_15 ?_
    exact m_iret hC dL_chestAfter_16 hr (Nat.le_of_ble_eq_true rfl) (Nat.le_of_ble_eq_true rfl) (wQ.ok h0 hA ho R2 f2)
theorem kw_L_debtAfter : m_cdW yL_debtAfter cL_debtAfter 5 (some .int) [(0, 10, 13, 23), (0, 10, 17, 13)] 4 := ⟨lwg_of (List.mem_append_right _ (List.mem_of_getElem? (i := 1275) (by decide +kernel))) rfl, lwg_of (List.mem_append_right _ (List.mem_of_getElem? (i := 0) (by decide +kernel))) rfl, by decide +kernel, by decide +kernel, by decide +kernel⟩
set_option maxHeartbeats 2000000 in
theorem w_debtAfter {D : va_G} {aC : Nat → ClassId} {s0 : State} {l : Launch} (hF : m_F D aC s0) (hl : l.stackTraces = false) {fo : Nat → Nat} {x w o1 : Nat} {W W2 : gW} {r : Int × Int} {M : m_M} (hN : m_NC s0) (hG : gIn s0.heap.size fo x w W M) (ho : x + 238 ≤ o1 ∧ o1 < w) {f : Nat → Value} (hO : M.2 o1 = some (m_va 3 1 f)) {y1 : Int} {y2 : Int} (hM : cU D aC s0 l fo x w yX9_debtAfter cX9_debtAfter 3 (some .int) 12 [.ref x, VI y1, VI y2] M [eI, eA] r W2) : m_MetW D aC s0 l yL_debtAfter cL_debtAfter 5 (some .int) [(0, 10, 13, 23), (0, 10, 17, 13)] 13 470 940 [.ref x, VI y1, VI y2, .ref o1] M (wQ s0.heap.size fo x w o1 r W2 M) := by
  refine m_entryW (lv := [(0, .ref x), (1, VI y1), (2, VI y2), (3, .ref o1)]) (by decide +kernel) (Nat.le_of_ble_eq_true rfl) rfl hF hl ?_
  intro p e s m args below meth c hC hr ht
  change m_C D aC s0 RL _ _ _ _ _ _ _ _ _ at hC
  have hox : s0.heap.size ≤ o1 := by have := hG.1.2.2; omega
  refine m_aload_n hC 3 dL_debtAfter_0 rfl rfl ?_
  refine m_iconst hC dL_debtAfter_1 ?_
  refine m_aload_n hC 0 dL_debtAfter_2 rfl rfl ?_
  refine m_iload_n hC 1 dL_debtAfter_3 rfl rfl ?_
  refine m_iload_n hC 2 dL_debtAfter_4 rfl rfl ?_
  refine m_callV hC hM dL_debtAfter_5 kc_X9_debtAfter kV_L_119 hG.2.1 rfl rfl rfl rfl (Nat.le_of_ble_eq_true rfl) (by decide) ⟨(Nat.le_of_ble_eq_true rfl), (Nat.le_of_ble_eq_true rfl)⟩ (fun E M1 ce q9 H1 locs1 ls h1 hx hH hS hce hcv hcl => ?_) (fun v9 M1 h9 => ?_)
  · obtain ⟨⟨hr1, hEs⟩, hA⟩ := hx
    have hk : r.1 = 1 ∨ r.1 = 2 := by
      have hlt := (List.getElem?_eq_some_iff.mp hEs).1
      simp only [List.length_cons, List.length_nil] at hlt
      omega
    rcases hk with hk | hk
    · rw [hk] at hEs
      have hE : eI = E := Option.some.inj hEs
      subst hE
      refine m_cat hC hN (pre := []) (a := 0) (b := 10) (h := 13) (ct := 23) (suf := [(0, 10, 17, 13)]) (E := eI) ht rfl ct_I (fun y hy => absurd hy List.not_mem_nil) ⟨by decide, by decide⟩ h1 hH hS hce hcv hcl ?_
      refine m_astore hC dL_debtAfter_13 (by decide) rfl ?_
      refine m_iconst hC dL_debtAfter_15 ?_
      exact m_iret hC dL_debtAfter_16 hr (Nat.le_of_ble_eq_true rfl) (Nat.le_of_ble_eq_true rfl) (wQ.ex hk (by decide) hA ho hO)
    · rw [hk] at hEs
      have hE : eA = E := Option.some.inj hEs
      subst hE
      refine m_cat hC hN (pre := [(0, 10, 13, 23)]) (a := 0) (b := 10) (h := 17) (ct := 13) (suf := []) (E := eA) ht rfl ct_A (List.forall_mem_cons.mpr ⟨⟨eI, ct_I, by decide⟩, (fun y hy => absurd hy List.not_mem_nil)⟩) ⟨by decide, by decide⟩ h1 hH hS hce hcv hcl ?_
      refine m_astore hC dL_debtAfter_17 (by decide) rfl ?_
      refine m_iconst hC dL_debtAfter_19 ?_
      exact m_iret hC dL_debtAfter_20 hr (Nat.le_of_ble_eq_true rfl) (Nat.le_of_ble_eq_true rfl) (wQ.ex hk (by decide) hA ho hO)
  · obtain ⟨h0, rfl, hA⟩ := h9
    have hO1 := (hA.2.2 o1 ho.2 (Or.inr ho.1)).trans hO
    refine m_i2l hC dL_debtAfter_8 ?_
    refine m_last1 hC dL_debtAfter_9 hO1 hox (fun M2 R2 f2 => ?_)
    refine m_goto (tgt := 21) hC dL_debtAfter_10 (by decide) ?_
    refine m_iconst hC dL_debtAfter_21 ?_
    exact m_iret hC dL_debtAfter_22 hr (Nat.le_of_ble_eq_true rfl) (Nat.le_of_ble_eq_true rfl) (wQ.ok h0 hA ho R2 f2)
theorem kw_L_reliability : m_cdW yL_reliability cL_reliability 3 (some .int) [(0, 8, 11, 126)] 2 := ⟨lwg_of (List.mem_append_right _ (List.mem_of_getElem? (i := 1282) (by decide +kernel))) rfl, lwg_of (List.mem_append_right _ (List.mem_of_getElem? (i := 0) (by decide +kernel))) rfl, by decide +kernel, by decide +kernel, by decide +kernel⟩
set_option maxHeartbeats 2000000 in
theorem w_reliability {D : va_G} {aC : Nat → ClassId} {s0 : State} {l : Launch} (hF : m_F D aC s0) (hl : l.stackTraces = false) {fo : Nat → Nat} {x w o2 : Nat} {W : gW} {M : m_M} (hN : m_NC s0) (hX : m_TH s0) (hG : gIn s0.heap.size fo x w W M) (ho : x + 238 ≤ o2 ∧ o2 < w) {f : Nat → Value} (hO : M.2 o2 = some (m_va 4 1 f)) (hB : h_B W.1) : m_MetW D aC s0 l yL_reliability cL_reliability 3 (some .int) [(0, 8, 11, 126)] 13 470 940 [.ref x, .ref o2] M (wD s0.heap.size fo x w o2 (if W.1 0 4 + W.1 0 5 = 0 then 1 else 0) (FP.f2d (S_rel W.1)) W M) := by
  refine m_entryW (lv := [(0, .ref x), (1, .ref o2)]) (by decide +kernel) (Nat.le_of_ble_eq_true rfl) rfl hF hl ?_
  intro p e s m args below meth c hC hr ht
  change m_C D aC s0 RL _ _ _ _ _ _ _ _ _ at hC
  have hox : s0.heap.size ≤ o2 := by have := hG.1.2.2; omega
  refine m_aload_n hC 1 dL_reliability_0 rfl rfl ?_
  refine m_iconst hC dL_reliability_1 ?_
  refine m_aload_n hC 0 dL_reliability_2 rfl rfl ?_
  refine m_callV hC (t_X9_reliability hF hl hX hG.2.1 hG.2.2.1 hB) dL_reliability_3 kc_X9_reliability kV_L_122 hG.2.1 rfl rfl rfl rfl (Nat.le_of_ble_eq_true rfl) (by decide) ⟨(Nat.le_of_ble_eq_true rfl), (Nat.le_of_ble_eq_true rfl)⟩ (fun E M1 ce q9 H1 locs1 ls h1 hx hH hS hce hcv hcl => ?_) (fun v9 M1 h9 => ?_)
  · obtain ⟨⟨hz, hE⟩, e1, e2⟩ := hx
    subst hE
    refine m_cat hC hN (pre := []) (a := 0) (b := 8) (h := 11) (ct := 126) (suf := []) (E := eM) ht rfl ct_M (fun y hy => absurd hy List.not_mem_nil) ⟨by decide, by decide⟩ h1 hH hS hce hcv hcl ?_
    refine m_astore_n hC dL_reliability_11 rfl (by decide) rfl ?_
    refine m_iconst hC dL_reliability_12 ?_
    exact m_iret hC dL_reliability_13 hr (Nat.le_of_ble_eq_true rfl) (Nat.le_of_ble_eq_true rfl) ⟨by rw [if_pos hz], fun z => by rw [if_pos hz] at z; exact absurd z (by decide), ⟨f, by rw [e2]; exact hO⟩, ghP.grow hG e1 e2, e1, fun a a1 a2 _ => by rw [e2]⟩
  · obtain ⟨hz, rfl, h9⟩ := h9
    replace h9 := h9.symm
    subst h9
    refine m_f2d hC dL_reliability_6 (rel_ok (by have := hB.s 4 (by decide); have := hB.s 5 (by decide); omega)) ?_
    refine m_dast1 hC dL_reliability_7 hO hox (fun M2 R2 f2 => ?_)
    refine m_goto (tgt := 14) hC dL_reliability_8 (by decide) ?_
    refine m_iconst hC dL_reliability_14 ?_
    exact m_iret hC dL_reliability_15 hr (Nat.le_of_ble_eq_true rfl) (Nat.le_of_ble_eq_true rfl) ⟨by rw [if_neg hz], fun _ => R2, ⟨_, R2⟩, hG.out ho f2, gFo.out gFr.rf f2⟩
theorem kw_L_renderGoblin : m_cdW yL_renderGoblin cL_renderGoblin 4 (some .int) [(0, 9, 12, 23)] 3 := ⟨lwg_of (List.mem_append_right _ (List.mem_of_getElem? (i := 1306) (by decide +kernel))) rfl, lwg_of (List.mem_append_right _ (List.mem_of_getElem? (i := 0) (by decide +kernel))) rfl, by decide +kernel, by decide +kernel, by decide +kernel⟩
set_option maxHeartbeats 2000000 in
theorem w_renderGoblin {D : va_G} {aC : Nat → ClassId} {s0 : State} {l : Launch} (hF : m_F D aC s0) (hl : l.stackTraces = false) {fo : Nat → Nat} {x w o1 : Nat} {W W2 : gW} {r : Int × Int} {M : m_M} (hN : m_NC s0) (hG : gIn s0.heap.size fo x w W M) (ho : x + 238 ≤ o1 ∧ o1 < w) {f : Nat → Value} (hO : M.2 o1 = some (m_va 3 1 f)) {y1 : Int} (hM : cU D aC s0 l fo x w yX9_renderGoblin cX9_renderGoblin 3 (some .int) 12 [.ref x, VI y1] M [eI] r W2) : m_MetW D aC s0 l yL_renderGoblin cL_renderGoblin 4 (some .int) [(0, 9, 12, 23)] 13 470 940 [.ref x, VI y1, .ref o1] M (wQ s0.heap.size fo x w o1 r W2 M) := by
  refine m_entryW (lv := [(0, .ref x), (1, VI y1), (2, .ref o1)]) (by decide +kernel) (Nat.le_of_ble_eq_true rfl) rfl hF hl ?_
  intro p e s m args below meth c hC hr ht
  change m_C D aC s0 RL _ _ _ _ _ _ _ _ _ at hC
  have hox : s0.heap.size ≤ o1 := by have := hG.1.2.2; omega
  refine m_aload_n hC 2 dL_renderGoblin_0 rfl rfl ?_
  refine m_iconst hC dL_renderGoblin_1 ?_
  refine m_aload_n hC 0 dL_renderGoblin_2 rfl rfl ?_
  refine m_iload_n hC 1 dL_renderGoblin_3 rfl rfl ?_
  refine m_callV hC hM dL_renderGoblin_4 kc_X9_renderGoblin kV_L_128 hG.2.1 rfl rfl rfl rfl (Nat.le_of_ble_eq_true rfl) (by decide) ⟨(Nat.le_of_ble_eq_true rfl), (Nat.le_of_ble_eq_true rfl)⟩ (fun E M1 ce q9 H1 locs1 ls h1 hx hH hS hce hcv hcl => ?_) (fun v9 M1 h9 => ?_)
  · obtain ⟨⟨hr1, hEs⟩, hA⟩ := hx
    have hk : r.1 = 1 := by
      have hlt := (List.getElem?_eq_some_iff.mp hEs).1
      simp only [List.length_cons, List.length_nil] at hlt
      omega
    rw [hk] at hEs
    have hE : eI = E := Option.some.inj hEs
    subst hE
    refine m_cat hC hN (pre := []) (a := 0) (b := 9) (h := 12) (ct := 23) (suf := []) (E := eI) ht rfl ct_I (fun y hy => absurd hy List.not_mem_nil) ⟨by decide, by decide⟩ h1 hH hS hce hcv hcl ?_
    refine m_astore_n hC dL_renderGoblin_12 rfl (by decide) rfl ?_
    refine m_iconst hC dL_renderGoblin_13 ?_
    exact m_iret hC dL_renderGoblin_14 hr (Nat.le_of_ble_eq_true rfl) (Nat.le_of_ble_eq_true rfl) (wQ.ex hk (by decide) hA ho hO)
  · obtain ⟨h0, rfl, hA⟩ := h9
    have hO1 := (hA.2.2 o1 ho.2 (Or.inr ho.1)).trans hO
    refine m_i2l hC dL_renderGoblin_7 ?_
    refine m_last1 hC dL_renderGoblin_8 hO1 hox (fun M2 R2 f2 => ?_)
    refine m_goto (tgt := 15) hC dL_renderGoblin_9 (by decide) ?_
    refine m_iconst hC dL_renderGoblin_15 ?_
    exact m_iret hC dL_renderGoblin_16 hr (Nat.le_of_ble_eq_true rfl) (Nat.le_of_ble_eq_true rfl) (wQ.ok h0 hA ho R2 f2)
theorem kw_L_outputAt : m_cdW yL_outputAt cL_outputAt 4 (some .int) [(0, 9, 12, 23)] 3 := ⟨lwg_of (List.mem_append_right _ (List.mem_of_getElem? (i := 1313) (by decide +kernel))) rfl, lwg_of (List.mem_append_right _ (List.mem_of_getElem? (i := 0) (by decide +kernel))) rfl, by decide +kernel, by decide +kernel, by decide +kernel⟩
set_option maxHeartbeats 2000000 in
theorem w_outputAt {D : va_G} {aC : Nat → ClassId} {s0 : State} {l : Launch} (hF : m_F D aC s0) (hl : l.stackTraces = false) {fo : Nat → Nat} {x w o1 : Nat} {W W2 : gW} {r : Int × Int} {M : m_M} (hN : m_NC s0) (hG : gIn s0.heap.size fo x w W M) (ho : x + 238 ≤ o1 ∧ o1 < w) {f : Nat → Value} (hO : M.2 o1 = some (m_va 3 1 f)) {y1 : Int} (hM : cU D aC s0 l fo x w yX9_outputAt cX9_outputAt 2 (some .char) 12 [.ref x, VI y1] M [eI] r W2) : m_MetW D aC s0 l yL_outputAt cL_outputAt 4 (some .int) [(0, 9, 12, 23)] 13 470 940 [.ref x, VI y1, .ref o1] M (wQ s0.heap.size fo x w o1 r W2 M) := by
  refine m_entryW (lv := [(0, .ref x), (1, VI y1), (2, .ref o1)]) (by decide +kernel) (Nat.le_of_ble_eq_true rfl) rfl hF hl ?_
  intro p e s m args below meth c hC hr ht
  change m_C D aC s0 RL _ _ _ _ _ _ _ _ _ at hC
  have hox : s0.heap.size ≤ o1 := by have := hG.1.2.2; omega
  refine m_aload_n hC 2 dL_outputAt_0 rfl rfl ?_
  refine m_iconst hC dL_outputAt_1 ?_
  refine m_aload_n hC 0 dL_outputAt_2 rfl rfl ?_
  refine m_iload_n hC 1 dL_outputAt_3 rfl rfl ?_
  refine m_callV hC hM dL_outputAt_4 kc_X9_outputAt kV_L_131 hG.2.1 rfl rfl rfl rfl (Nat.le_of_ble_eq_true rfl) (by decide) ⟨(Nat.le_of_ble_eq_true rfl), (Nat.le_of_ble_eq_true rfl)⟩ (fun E M1 ce q9 H1 locs1 ls h1 hx hH hS hce hcv hcl => ?_) (fun v9 M1 h9 => ?_)
  · obtain ⟨⟨hr1, hEs⟩, hA⟩ := hx
    have hk : r.1 = 1 := by
      have hlt := (List.getElem?_eq_some_iff.mp hEs).1
      simp only [List.length_cons, List.length_nil] at hlt
      omega
    rw [hk] at hEs
    have hE : eI = E := Option.some.inj hEs
    subst hE
    refine m_cat hC hN (pre := []) (a := 0) (b := 9) (h := 12) (ct := 23) (suf := []) (E := eI) ht rfl ct_I (fun y hy => absurd hy List.not_mem_nil) ⟨by decide, by decide⟩ h1 hH hS hce hcv hcl ?_
    refine m_astore_n hC dL_outputAt_12 rfl (by decide) rfl ?_
    refine m_iconst hC dL_outputAt_13 ?_
    exact m_iret hC dL_outputAt_14 hr (Nat.le_of_ble_eq_true rfl) (Nat.le_of_ble_eq_true rfl) (wQ.ex hk (by decide) hA ho hO)
  · obtain ⟨h0, rfl, hA⟩ := h9
    have hO1 := (hA.2.2 o1 ho.2 (Or.inr ho.1)).trans hO
    refine m_i2l hC dL_outputAt_7 ?_
    refine m_last1 hC dL_outputAt_8 hO1 hox (fun M2 R2 f2 => ?_)
    refine m_goto (tgt := 15) hC dL_outputAt_9 (by decide) ?_
    refine m_iconst hC dL_outputAt_15 ?_
    exact m_iret hC dL_outputAt_16 hr (Nat.le_of_ble_eq_true rfl) (Nat.le_of_ble_eq_true rfl) (wQ.ok h0 hA ho R2 f2)
theorem kw_L_type : m_cdW yL_type cL_type 4 (some .int) [(0, 9, 12, 13), (0, 9, 15, 15)] 3 := ⟨lwg_of (List.mem_append_right _ (List.mem_of_getElem? (i := 1331) (by decide +kernel))) rfl, lwg_of (List.mem_append_right _ (List.mem_of_getElem? (i := 0) (by decide +kernel))) rfl, by decide +kernel, by decide +kernel, by decide +kernel⟩
set_option maxHeartbeats 2000000 in
theorem w_type {D : va_G} {aC : Nat → ClassId} {s0 : State} {l : Launch} (hF : m_F D aC s0) (hl : l.stackTraces = false) {fo : Nat → Nat} {x w o1 : Nat} {W W2 : gW} {r : Int × Int} {M : m_M} (hN : m_NC s0) (hG : gIn s0.heap.size fo x w W M) (ho : x + 238 ≤ o1 ∧ o1 < w) {f : Nat → Value} (hO : M.2 o1 = some (m_va 3 1 f)) {y1 : Int} (hM : cU D aC s0 l fo x w yX9_type cX9_type 2 (some .int) 12 [.ref x, VI y1] M [eA, eS] r W2) : m_MetW D aC s0 l yL_type cL_type 4 (some .int) [(0, 9, 12, 13), (0, 9, 15, 15)] 13 470 940 [.ref x, VI y1, .ref o1] M (wQ s0.heap.size fo x w o1 r W2 M) := by
  refine m_entryW (lv := [(0, .ref x), (1, VI y1), (2, .ref o1)]) (by decide +kernel) (Nat.le_of_ble_eq_true rfl) rfl hF hl ?_
  intro p e s m args below meth c hC hr ht
  change m_C D aC s0 RL _ _ _ _ _ _ _ _ _ at hC
  have hox : s0.heap.size ≤ o1 := by have := hG.1.2.2; omega
  refine m_aload_n hC 2 dL_type_0 rfl rfl ?_
  refine m_iconst hC dL_type_1 ?_
  refine m_aload_n hC 0 dL_type_2 rfl rfl ?_
  refine m_iload_n hC 1 dL_type_3 rfl rfl ?_
  refine m_callV hC hM dL_type_4 kc_X9_type kV_L_135 hG.2.1 rfl rfl rfl rfl (Nat.le_of_ble_eq_true rfl) (by decide) ⟨(Nat.le_of_ble_eq_true rfl), (Nat.le_of_ble_eq_true rfl)⟩ (fun E M1 ce q9 H1 locs1 ls h1 hx hH hS hce hcv hcl => ?_) (fun v9 M1 h9 => ?_)
  · obtain ⟨⟨hr1, hEs⟩, hA⟩ := hx
    have hk : r.1 = 1 ∨ r.1 = 2 := by
      have hlt := (List.getElem?_eq_some_iff.mp hEs).1
      simp only [List.length_cons, List.length_nil] at hlt
      omega
    rcases hk with hk | hk
    · rw [hk] at hEs
      have hE : eA = E := Option.some.inj hEs
      subst hE
      refine m_cat hC hN (pre := []) (a := 0) (b := 9) (h := 12) (ct := 13) (suf := [(0, 9, 15, 15)]) (E := eA) ht rfl ct_A (fun y hy => absurd hy List.not_mem_nil) ⟨by decide, by decide⟩ h1 hH hS hce hcv hcl ?_
      refine m_astore_n hC dL_type_12 rfl (by decide) rfl ?_
      refine m_iconst hC dL_type_13 ?_
      exact m_iret hC dL_type_14 hr (Nat.le_of_ble_eq_true rfl) (Nat.le_of_ble_eq_true rfl) (wQ.ex hk (by decide) hA ho hO)
    · rw [hk] at hEs
      have hE : eS = E := Option.some.inj hEs
      subst hE
      refine m_cat hC hN (pre := [(0, 9, 12, 13)]) (a := 0) (b := 9) (h := 15) (ct := 15) (suf := []) (E := eS) ht rfl ct_S (List.forall_mem_cons.mpr ⟨⟨eA, ct_A, by decide⟩, (fun y hy => absurd hy List.not_mem_nil)⟩) ⟨by decide, by decide⟩ h1 hH hS hce hcv hcl ?_
      refine m_astore_n hC dL_type_15 rfl (by decide) rfl ?_
      refine m_iconst hC dL_type_16 ?_
      exact m_iret hC dL_type_17 hr (Nat.le_of_ble_eq_true rfl) (Nat.le_of_ble_eq_true rfl) (wQ.ex hk (by decide) hA ho hO)
  · obtain ⟨h0, rfl, hA⟩ := h9
    have hO1 := (hA.2.2 o1 ho.2 (Or.inr ho.1)).trans hO
    refine m_i2l hC dL_type_7 ?_
    refine m_last1 hC dL_type_8 hO1 hox (fun M2 R2 f2 => ?_)
    refine m_goto (tgt := 18) hC dL_type_9 (by decide) ?_
    refine m_iconst hC dL_type_18 ?_
    exact m_iret hC dL_type_19 hr (Nat.le_of_ble_eq_true rfl) (Nat.le_of_ble_eq_true rfl) (wQ.ok h0 hA ho R2 f2)
theorem kw_L_runScript : m_cdW yL_runScript cL_runScript 3 (some .int) [(0, 8, 11, 13), (0, 8, 14, 15)] 2 := ⟨lwg_of (List.mem_append_right _ (List.mem_of_getElem? (i := 1340) (by decide +kernel))) rfl, lwg_of (List.mem_append_right _ (List.mem_of_getElem? (i := 0) (by decide +kernel))) rfl, by decide +kernel, by decide +kernel, by decide +kernel⟩
set_option maxHeartbeats 2000000 in
theorem w_runScript {D : va_G} {aC : Nat → ClassId} {s0 : State} {l : Launch} (hF : m_F D aC s0) (hl : l.stackTraces = false) {fo : Nat → Nat} {x w o1 : Nat} {W W2 : gW} {r : Int × Int} {M : m_M} (hN : m_NC s0) (hG : gIn s0.heap.size fo x w W M) (ho : x + 238 ≤ o1 ∧ o1 < w) {f : Nat → Value} (hO : M.2 o1 = some (m_va 3 1 f))  (hM : cU D aC s0 l fo x w yX9_runScript cX9_runScript 3 (some .int) 12 [.ref x] M [eA, eS] r W2) : m_MetW D aC s0 l yL_runScript cL_runScript 3 (some .int) [(0, 8, 11, 13), (0, 8, 14, 15)] 13 470 940 [.ref x, .ref o1] M (wQ s0.heap.size fo x w o1 r W2 M) := by
  refine m_entryW (lv := [(0, .ref x), (1, .ref o1)]) (by decide +kernel) (Nat.le_of_ble_eq_true rfl) rfl hF hl ?_
  intro p e s m args below meth c hC hr ht
  change m_C D aC s0 RL _ _ _ _ _ _ _ _ _ at hC
  have hox : s0.heap.size ≤ o1 := by have := hG.1.2.2; omega
  refine m_aload_n hC 1 dL_runScript_0 rfl rfl ?_
  refine m_iconst hC dL_runScript_1 ?_
  refine m_aload_n hC 0 dL_runScript_2 rfl rfl ?_
  refine m_callV hC hM dL_runScript_3 kc_X9_runScript kV_L_139 hG.2.1 rfl rfl rfl rfl (Nat.le_of_ble_eq_true rfl) (by decide) ⟨(Nat.le_of_ble_eq_true rfl), (Nat.le_of_ble_eq_true rfl)⟩ (fun E M1 ce q9 H1 locs1 ls h1 hx hH hS hce hcv hcl => ?_) (fun v9 M1 h9 => ?_)
  · obtain ⟨⟨hr1, hEs⟩, hA⟩ := hx
    have hk : r.1 = 1 ∨ r.1 = 2 := by
      have hlt := (List.getElem?_eq_some_iff.mp hEs).1
      simp only [List.length_cons, List.length_nil] at hlt
      omega
    rcases hk with hk | hk
    · rw [hk] at hEs
      have hE : eA = E := Option.some.inj hEs
      subst hE
      refine m_cat hC hN (pre := []) (a := 0) (b := 8) (h := 11) (ct := 13) (suf := [(0, 8, 14, 15)]) (E := eA) ht rfl ct_A (fun y hy => absurd hy List.not_mem_nil) ⟨by decide, by decide⟩ h1 hH hS hce hcv hcl ?_
      refine m_astore_n hC dL_runScript_11 rfl (by decide) rfl ?_
      refine m_iconst hC dL_runScript_12 ?_
      exact m_iret hC dL_runScript_13 hr (Nat.le_of_ble_eq_true rfl) (Nat.le_of_ble_eq_true rfl) (wQ.ex hk (by decide) hA ho hO)
    · rw [hk] at hEs
      have hE : eS = E := Option.some.inj hEs
      subst hE
      refine m_cat hC hN (pre := [(0, 8, 11, 13)]) (a := 0) (b := 8) (h := 14) (ct := 15) (suf := []) (E := eS) ht rfl ct_S (List.forall_mem_cons.mpr ⟨⟨eA, ct_A, by decide⟩, (fun y hy => absurd hy List.not_mem_nil)⟩) ⟨by decide, by decide⟩ h1 hH hS hce hcv hcl ?_
      refine m_astore_n hC dL_runScript_14 rfl (by decide) rfl ?_
      refine m_iconst hC dL_runScript_15 ?_
      exact m_iret hC dL_runScript_16 hr (Nat.le_of_ble_eq_true rfl) (Nat.le_of_ble_eq_true rfl) (wQ.ex hk (by decide) hA ho hO)
  · obtain ⟨h0, rfl, hA⟩ := h9
    have hO1 := (hA.2.2 o1 ho.2 (Or.inr ho.1)).trans hO
    refine m_i2l hC dL_runScript_6 ?_
    refine m_last1 hC dL_runScript_7 hO1 hox (fun M2 R2 f2 => ?_)
    refine m_goto (tgt := 17) hC dL_runScript_8 (by decide) ?_
    refine m_iconst hC dL_runScript_17 ?_
    exact m_iret hC dL_runScript_18 hr (Nat.le_of_ble_eq_true rfl) (Nat.le_of_ble_eq_true rfl) (wQ.ok h0 hA ho R2 f2)
theorem kw_L_errorPosition : m_cdW yL_errorPosition cL_errorPosition 3 (some .int) [(0, 8, 11, 37)] 2 := ⟨lwg_of (List.mem_append_right _ (List.mem_of_getElem? (i := 1433) (by decide +kernel))) rfl, lwg_of (List.mem_append_right _ (List.mem_of_getElem? (i := 0) (by decide +kernel))) rfl, by decide +kernel, by decide +kernel, by decide +kernel⟩
set_option maxHeartbeats 2000000 in
theorem w_errorPosition {D : va_G} {aC : Nat → ClassId} {s0 : State} {l : Launch} (hF : m_F D aC s0) (hl : l.stackTraces = false) {fo : Nat → Nat} {x w o1 : Nat} {W W2 : gW} {r : Int × Int} {M : m_M} (hN : m_NC s0) (hG : gIn s0.heap.size fo x w W M) (ho : x + 238 ≤ o1 ∧ o1 < w) {f : Nat → Value} (hO : M.2 o1 = some (m_va 3 1 f))  (hM : cU D aC s0 l fo x w yX9_errorPosition cX9_errorPosition 1 (some .int) 12 [.ref x] M [eN] r W2) : m_MetW D aC s0 l yL_errorPosition cL_errorPosition 3 (some .int) [(0, 8, 11, 37)] 13 470 940 [.ref x, .ref o1] M (wQ s0.heap.size fo x w o1 r W2 M) := by
  refine m_entryW (lv := [(0, .ref x), (1, .ref o1)]) (by decide +kernel) (Nat.le_of_ble_eq_true rfl) rfl hF hl ?_
  intro p e s m args below meth c hC hr ht
  change m_C D aC s0 RL _ _ _ _ _ _ _ _ _ at hC
  have hox : s0.heap.size ≤ o1 := by have := hG.1.2.2; omega
  refine m_aload_n hC 1 dL_errorPosition_0 rfl rfl ?_
  refine m_iconst hC dL_errorPosition_1 ?_
  refine m_aload_n hC 0 dL_errorPosition_2 rfl rfl ?_
  refine m_callV hC hM dL_errorPosition_3 kc_X9_errorPosition kV_L_143 hG.2.1 rfl rfl rfl rfl (Nat.le_of_ble_eq_true rfl) (by decide) ⟨(Nat.le_of_ble_eq_true rfl), (Nat.le_of_ble_eq_true rfl)⟩ (fun E M1 ce q9 H1 locs1 ls h1 hx hH hS hce hcv hcl => ?_) (fun v9 M1 h9 => ?_)
  · obtain ⟨⟨hr1, hEs⟩, hA⟩ := hx
    have hk : r.1 = 1 := by
      have hlt := (List.getElem?_eq_some_iff.mp hEs).1
      simp only [List.length_cons, List.length_nil] at hlt
      omega
    rw [hk] at hEs
    have hE : eN = E := Option.some.inj hEs
    subst hE
    refine m_cat hC hN (pre := []) (a := 0) (b := 8) (h := 11) (ct := 37) (suf := []) (E := eN) ht rfl ct_N (fun y hy => absurd hy List.not_mem_nil) ⟨by decide, by decide⟩ h1 hH hS hce hcv hcl ?_
    refine m_astore_n hC dL_errorPosition_11 rfl (by decide) rfl ?_
    refine m_iconst hC dL_errorPosition_12 ?_
    exact m_iret hC dL_errorPosition_13 hr (Nat.le_of_ble_eq_true rfl) (Nat.le_of_ble_eq_true rfl) (wQ.ex hk (by decide) hA ho hO)
  · obtain ⟨h0, rfl, hA⟩ := h9
    have hO1 := (hA.2.2 o1 ho.2 (Or.inr ho.1)).trans hO
    refine m_i2l hC dL_errorPosition_6 ?_
    refine m_last1 hC dL_errorPosition_7 hO1 hox (fun M2 R2 f2 => ?_)
    refine m_goto (tgt := 14) hC dL_errorPosition_8 (by decide) ?_
    refine m_iconst hC dL_errorPosition_14 ?_
    exact m_iret hC dL_errorPosition_15 hr (Nat.le_of_ble_eq_true rfl) (Nat.le_of_ble_eq_true rfl) (wQ.ok h0 hA ho R2 f2)
theorem kw_L_failedCommand : m_cdW yL_failedCommand cL_failedCommand 3 (some .int) [(0, 8, 11, 37)] 2 := ⟨lwg_of (List.mem_append_right _ (List.mem_of_getElem? (i := 1441) (by decide +kernel))) rfl, lwg_of (List.mem_append_right _ (List.mem_of_getElem? (i := 0) (by decide +kernel))) rfl, by decide +kernel, by decide +kernel, by decide +kernel⟩
set_option maxHeartbeats 2000000 in
theorem w_failedCommand {D : va_G} {aC : Nat → ClassId} {s0 : State} {l : Launch} (hF : m_F D aC s0) (hl : l.stackTraces = false) {fo : Nat → Nat} {x w o1 : Nat} {W W2 : gW} {r : Int × Int} {M : m_M} (hN : m_NC s0) (hG : gIn s0.heap.size fo x w W M) (ho : x + 238 ≤ o1 ∧ o1 < w) {f : Nat → Value} (hO : M.2 o1 = some (m_va 3 1 f))  (hM : cU D aC s0 l fo x w yX9_failedCommand cX9_failedCommand 1 (some .int) 12 [.ref x] M [eN] r W2) : m_MetW D aC s0 l yL_failedCommand cL_failedCommand 3 (some .int) [(0, 8, 11, 37)] 13 470 940 [.ref x, .ref o1] M (wQ s0.heap.size fo x w o1 r W2 M) := by
  refine m_entryW (lv := [(0, .ref x), (1, .ref o1)]) (by decide +kernel) (Nat.le_of_ble_eq_true rfl) rfl hF hl ?_
  intro p e s m args below meth c hC hr ht
  change m_C D aC s0 RL _ _ _ _ _ _ _ _ _ at hC
  have hox : s0.heap.size ≤ o1 := by have := hG.1.2.2; omega
  refine m_aload_n hC 1 dL_failedCommand_0 rfl rfl ?_
  refine m_iconst hC dL_failedCommand_1 ?_
  refine m_aload_n hC 0 dL_failedCommand_2 rfl rfl ?_
  refine m_callV hC hM dL_failedCommand_3 kc_X9_failedCommand kV_L_146 hG.2.1 rfl rfl rfl rfl (Nat.le_of_ble_eq_true rfl) (by decide) ⟨(Nat.le_of_ble_eq_true rfl), (Nat.le_of_ble_eq_true rfl)⟩ (fun E M1 ce q9 H1 locs1 ls h1 hx hH hS hce hcv hcl => ?_) (fun v9 M1 h9 => ?_)
  · obtain ⟨⟨hr1, hEs⟩, hA⟩ := hx
    have hk : r.1 = 1 := by
      have hlt := (List.getElem?_eq_some_iff.mp hEs).1
      simp only [List.length_cons, List.length_nil] at hlt
      omega
    rw [hk] at hEs
    have hE : eN = E := Option.some.inj hEs
    subst hE
    refine m_cat hC hN (pre := []) (a := 0) (b := 8) (h := 11) (ct := 37) (suf := []) (E := eN) ht rfl ct_N (fun y hy => absurd hy List.not_mem_nil) ⟨by decide, by decide⟩ h1 hH hS hce hcv hcl ?_
    refine m_astore_n hC dL_failedCommand_11 rfl (by decide) rfl ?_
    refine m_iconst hC dL_failedCommand_12 ?_
    exact m_iret hC dL_failedCommand_13 hr (Nat.le_of_ble_eq_true rfl) (Nat.le_of_ble_eq_true rfl) (wQ.ex hk (by decide) hA ho hO)
  · obtain ⟨h0, rfl, hA⟩ := h9
    have hO1 := (hA.2.2 o1 ho.2 (Or.inr ho.1)).trans hO
    refine m_i2l hC dL_failedCommand_6 ?_
    refine m_last1 hC dL_failedCommand_7 hO1 hox (fun M2 R2 f2 => ?_)
    refine m_goto (tgt := 14) hC dL_failedCommand_8 (by decide) ?_
    refine m_iconst hC dL_failedCommand_14 ?_
    exact m_iret hC dL_failedCommand_15 hr (Nat.le_of_ble_eq_true rfl) (Nat.le_of_ble_eq_true rfl) (wQ.ok h0 hA ho R2 f2)
theorem kw_L_undo : m_cdW yL_undo cL_undo 3 (some .int) [(0, 8, 11, 37)] 2 := ⟨lwg_of (List.mem_append_right _ (List.mem_of_getElem? (i := 1449) (by decide +kernel))) rfl, lwg_of (List.mem_append_right _ (List.mem_of_getElem? (i := 0) (by decide +kernel))) rfl, by decide +kernel, by decide +kernel, by decide +kernel⟩
set_option maxHeartbeats 2000000 in
theorem w_undo {D : va_G} {aC : Nat → ClassId} {s0 : State} {l : Launch} (hF : m_F D aC s0) (hl : l.stackTraces = false) {fo : Nat → Nat} {x w o1 : Nat} {W W2 : gW} {r : Int × Int} {M : m_M} (hN : m_NC s0) (hG : gIn s0.heap.size fo x w W M) (ho : x + 238 ≤ o1 ∧ o1 < w) {f : Nat → Value} (hO : M.2 o1 = some (m_va 3 1 f))  (hM : cU D aC s0 l fo x w yX9_undo cX9_undo 1 (some .int) 12 [.ref x] M [eN] r W2) : m_MetW D aC s0 l yL_undo cL_undo 3 (some .int) [(0, 8, 11, 37)] 13 470 940 [.ref x, .ref o1] M (wQ s0.heap.size fo x w o1 r W2 M) := by
  refine m_entryW (lv := [(0, .ref x), (1, .ref o1)]) (by decide +kernel) (Nat.le_of_ble_eq_true rfl) rfl hF hl ?_
  intro p e s m args below meth c hC hr ht
  change m_C D aC s0 RL _ _ _ _ _ _ _ _ _ at hC
  have hox : s0.heap.size ≤ o1 := by have := hG.1.2.2; omega
  refine m_aload_n hC 1 dL_undo_0 rfl rfl ?_
  refine m_iconst hC dL_undo_1 ?_
  refine m_aload_n hC 0 dL_undo_2 rfl rfl ?_
  refine m_callV hC hM dL_undo_3 kc_X9_undo kV_L_149 hG.2.1 rfl rfl rfl rfl (Nat.le_of_ble_eq_true rfl) (by decide) ⟨(Nat.le_of_ble_eq_true rfl), (Nat.le_of_ble_eq_true rfl)⟩ (fun E M1 ce q9 H1 locs1 ls h1 hx hH hS hce hcv hcl => ?_) (fun v9 M1 h9 => ?_)
  · obtain ⟨⟨hr1, hEs⟩, hA⟩ := hx
    have hk : r.1 = 1 := by
      have hlt := (List.getElem?_eq_some_iff.mp hEs).1
      simp only [List.length_cons, List.length_nil] at hlt
      omega
    rw [hk] at hEs
    have hE : eN = E := Option.some.inj hEs
    subst hE
    refine m_cat hC hN (pre := []) (a := 0) (b := 8) (h := 11) (ct := 37) (suf := []) (E := eN) ht rfl ct_N (fun y hy => absurd hy List.not_mem_nil) ⟨by decide, by decide⟩ h1 hH hS hce hcv hcl ?_
    refine m_astore_n hC dL_undo_11 rfl (by decide) rfl ?_
    refine m_iconst hC dL_undo_12 ?_
    exact m_iret hC dL_undo_13 hr (Nat.le_of_ble_eq_true rfl) (Nat.le_of_ble_eq_true rfl) (wQ.ex hk (by decide) hA ho hO)
  · obtain ⟨h0, rfl, hA⟩ := h9
    have hO1 := (hA.2.2 o1 ho.2 (Or.inr ho.1)).trans hO
    refine m_i2l hC dL_undo_6 ?_
    refine m_last1 hC dL_undo_7 hO1 hox (fun M2 R2 f2 => ?_)
    refine m_goto (tgt := 14) hC dL_undo_8 (by decide) ?_
    refine m_iconst hC dL_undo_14 ?_
    exact m_iret hC dL_undo_15 hr (Nat.le_of_ble_eq_true rfl) (Nat.le_of_ble_eq_true rfl) (wQ.ok h0 hA ho R2 f2)
theorem kw_L_restore : m_cdW yL_restore cL_restore 3 (some .int) [(0, 8, 11, 15)] 2 := ⟨lwg_of (List.mem_append_right _ (List.mem_of_getElem? (i := 1461) (by decide +kernel))) rfl, lwg_of (List.mem_append_right _ (List.mem_of_getElem? (i := 0) (by decide +kernel))) rfl, by decide +kernel, by decide +kernel, by decide +kernel⟩
set_option maxHeartbeats 2000000 in
theorem w_restore {D : va_G} {aC : Nat → ClassId} {s0 : State} {l : Launch} (hF : m_F D aC s0) (hl : l.stackTraces = false) {fo : Nat → Nat} {x w o1 : Nat} {W W2 : gW} {r : Int × Int} {M : m_M} (hN : m_NC s0) (hG : gIn s0.heap.size fo x w W M) (ho : x + 238 ≤ o1 ∧ o1 < w) {f : Nat → Value} (hO : M.2 o1 = some (m_va 3 1 f))  (hM : cU D aC s0 l fo x w yX9_restore cX9_restore 1 (some .int) 12 [.ref x] M [eS] r W2) : m_MetW D aC s0 l yL_restore cL_restore 3 (some .int) [(0, 8, 11, 15)] 13 470 940 [.ref x, .ref o1] M (wQ s0.heap.size fo x w o1 r W2 M) := by
  refine m_entryW (lv := [(0, .ref x), (1, .ref o1)]) (by decide +kernel) (Nat.le_of_ble_eq_true rfl) rfl hF hl ?_
  intro p e s m args below meth c hC hr ht
  change m_C D aC s0 RL _ _ _ _ _ _ _ _ _ at hC
  have hox : s0.heap.size ≤ o1 := by have := hG.1.2.2; omega
  refine m_aload_n hC 1 dL_restore_0 rfl rfl ?_
  refine m_iconst hC dL_restore_1 ?_
  refine m_aload_n hC 0 dL_restore_2 rfl rfl ?_
  refine m_callV hC hM dL_restore_3 kc_X9_restore kV_L_152 hG.2.1 rfl rfl rfl rfl (Nat.le_of_ble_eq_true rfl) (by decide) ⟨(Nat.le_of_ble_eq_true rfl), (Nat.le_of_ble_eq_true rfl)⟩ (fun E M1 ce q9 H1 locs1 ls h1 hx hH hS hce hcv hcl => ?_) (fun v9 M1 h9 => ?_)
  · obtain ⟨⟨hr1, hEs⟩, hA⟩ := hx
    have hk : r.1 = 1 := by
      have hlt := (List.getElem?_eq_some_iff.mp hEs).1
      simp only [List.length_cons, List.length_nil] at hlt
      omega
    rw [hk] at hEs
    have hE : eS = E := Option.some.inj hEs
    subst hE
    refine m_cat hC hN (pre := []) (a := 0) (b := 8) (h := 11) (ct := 15) (suf := []) (E := eS) ht rfl ct_S (fun y hy => absurd hy List.not_mem_nil) ⟨by decide, by decide⟩ h1 hH hS hce hcv hcl ?_
    refine m_astore_n hC dL_restore_11 rfl (by decide) rfl ?_
    refine m_iconst hC dL_restore_12 ?_
    exact m_iret hC dL_restore_13 hr (Nat.le_of_ble_eq_true rfl) (Nat.le_of_ble_eq_true rfl) (wQ.ex hk (by decide) hA ho hO)
  · obtain ⟨h0, rfl, hA⟩ := h9
    have hO1 := (hA.2.2 o1 ho.2 (Or.inr ho.1)).trans hO
    refine m_i2l hC dL_restore_6 ?_
    refine m_last1 hC dL_restore_7 hO1 hox (fun M2 R2 f2 => ?_)
    refine m_goto (tgt := 14) hC dL_restore_8 (by decide) ?_
    refine m_iconst hC dL_restore_14 ?_
    exact m_iret hC dL_restore_15 hr (Nat.le_of_ble_eq_true rfl) (Nat.le_of_ble_eq_true rfl) (wQ.ok h0 hA ho R2 f2)
