/-! the loop of the law -/
section m_LOOP
variable {D : va_G} {aC : Nat → ClassId} {l : Launch} {fo ks vs : Nat → Nat} {fA sA dO dT sa va : Nat} {p : Program} {e : Env} {s : State} {m : MethodId} {args : Array Value} {below : List Frame} {meth : Method} {c : Code} {cells slots : Nat} {Q : State → Prop}
set_option maxHeartbeats 4000000 in
set_option maxRecDepth 100000 in
theorem L_step (hF : m_F D aC s) (hl : l.stackTraces = false) (hJ : m_J s fo ks vs fA sA dO dT) (hX : m_TH s) (hN : m_NM s sa va) (hNC : m_NC s) (C : m_C D aC s RL cL_law 10 l p s m args meth c) {b L x : Nat} {xs : Nat → Int32} (hXs : va_X b L xs s s.heap) (hbl : b < s.heap.size) (hL : L ≤ 2560) {K i : Int} {W : gW} {M : m_M} (hi : 0 ≤ i ∧ i + 5 ≤ (L : Int)) (hK : K ≤ 76000000) (hS : lS s fo x K W M) (hc : cells + 470 ≤ 603072 ∧ slots + 940 ≤ 7186538) (kk : ∀ (W2 : gW) (M2 : m_M), lS s fo x (K + 63600) W2 M2 → m_W D aC s 10 p l e room_1 s m args below meth c (cells + 470) (slots + 940) Q 2889 (lL i x b) [] M2) (z : Int) (hz : -2147483648 ≤ z ∧ z < 2147483648) : m_W D aC s 10 p l e room_1 s m args below meth c cells slots Q 44 (lL i x b) [VI z] M := by
  by_cases hin : 0 ≤ z ∧ z ≤ 56
  · obtain ⟨k, rfl⟩ : ∃ k : Nat, z = (k : Int) := ⟨z.toNat, by omega⟩
    have hk : k < 57 := by omega
    clear hin hz
    match k, hk with
    | 0, _ => exact m_tin (tgt := 288) C dL_law_44 (by decide) (by decide) rfl (by decide) (L_addGoblin hF hl hJ hX hN hNC C hXs hbl hL hi hK hS hc kk)
    | 1, _ => exact m_tin (tgt := 344) C dL_law_44 (by decide) (by decide) rfl (by decide) (L_addBroom hF hl hJ hX hN hNC C hXs hbl hL hi hK hS hc kk)
    | 2, _ => exact m_tin (tgt := 400) C dL_law_44 (by decide) (by decide) rfl (by decide) (L_banishBroom hF hl hJ hX hN hNC C hXs hbl hL hi hK hS hc kk)
    | 3, _ => exact m_tin (tgt := 456) C dL_law_44 (by decide) (by decide) rfl (by decide) (L_recallBroom hF hl hJ hX hN hNC C hXs hbl hL hi hK hS hc kk)
    | 4, _ => exact m_tin (tgt := 512) C dL_law_44 (by decide) (by decide) rfl (by decide) (L_hire hF hl hJ hX hN hNC C hXs hbl hL hi hK hS hc kk)
    | 5, _ => exact m_tin (tgt := 604) C dL_law_44 (by decide) (by decide) rfl (by decide) (L_cancelContract hF hl hJ hX hN hNC C hXs hbl hL hi hK hS hc kk)
    | 6, _ => exact m_tin (tgt := 660) C dL_law_44 (by decide) (by decide) rfl (by decide) (L_rest hF hl hJ hX hN hNC C hXs hbl hL hi hK hS hc kk)
    | 7, _ => exact m_tin (tgt := 716) C dL_law_44 (by decide) (by decide) rfl (by decide) (L_wake hF hl hJ hX hN hNC C hXs hbl hL hi hK hS hc kk)
    | 8, _ => exact m_tin (tgt := 772) C dL_law_44 (by decide) (by decide) rfl (by decide) (L_lend hF hl hJ hX hN hNC C hXs hbl hL hi hK hS hc kk)
    | 9, _ => exact m_tin (tgt := 840) C dL_law_44 (by decide) (by decide) rfl (by decide) (L_fund hF hl hJ hX hN hNC C hXs hbl hL hi hK hS hc kk)
    | 10, _ => exact m_tin (tgt := 896) C dL_law_44 (by decide) (by decide) rfl (by decide) (L_spend hF hl hJ hX hN hNC C hXs hbl hL hi hK hS hc kk)
    | 11, _ => exact m_tin (tgt := 952) C dL_law_44 (by decide) (by decide) rfl (by decide) (L_passNights hF hl hJ hX hN hNC C hXs hbl hL hi hK hS hc kk)
    | 12, _ => exact m_tin (tgt := 1008) C dL_law_44 (by decide) (by decide) rfl (by decide) (L_dust hF hl hJ hX hN hNC C hXs hbl hL hi hK hS hc kk)
    | 13, _ => exact m_tin (tgt := 1064) C dL_law_44 (by decide) (by decide) rfl (by decide) (L_roomByDust hF hl hJ hX hN hNC C hXs hbl hL hi hK hS hc kk)
    | 14, _ => exact m_tin (tgt := 1120) C dL_law_44 (by decide) (by decide) rfl (by decide) (L_broomCount hF hl hJ hX hN hNC C hXs hbl hL hi hK hS hc kk)
    | 15, _ => exact m_tin (tgt := 1133) C dL_law_44 (by decide) (by decide) rfl (by decide) (L_power hF hl hJ hX hN hNC C hXs hbl hL hi hK hS hc kk)
    | 16, _ => exact m_tin (tgt := 1189) C dL_law_44 (by decide) (by decide) rfl (by decide) (L_isBanished hF hl hJ hX hN hNC C hXs hbl hL hi hK hS hc kk)
    | 17, _ => exact m_tin (tgt := 1252) C dL_law_44 (by decide) (by decide) rfl (by decide) (L_goblinCount hF hl hJ hX hN hNC C hXs hbl hL hi hK hS hc kk)
    | 18, _ => exact m_tin (tgt := 1265) C dL_law_44 (by decide) (by decide) rfl (by decide) (L_strength hF hl hJ hX hN hNC C hXs hbl hL hi hK hS hc kk)
    | 19, _ => exact m_tin (tgt := 1321) C dL_law_44 (by decide) (by decide) rfl (by decide) (L_purse hF hl hJ hX hN hNC C hXs hbl hL hi hK hS hc kk)
    | 20, _ => exact m_tin (tgt := 1377) C dL_law_44 (by decide) (by decide) rfl (by decide) (L_debt hF hl hJ hX hN hNC C hXs hbl hL hi hK hS hc kk)
    | 21, _ => exact m_tin (tgt := 1433) C dL_law_44 (by decide) (by decide) rfl (by decide) (L_skippedNights hF hl hJ hX hN hNC C hXs hbl hL hi hK hS hc kk)
    | 22, _ => exact m_tin (tgt := 1489) C dL_law_44 (by decide) (by decide) rfl (by decide) (L_isResting hF hl hJ hX hN hNC C hXs hbl hL hi hK hS hc kk)
    | 23, _ => exact m_tin (tgt := 1552) C dL_law_44 (by decide) (by decide) rfl (by decide) (L_energy hF hl hJ hX hN hNC C hXs hbl hL hi hK hS hc kk)
    | 24, _ => exact m_tin (tgt := 1608) C dL_law_44 (by decide) (by decide) rfl (by decide) (L_goblinByWealth hF hl hJ hX hN hNC C hXs hbl hL hi hK hS hc kk)
    | 25, _ => exact m_tin (tgt := 1664) C dL_law_44 (by decide) (by decide) rfl (by decide) (L_bestWages hF hl hJ hX hN hNC C hXs hbl hL hi hK hS hc kk)
    | 26, _ => exact m_tin (tgt := 1720) C dL_law_44 (by decide) (by decide) rfl (by decide) (L_bestWagesByTable hF hl hJ hX hN hNC C hXs hbl hL hi hK hS hc kk)
    | 27, _ => exact m_tin (tgt := 1776) C dL_law_44 (by decide) (by decide) rfl (by decide) (L_openContracts hF hl hJ hX hN hNC C hXs hbl hL hi hK hS hc kk)
    | 28, _ => exact m_tin (tgt := 1789) C dL_law_44 (by decide) (by decide) rfl (by decide) (L_contractAt hF hl hJ hX hN hNC C hXs hbl hL hi hK hS hc kk)
    | 29, _ => exact m_tin (tgt := 1845) C dL_law_44 (by decide) (by decide) rfl (by decide) (L_goblinOf hF hl hJ hX hN hNC C hXs hbl hL hi hK hS hc kk)
    | 30, _ => exact m_tin (tgt := 1901) C dL_law_44 (by decide) (by decide) rfl (by decide) (L_roomOf hF hl hJ hX hN hNC C hXs hbl hL hi hK hS hc kk)
    | 31, _ => exact m_tin (tgt := 1957) C dL_law_44 (by decide) (by decide) rfl (by decide) (L_wage hF hl hJ hX hN hNC C hXs hbl hL hi hK hS hc kk)
    | 32, _ => exact m_tin (tgt := 2013) C dL_law_44 (by decide) (by decide) rfl (by decide) (L_effort hF hl hJ hX hN hNC C hXs hbl hL hi hK hS hc kk)
    | 33, _ => exact m_tin (tgt := 2069) C dL_law_44 (by decide) (by decide) rfl (by decide) (L_nightsUntilDone hF hl hJ hX hN hNC C hXs hbl hL hi hK hS hc kk)
    | 34, _ => exact m_tin (tgt := 2125) C dL_law_44 (by decide) (by decide) rfl (by decide) (L_chestAfter hF hl hJ hX hN hNC C hXs hbl hL hi hK hS hc kk)
    | 35, _ => exact m_tin (tgt := 2181) C dL_law_44 (by decide) (by decide) rfl (by decide) (L_debtAfter hF hl hJ hX hN hNC C hXs hbl hL hi hK hS hc kk)
    | 36, _ => exact m_tin (tgt := 2249) C dL_law_44 (by decide) (by decide) rfl (by decide) (L_night hF hl hJ hX hN hNC C hXs hbl hL hi hK hS hc kk)
    | 37, _ => exact m_tin (tgt := 2262) C dL_law_44 (by decide) (by decide) rfl (by decide) (L_chest hF hl hJ hX hN hNC C hXs hbl hL hi hK hS hc kk)
    | 38, _ => exact m_tin (tgt := 2275) C dL_law_44 (by decide) (by decide) rfl (by decide) (L_allCrumbs hF hl hJ hX hN hNC C hXs hbl hL hi hK hS hc kk)
    | 39, _ => exact m_tin (tgt := 2288) C dL_law_44 (by decide) (by decide) rfl (by decide) (L_allCrumbsByAccounts hF hl hJ hX hN hNC C hXs hbl hL hi hK hS hc kk)
    | 40, _ => exact m_tin (tgt := 2301) C dL_law_44 (by decide) (by decide) rfl (by decide) (L_doneTotal hF hl hJ hX hN hNC C hXs hbl hL hi hK hS hc kk)
    | 41, _ => exact m_tin (tgt := 2314) C dL_law_44 (by decide) (by decide) rfl (by decide) (L_brokenTotal hF hl hJ hX hN hNC C hXs hbl hL hi hK hS hc kk)
    | 42, _ => exact m_tin (tgt := 2327) C dL_law_44 (by decide) (by decide) rfl (by decide) (L_unpaidTotal hF hl hJ hX hN hNC C hXs hbl hL hi hK hS hc kk)
    | 43, _ => exact m_tin (tgt := 2340) C dL_law_44 (by decide) (by decide) rfl (by decide) (L_interestTotal hF hl hJ hX hN hNC C hXs hbl hL hi hK hS hc kk)
    | 44, _ => exact m_tin (tgt := 2353) C dL_law_44 (by decide) (by decide) rfl (by decide) (L_meanDust hF hl hJ hX hN hNC C hXs hbl hL hi hK hS hc kk)
    | 45, _ => exact m_tin (tgt := 2394) C dL_law_44 (by decide) (by decide) rfl (by decide) (L_reliability hF hl hJ hX hN hNC C hXs hbl hL hi hK hS hc kk)
    | 46, _ => exact m_tin (tgt := 2460) C dL_law_44 (by decide) (by decide) rfl (by decide) (L_isConsistent hF hl hJ hX hN hNC C hXs hbl hL hi hK hS hc kk)
    | 47, _ => exact m_tin (tgt := 2473) C dL_law_44 (by decide) (by decide) rfl (by decide) (L_renderGoblin hF hl hJ hX hN hNC C hXs hbl hL hi hK hS hc kk)
    | 48, _ => exact m_tin (tgt := 2529) C dL_law_44 (by decide) (by decide) rfl (by decide) (L_renderContracts hF hl hJ hX hN hNC C hXs hbl hL hi hK hS hc kk)
    | 49, _ => exact m_tin (tgt := 2542) C dL_law_44 (by decide) (by decide) rfl (by decide) (L_outputAt hF hl hJ hX hN hNC C hXs hbl hL hi hK hS hc kk)
    | 50, _ => exact m_tin (tgt := 2598) C dL_law_44 (by decide) (by decide) rfl (by decide) (L_type hF hl hJ hX hN hNC C hXs hbl hL hi hK hS hc kk)
    | 51, _ => exact m_tin (tgt := 2656) C dL_law_44 (by decide) (by decide) rfl (by decide) (L_runScript hF hl hJ hX hN hNC C hXs hbl hL hi hK hS hc kk)
    | 52, _ => exact m_tin (tgt := 2700) C dL_law_44 (by decide) (by decide) rfl (by decide) (L_errorPosition hF hl hJ hX hN hNC C hXs hbl hL hi hK hS hc kk)
    | 53, _ => exact m_tin (tgt := 2744) C dL_law_44 (by decide) (by decide) rfl (by decide) (L_failedCommand hF hl hJ hX hN hNC C hXs hbl hL hi hK hS hc kk)
    | 54, _ => exact m_tin (tgt := 2788) C dL_law_44 (by decide) (by decide) rfl (by decide) (L_undo hF hl hJ hX hN hNC C hXs hbl hL hi hK hS hc kk)
    | 55, _ => exact m_tin (tgt := 2832) C dL_law_44 (by decide) (by decide) rfl (by decide) (L_save hF hl hJ hX hN hNC C hXs hbl hL hi hK hS hc kk)
    | 56, _ => exact m_tin (tgt := 2845) C dL_law_44 (by decide) (by decide) rfl (by decide) (L_restore hF hl hJ hX hN hNC C hXs hbl hL hi hK hS hc kk)
    | _ + 57, h => exact absurd h (by omega)
  · refine m_tout (tgt := 2889) C dL_law_44 (by omega) hz (by decide) ?_
    exact m_wd (by omega) (by omega) (kk W M ⟨hS.1, hS.2.1, hS.2.2.1, hS.2.2.2.1, hS.2.2.2.2.mono (by omega)⟩)
set_option maxHeartbeats 1000000 in
theorem L_loop (hF : m_F D aC s) (hl : l.stackTraces = false) (hJ : m_J s fo ks vs fA sA dO dT) (hX : m_TH s) (hN : m_NM s sa va) (hNC : m_NC s) (C : m_C D aC s RL cL_law 10 l p s m args meth c) {b L x : Nat} {xs : Nat → Int32} (hXs : va_X b L xs s s.heap) (hbl : b < s.heap.size) (hL : L ≤ 2560) (kend : ∀ (i : Int) (M : m_M), m_W D aC s 10 p l e room_1 s m args below meth c 603072 7186538 Q 2895 (lL i x b) [] M) : ∀ (n j : Nat) (W : gW) (M : m_M), L < 5 * j + 5 * n → 5 * j ≤ L → lS s fo x (100 + 63600 * (j : Int)) W M → m_W D aC s 10 p l e room_1 s m args below meth c (300 + 470 * j) (5000 + 940 * j) Q 28 (lL (5 * (j : Int)) x b) [] M := by
  intro n
  induction n with
  | zero => intro j W M h1 h2; exact absurd h1 (by omega)
  | succ n ih =>
    intro j W M h1 h2 hS
    refine m_iload C 0 dL_law_28 rfl ?_
    refine m_aload_n C 5 dL_law_30 rfl rfl ?_
    refine m_slen C hXs hbl dL_law_31 ?_
    refine m_iconst C dL_law_32 ?_
    refine m_isub C dL_law_33 ?_
    refine m_icmp_gt (tgt := 2895) C dL_law_34 (by decide) (by omega) (fun c1 => ?_) (fun c1 => ?_)
    · exact m_wd (by omega) (by omega) (kend _ _)
    · refine m_aload_n C 5 dL_law_37 rfl rfl ?_
      refine m_iload C 0 dL_law_38 rfl ?_
      refine m_sld C hXs hbl dL_law_40 (by omega) hL ?_
      refine m_bipush C dL_law_41 (by decide) ?_
      refine m_iand (z := ((xs (5 * (j : Int)).toNat) &&& 63).toInt) C dL_law_43 (by rw [Int32.ofInt_toInt, Int32.ofInt_toInt]; rfl) ?_
      refine L_step hF hl hJ hX hN hNC C hXs hbl hL (by omega) (by omega) hS (by omega) (fun W2 M2 hS2 => ?_) _ (m_rng _)
      have e1 : (100 + 63600 * (j : Int)) + 63600 = 100 + 63600 * ((j + 1 : Nat) : Int) := by omega
      rw [e1] at hS2
      have h := ih (j + 1) W2 M2 (by omega) (by omega) hS2
      have e2 : 300 + 470 * (j + 1) = 300 + 470 * j + 470 := by rw [Nat.mul_succ, Nat.add_assoc]
      have e3 : 5000 + 940 * (j + 1) = 5000 + 940 * j + 940 := by rw [Nat.mul_succ, Nat.add_assoc]
      have e4 : 5 * ((j + 1 : Nat) : Int) = 5 * (j : Int) + 5 := by omega
      rw [e2, e3, e4] at h
      refine m_iinc C 0 dL_law_2889 rfl (by decide) rfl ?_
      exact m_goto (tgt := 28) C dL_law_2892 (by decide) (m_lvs [0, 1, 2, 3, 4, 5] rfl h)
end m_LOOP
