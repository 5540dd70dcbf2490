/-! THE LAW: its loop (gen_j10.py) -/
theorem and63 (v : Int32) : ∃ a, a < 64 ∧ v &&& N 63 = N a := by
  refine ⟨(v &&& N 63).toBitVec.toNat, ?_, (N_all _).symm⟩
  show (v.toBitVec &&& (N 63).toBitVec).toNat < 64
  rw [BitVec.toNat_and]
  exact Nat.lt_of_le_of_lt Nat.and_le_right (by decide)
theorem RUN_le {X : Nat × (Nat → Int32)} {pc t B B2 : Nat} {st : List Value} {c : CT} {m : MT} {o : Nat → Int64} (hB : B ≤ B2) (h : RUN X pc t st B c m o) : RUN X pc t st B2 c m o := by
  obtain ⟨k, h2, hk, r⟩ := h
  exact ⟨k, h2, by omega, r⟩
/-- over the switch -/
theorem RUN_sw {X : Nat × (Nat → Int32)} {t B a : Nat} {c : CT} {m : MT} {o : Nat → Int64} {cs : List Prop} {pc' : Nat} (e : psteps 1 mL_law 39 (lawL (N (4 * t))) [.int (N a)] (HP X c m o) = some (cs, pc', lawL (N (4 * t)), [], HP X c m o)) (hc : allP cs) (h : RUN X pc' t [] B c m o) : RUN X 39 t [.int (N a)] B c m o := by
  obtain ⟨k, h2, hk, r⟩ := h
  exact ⟨k, h2, hk, Runs.go 1 e hc r⟩
theorem dsp {X : Nat × (Nat → Int32)} {t B th : Nat} {c : CT} {m : MT} {o : Nat → Int64} (hX : X.1 ≤ 2048) (ht : 4 * t + 4 ≤ X.1) (h : INV c m th) (R : RST X t B) : ∀ a, a < 64 → RUN X 39 t [.int (N a)] (B + 1) c m o
  | 0, _ => RUN_sw (cs := [(0 : Int) ≤ ((39 : Nat) : Int) + 197]) (pc' := 236) rfl ⟨by decide, trivial⟩ (s_same hX ht h R)
  | 1, _ => RUN_sw (cs := [(0 : Int) ≤ ((39 : Nat) : Int) + 265]) (pc' := 304) rfl ⟨by decide, trivial⟩ (s_apart hX ht h R)
  | 2, _ => RUN_sw (cs := [(0 : Int) ≤ ((39 : Nat) : Int) + 333]) (pc' := 372) rfl ⟨by decide, trivial⟩ (s_leftOf hX ht h R)
  | 3, _ => RUN_sw (cs := [(0 : Int) ≤ ((39 : Nat) : Int) + 401]) (pc' := 440) rfl ⟨by decide, trivial⟩ (s_nextTo hX ht h R)
  | 4, _ => RUN_sw (cs := [(0 : Int) ≤ ((39 : Nat) : Int) + 469]) (pc' := 508) rfl ⟨by decide, trivial⟩ (s_at hX ht h R)
  | 5, _ => RUN_sw (cs := [(0 : Int) ≤ ((39 : Nat) : Int) + 537]) (pc' := 576) rfl ⟨by decide, trivial⟩ (s_notAt hX ht h R)
  | 6, _ => RUN_sw (cs := [(0 : Int) ≤ ((39 : Nat) : Int) + 605]) (pc' := 644) rfl ⟨by decide, trivial⟩ (s_either hX ht h R)
  | 7, _ => RUN_sw (cs := [(0 : Int) ≤ ((39 : Nat) : Int) + 685]) (pc' := 724) rfl ⟨by decide, trivial⟩ (s_withdraw hX ht h R)
  | 8, _ => RUN_sw (cs := [(0 : Int) ≤ ((39 : Nat) : Int) + 741]) (pc' := 780) rfl ⟨by decide, trivial⟩ (s_cross hX ht h R)
  | 9, _ => RUN_sw (cs := [(0 : Int) ≤ ((39 : Nat) : Int) + 809]) (pc' := 848) rfl ⟨by decide, trivial⟩ (s_rubOut hX ht h R)
  | 10, _ => RUN_sw (cs := [(0 : Int) ≤ ((39 : Nat) : Int) + 877]) (pc' := 916) rfl ⟨by decide, trivial⟩ (s_rubAllOut h R)
  | 11, _ => RUN_sw (cs := [(0 : Int) ≤ ((39 : Nat) : Int) + 890]) (pc' := 929) rfl ⟨by decide, trivial⟩ (s_settle hX ht h R)
  | 12, _ => RUN_sw (cs := [(0 : Int) ≤ ((39 : Nat) : Int) + 934]) (pc' := 973) rfl ⟨by decide, trivial⟩ (s_append hX ht h R)
  | 13, _ => RUN_sw (cs := [(0 : Int) ≤ ((39 : Nat) : Int) + 990]) (pc' := 1029) rfl ⟨by decide, trivial⟩ (s_clearBuffer h R)
  | 14, _ => RUN_sw (cs := [(0 : Int) ≤ ((39 : Nat) : Int) + 1003]) (pc' := 1042) rfl ⟨by decide, trivial⟩ (s_firstError h R)
  | 15, _ => RUN_sw (cs := [(0 : Int) ≤ ((39 : Nat) : Int) + 1016]) (pc' := 1055) rfl ⟨by decide, trivial⟩ (s_take hX ht h R)
  | 16, _ => RUN_sw (cs := [(0 : Int) ≤ ((39 : Nat) : Int) + 1060]) (pc' := 1099) rfl ⟨by decide, trivial⟩ (s_keep h R)
  | 17, _ => RUN_sw (cs := [(0 : Int) ≤ ((39 : Nat) : Int) + 1073]) (pc' := 1112) rfl ⟨by decide, trivial⟩ (s_goBack hX ht h R)
  | 18, _ => RUN_sw (cs := [(0 : Int) ≤ ((39 : Nat) : Int) + 1117]) (pc' := 1156) rfl ⟨by decide, trivial⟩ (s_undo hX ht h R)
  | 19, _ => RUN_sw (cs := [(0 : Int) ≤ ((39 : Nat) : Int) + 1161]) (pc' := 1200) rfl ⟨by decide, trivial⟩ (s_clues h R)
  | 20, _ => RUN_sw (cs := [(0 : Int) ≤ ((39 : Nat) : Int) + 1174]) (pc' := 1213) rfl ⟨by decide, trivial⟩ (s_sortOf hX ht h R)
  | 21, _ => RUN_sw (cs := [(0 : Int) ≤ ((39 : Nat) : Int) + 1230]) (pc' := 1269) rfl ⟨by decide, trivial⟩ (s_itemOf hX ht h R)
  | 22, _ => RUN_sw (cs := [(0 : Int) ≤ ((39 : Nat) : Int) + 1298]) (pc' := 1337) rfl ⟨by decide, trivial⟩ (s_placeOf hX ht h R)
  | 23, _ => RUN_sw (cs := [(0 : Int) ≤ ((39 : Nat) : Int) + 1354]) (pc' := 1393) rfl ⟨by decide, trivial⟩ (s_isCrossed hX ht h R)
  | 24, _ => RUN_sw (cs := [(0 : Int) ≤ ((39 : Nat) : Int) + 1429]) (pc' := 1468) rfl ⟨by decide, trivial⟩ (s_crosses h R)
  | 25, _ => RUN_sw (cs := [(0 : Int) ≤ ((39 : Nat) : Int) + 1442]) (pc' := 1481) rfl ⟨by decide, trivial⟩ (s_crossesByAccount h R)
  | 26, _ => RUN_sw (cs := [(0 : Int) ≤ ((39 : Nat) : Int) + 1455]) (pc' := 1494) rfl ⟨by decide, trivial⟩ (s_made h R)
  | 27, _ => RUN_sw (cs := [(0 : Int) ≤ ((39 : Nat) : Int) + 1468]) (pc' := 1507) rfl ⟨by decide, trivial⟩ (s_left hX ht h R)
  | 28, _ => RUN_sw (cs := [(0 : Int) ≤ ((39 : Nat) : Int) + 1524]) (pc' := 1563) rfl ⟨by decide, trivial⟩ (s_leftByTurns hX ht h R)
  | 29, _ => RUN_sw (cs := [(0 : Int) ≤ ((39 : Nat) : Int) + 1580]) (pc' := 1619) rfl ⟨by decide, trivial⟩ (s_rounds h R)
  | 30, _ => RUN_sw (cs := [(0 : Int) ≤ ((39 : Nat) : Int) + 1593]) (pc' := 1632) rfl ⟨by decide, trivial⟩ (s_isContradiction h R)
  | 31, _ => RUN_sw (cs := [(0 : Int) ≤ ((39 : Nat) : Int) + 1606]) (pc' := 1645) rfl ⟨by decide, trivial⟩ (s_fixedAt hX ht h R)
  | 32, _ => RUN_sw (cs := [(0 : Int) ≤ ((39 : Nat) : Int) + 1662]) (pc' := 1701) rfl ⟨by decide, trivial⟩ (s_fixedItems h R)
  | 33, _ => RUN_sw (cs := [(0 : Int) ≤ ((39 : Nat) : Int) + 1675]) (pc' := 1714) rfl ⟨by decide, trivial⟩ (s_hint h R)
  | 34, _ => RUN_sw (cs := [(0 : Int) ≤ ((39 : Nat) : Int) + 1688]) (pc' := 1727) rfl ⟨by decide, trivial⟩ (s_hintBy h R)
  | 35, _ => RUN_sw (cs := [(0 : Int) ≤ ((39 : Nat) : Int) + 1701]) (pc' := 1740) rfl ⟨by decide, trivial⟩ (s_solutions h R)
  | 36, _ => RUN_sw (cs := [(0 : Int) ≤ ((39 : Nat) : Int) + 1714]) (pc' := 1753) rfl ⟨by decide, trivial⟩ (s_solutionsBySearch h R)
  | 37, _ => RUN_sw (cs := [(0 : Int) ≤ ((39 : Nat) : Int) + 1727]) (pc' := 1766) rfl ⟨by decide, trivial⟩ (s_placeIn hX ht h R)
  | 38, _ => RUN_sw (cs := [(0 : Int) ≤ ((39 : Nat) : Int) + 1795]) (pc' := 1834) rfl ⟨by decide, trivial⟩ (s_trulyLeft hX ht h R)
  | 39, _ => RUN_sw (cs := [(0 : Int) ≤ ((39 : Nat) : Int) + 1851]) (pc' := 1890) rfl ⟨by decide, trivial⟩ (s_isSpare hX ht h R)
  | 40, _ => RUN_sw (cs := [(0 : Int) ≤ ((39 : Nat) : Int) + 1914]) (pc' := 1953) rfl ⟨by decide, trivial⟩ (s_culprit h R)
  | 41, _ => RUN_sw (cs := [(0 : Int) ≤ ((39 : Nat) : Int) + 1927]) (pc' := 1966) rfl ⟨by decide, trivial⟩ (s_barredBy hX ht h R)
  | 42, _ => RUN_sw (cs := [(0 : Int) ≤ ((39 : Nat) : Int) + 1983]) (pc' := 2022) rfl ⟨by decide, trivial⟩ (s_isPlain h R)
  | 43, _ => RUN_sw (cs := [(0 : Int) ≤ ((39 : Nat) : Int) + 1996]) (pc' := 2035) rfl ⟨by decide, trivial⟩ (s_fixedShare h R)
  | 44, _ => RUN_sw (cs := [(0 : Int) ≤ ((39 : Nat) : Int) + 2037]) (pc' := 2076) rfl ⟨by decide, trivial⟩ (s_meanLeft h R)
  | 45, _ => RUN_sw (cs := [(0 : Int) ≤ ((39 : Nat) : Int) + 2080]) (pc' := 2119) rfl ⟨by decide, trivial⟩ (s_digest h R)
  | 46, _ => RUN_sw (cs := [(0 : Int) ≤ ((39 : Nat) : Int) + 2094]) (pc' := 2133) rfl ⟨by decide, trivial⟩ (RUN_le (Nat.le_succ B) (R c m o th h))
  | 47, _ => RUN_sw (cs := [(0 : Int) ≤ ((39 : Nat) : Int) + 2094]) (pc' := 2133) rfl ⟨by decide, trivial⟩ (RUN_le (Nat.le_succ B) (R c m o th h))
  | 48, _ => RUN_sw (cs := [(0 : Int) ≤ ((39 : Nat) : Int) + 2094]) (pc' := 2133) rfl ⟨by decide, trivial⟩ (RUN_le (Nat.le_succ B) (R c m o th h))
  | 49, _ => RUN_sw (cs := [(0 : Int) ≤ ((39 : Nat) : Int) + 2094]) (pc' := 2133) rfl ⟨by decide, trivial⟩ (RUN_le (Nat.le_succ B) (R c m o th h))
  | 50, _ => RUN_sw (cs := [(0 : Int) ≤ ((39 : Nat) : Int) + 2094]) (pc' := 2133) rfl ⟨by decide, trivial⟩ (RUN_le (Nat.le_succ B) (R c m o th h))
  | 51, _ => RUN_sw (cs := [(0 : Int) ≤ ((39 : Nat) : Int) + 2094]) (pc' := 2133) rfl ⟨by decide, trivial⟩ (RUN_le (Nat.le_succ B) (R c m o th h))
  | 52, _ => RUN_sw (cs := [(0 : Int) ≤ ((39 : Nat) : Int) + 2094]) (pc' := 2133) rfl ⟨by decide, trivial⟩ (RUN_le (Nat.le_succ B) (R c m o th h))
  | 53, _ => RUN_sw (cs := [(0 : Int) ≤ ((39 : Nat) : Int) + 2094]) (pc' := 2133) rfl ⟨by decide, trivial⟩ (RUN_le (Nat.le_succ B) (R c m o th h))
  | 54, _ => RUN_sw (cs := [(0 : Int) ≤ ((39 : Nat) : Int) + 2094]) (pc' := 2133) rfl ⟨by decide, trivial⟩ (RUN_le (Nat.le_succ B) (R c m o th h))
  | 55, _ => RUN_sw (cs := [(0 : Int) ≤ ((39 : Nat) : Int) + 2094]) (pc' := 2133) rfl ⟨by decide, trivial⟩ (RUN_le (Nat.le_succ B) (R c m o th h))
  | 56, _ => RUN_sw (cs := [(0 : Int) ≤ ((39 : Nat) : Int) + 2094]) (pc' := 2133) rfl ⟨by decide, trivial⟩ (RUN_le (Nat.le_succ B) (R c m o th h))
  | 57, _ => RUN_sw (cs := [(0 : Int) ≤ ((39 : Nat) : Int) + 2094]) (pc' := 2133) rfl ⟨by decide, trivial⟩ (RUN_le (Nat.le_succ B) (R c m o th h))
  | 58, _ => RUN_sw (cs := [(0 : Int) ≤ ((39 : Nat) : Int) + 2094]) (pc' := 2133) rfl ⟨by decide, trivial⟩ (RUN_le (Nat.le_succ B) (R c m o th h))
  | 59, _ => RUN_sw (cs := [(0 : Int) ≤ ((39 : Nat) : Int) + 2094]) (pc' := 2133) rfl ⟨by decide, trivial⟩ (RUN_le (Nat.le_succ B) (R c m o th h))
  | 60, _ => RUN_sw (cs := [(0 : Int) ≤ ((39 : Nat) : Int) + 2094]) (pc' := 2133) rfl ⟨by decide, trivial⟩ (RUN_le (Nat.le_succ B) (R c m o th h))
  | 61, _ => RUN_sw (cs := [(0 : Int) ≤ ((39 : Nat) : Int) + 2094]) (pc' := 2133) rfl ⟨by decide, trivial⟩ (RUN_le (Nat.le_succ B) (R c m o th h))
  | 62, _ => RUN_sw (cs := [(0 : Int) ≤ ((39 : Nat) : Int) + 2094]) (pc' := 2133) rfl ⟨by decide, trivial⟩ (RUN_le (Nat.le_succ B) (R c m o th h))
  | 63, _ => RUN_sw (cs := [(0 : Int) ≤ ((39 : Nat) : Int) + 2094]) (pc' := 2133) rfl ⟨by decide, trivial⟩ (RUN_le (Nat.le_succ B) (R c m o th h))
  | a + 64, h64 => absurd h64 (by omega)
theorem gt_top {a t : Nat} (ha : a ≤ 2048) (ht : 4 * t ≤ 2048) : N a - N 4 < N (4 * t) ↔ a < 4 * t + 4 := by
  by_cases h4 : 4 ≤ a
  · rw [N_sub h4, N_lt (by omega) (by omega)]
    omega
  · have e : N a - N 4 < N 0 := by
      rcases (show a = 0 ∨ a = 1 ∨ a = 2 ∨ a = 3 by omega) with rfl | rfl | rfl | rfl <;> decide
    refine ⟨fun _ => by omega, fun _ => ?_⟩
    exact Int32.lt_of_lt_of_le e ((N_le (by omega) (by omega)).mpr (Nat.zero_le _))
theorem law_loop {X : Nat × (Nat → Int32)} (hX : X.1 ≤ 2048) : ∀ (f t : Nat) (c : CT) (m : MT) (o : Nat → Int64) (th : Nat), 4 * t ≤ X.1 → X.1 < 4 * t + 4 * f + 4 → INV c m th → RUN X 23 t [] f c m o := by
  intro f
  induction f with
  | zero =>
    intro t c m o th ht hf h
    refine ⟨0, HP X c m o, Nat.le_refl _, ?_⟩
    refine Runs.go 6 (cs := []) (pc' := bif decide (N X.1 - N 4 < N (4 * t)) then 2139 else 32) (pl' := lawL (N (4 * t))) (st' := []) (h' := HP X c m o) rfl trivial ?_
    refine Runs.brT (decide_eq_true ((gt_top hX (by omega)).mpr (by omega))) ?_
    refine Runs.go 1 (cs := []) (pc' := 2140) (pl' := lawL (N (4 * t))) (st' := [.int (N 1)]) (h' := HP X c m o) rfl trivial ?_
    exact Runs.retE (cs := [(N 1 : Int32) = 0 ∨ (N 1 : Int32) = 1]) rfl ⟨Or.inr rfl, trivial⟩ (retI rfl) rfl
  | succ f ih =>
    intro t c m o th ht hf h
    by_cases hl : X.1 < 4 * t + 4
    · refine ⟨0, HP X c m o, Nat.zero_le _, ?_⟩
      refine Runs.go 6 (cs := []) (pc' := bif decide (N X.1 - N 4 < N (4 * t)) then 2139 else 32) (pl' := lawL (N (4 * t))) (st' := []) (h' := HP X c m o) rfl trivial ?_
      refine Runs.brT (decide_eq_true ((gt_top hX (by omega)).mpr hl)) ?_
      refine Runs.go 1 (cs := []) (pc' := 2140) (pl' := lawL (N (4 * t))) (st' := [.int (N 1)]) (h' := HP X c m o) rfl trivial ?_
      exact Runs.retE (cs := [(N 1 : Int32) = 0 ∨ (N 1 : Int32) = 1]) rfl ⟨Or.inr rfl, trivial⟩ (retI rfl) rfl
    · have R : RST X t f := fun c1 m2 o1 th2 hI => by
        obtain ⟨k, h2, hk, r⟩ := ih (t + 1) c1 m2 o1 th2 (by omega) (by omega) hI
        refine ⟨k, h2, hk, ?_⟩
        refine Runs.goL 2 (cs := []) (pc' := 23) (pl1 := lawL (N (4 * t) + Int32.ofInt 4)) (pl' := lawL (N (4 * (t + 1)))) (st' := []) (h' := HP X c1 m2 o1) rfl trivial ?_ r
        exact congrArg lawL (show N (4 * t) + N 4 = N (4 * (t + 1)) from NA (by omega))
      obtain ⟨a, ha, ea⟩ := and63 (X.2 (4 * t))
      obtain ⟨k, h2, hk, r⟩ := dsp (o := o) hX (by omega) h R a ha
      refine ⟨k, h2, hk, ?_⟩
      refine Runs.go 6 (cs := []) (pc' := bif decide (N X.1 - N 4 < N (4 * t)) then 2139 else 32) (pl' := lawL (N (4 * t))) (st' := []) (h' := HP X c m o) rfl trivial ?_
      refine Runs.brF (decide_eq_false (fun z => hl ((gt_top hX (by omega)).mp z))) ?_
      refine Runs.topI 5 (cs := [vp_in (N (4 * t)) X.1]) (pc' := 39) (pl' := lawL (N (4 * t))) (v := X.2 (N (4 * t)).toNatClampNeg &&& N 63) (v' := N a) (st' := []) (h' := HP X c m o) rfl ⟨N_in (by omega) (by omega), trivial⟩ ?_ r
      rw [N_tc (by omega)]
      exact ea
theorem law_true : ∀ X : Nat × (Nat → Int32), X.1 ≤ 2048 → ∃ (n k : Nat) (h' : PH), k ≤ 600000 ∧ prun n 60 mL_law 23 (lawL 0) [] (HP X CT0 (MT0 (aN odC)) (fun _ => 0)) = some (.inl (some (.int 1)), h', k) := by
  intro X hX
  obtain ⟨k, h2, hk, n, hn⟩ := law_loop hX 512 0 CT0 (MT0 (aN odC)) (fun _ => 0) 0 (Nat.zero_le _) (by omega) INV_0
  exact ⟨n, k, h2, Nat.le_trans hk (by decide), hn⟩
