/-! THE CLASS: its propagation (gen_c4.py) -/
theorem dif_pk15 {G : Nat → Nat} (hG : M16 G) : dif 281474976710655 (pk G) = pk (fun i => dif 15 (G i)) := by
  rw [← zk_full, zk_dif (fun _ _ => by decide) hG]
/-- the crosses of a row -/
def CX (S : Nat → Nat) : Nat → Nat := fun i => if i < 12 then S (i + 49) else 0
theorem CX_16 {S : Nat → Nat} (hV : VC S) : M16 (CX S) := fun j hj => by
  rw [CX, if_pos hj]
  exact hV.1 _ (by omega)
theorem CX_z (S : Nat → Nat) : Z12 (CX S) := fun j hj => if_neg (by omega)
theorem FR_m16 (S : Nat → Nat) : M16 (FR S) := FR_16 S
theorem fr_pk {S : Nat → Nat} (hV : VC S) : dif 281474976710655 (pk (CX S)) = pk (FR S) := by
  rw [dif_pk15 (CX_16 hV)]
  refine zk_congr (fun j hj => ?_)
  show dif 15 (CX S j) = FR S j
  rw [CX, if_pos hj, FR, if_pos hj]
theorem L0_lt : (0 : Nat) < 281474976710656 := by decide
theorem c_leftAtFirst {X : Nat × (Nat → Int32)} {S : Nat → Nat} {cl : Nat → Nat} {sn : SV} {sg : Nat → Option Nat} {sv : Nat → SV} {cd : Nat → Nat} {ln pe pr : Nat} {ba : Nat → Nat} {fo us : Nat} {fr : Bool} {sc : Nat} {hs : Bool} {m : MT} {o : Nat → Int64} (hV : VC S) : Call 0 mX2_leftAtFirst [.ref 1] (KP X cl (S 0) (pk (CX S)) (S 61) (S 62) sn sg sv cd ln pe pr ba fo us fr sc hs m o) (.inl (some (.long (L (pk (FR S)))))) (KP X cl (S 0) (pk (CX S)) (S 61) (S 62) sn sg sv cd ln pe pr ba fo us fr sc hs m o) 0 := by
  refine Runs.topJ 6 (cs := []) (pc' := 12) (pl' := [some (.ref 1)]) (v := (L 281474976710655) &&& ((L (pk (CX S))) ^^^ (-1 : Int64))) (v' := L (pk (FR S))) (st' := []) (h' := (KP X cl (S 0) (pk (CX S)) (S 61) (S 62) sn sg sv cd ln pe pr ba fo us fr sc hs m o)) rfl trivial ((L_dif _ _).trans (congrArg L (fr_pk hV))) ?_
  exact Runs.retE (cs := []) rfl trivial (retJ rfl) rfl
/-- what the kinds and the first t clues rule out -/
def roN (S f : Nat → Nat) : Nat → Nat → Nat
  | 0 => fun i => takF f i ||| neeF f i
  | t + 1 => fun i => roN S f t i ||| ruC S f t i
theorem roN_16 {S f : Nat → Nat} (hf : M16 f) : ∀ t, M16 (roN S f t)
  | 0 => fun j hj => or_16 (tak_16 hf j hj) (nee_16 hf j hj)
  | t + 1 => fun j hj => or_16 (roN_16 hf t j hj) (ruC_16 S f t j hj)
theorem c_ruledOutP {X : Nat × (Nat → Int32)} {S : Nat → Nat} {cl : Nat → Nat} {sn : SV} {sg : Nat → Option Nat} {sv : Nat → SV} {cd : Nat → Nat} {ln pe pr : Nat} {ba : Nat → Nat} {fo us : Nat} {fr : Bool} {sc : Nat} {hs : Bool} {m : MT} {o : Nat → Int64} (hV : VC S) (hcl : ∀ k, k < S 0 → cl k = ecl S k) {f : Nat → Nat} (hf : M16 f) (hz : Z12 f) : Call 3 mX2_ruledOut [.ref 1, .long (L (pk f))] (KP X cl (S 0) (pk (CX S)) (S 61) (S 62) sn sg sv cd ln pe pr ba fo us fr sc hs m o) (.inl (some (.long (L (pk (roN S f (S 0))))))) (KP X cl (S 0) (pk (CX S)) (S 61) (S 62) sn sg sv cd ln pe pr ba fo us fr sc hs m o) 0 := by
  have h12 := hV.2.1
  refine Runs.go 1 (cs := []) (pc' := 1) (pl' := [some (.ref 1), some (.long (L (pk f))), none, none, none, none]) (st' := [.long (L (pk f))]) (h' := (KP X cl (S 0) (pk (CX S)) (S 61) (S 62) sn sg sv cd ln pe pr ba fo us fr sc hs m o)) rfl trivial ?_
  refine Runs.cal (y := mX1_takenByAnother) (as := [.long (L (pk f))]) (rest := []) (pc' := 4) (cs := []) (v := some (.long (L (pk (takF f))))) (h1 := (KP X cl (S 0) (pk (CX S)) (S 61) (S 62) sn sg sv cd ln pe pr ba fo us fr sc hs m o)) rfl trivial (by decide) (c_takenByAnother hf) ?_
  show Runs _ _ 4 _ [.long (L (pk (takF f)))] _ _ _ _
  refine Runs.go 1 (cs := []) (pc' := 5) (pl' := [some (.ref 1), some (.long (L (pk f))), none, none, none, none]) (st' := [.long (L (pk f)), .long (L (pk (takF f)))]) (h' := (KP X cl (S 0) (pk (CX S)) (S 61) (S 62) sn sg sv cd ln pe pr ba fo us fr sc hs m o)) rfl trivial ?_
  refine Runs.cal (y := mX1_neededElsewhere) (as := [.long (L (pk f))]) (rest := [.long (L (pk (takF f)))]) (pc' := 8) (cs := []) (v := some (.long (L (pk (neeF f))))) (h1 := (KP X cl (S 0) (pk (CX S)) (S 61) (S 62) sn sg sv cd ln pe pr ba fo us fr sc hs m o)) rfl trivial (by decide) (c_neededElsewhere hf) ?_
  show Runs _ _ 8 _ [.long (L (pk (neeF f))), .long (L (pk (takF f)))] _ _ _ _
  refine Runs.topJ 1 (cs := []) (pc' := 9) (pl' := [some (.ref 1), some (.long (L (pk f))), none, none, none, none]) (v := (L (pk (takF f))) ||| (L (pk (neeF f)))) (v' := L (pk (roN S f 0))) (st' := []) (h' := (KP X cl (S 0) (pk (CX S)) (S 61) (S 62) sn sg sv cd ln pe pr ba fo us fr sc hs m o)) rfl trivial ((L_or _ _).trans (congrArg L (zk_or (tak_16 hf) (nee_16 hf)))) ?_
  refine Runs.go 3 (cs := []) (pc' := 13) (pl' := [some (.ref 1), some (.long (L (pk f))), none, some (.long (L (pk (roN S f 0)))), none, some (.int (N 0))]) (st' := []) (h' := (KP X cl (S 0) (pk (CX S)) (S 61) (S 62) sn sg sv cd ln pe pr ba fo us fr sc hs m o)) rfl trivial ?_
  refine Runs.wk (pl' := [some (.ref 1), some (.long (L (pk f))), none, some (.long (L (pk (roN S f 0)))), none, some (.int (N 0))]) (st' := []) (h' := (KP X cl (S 0) (pk (CX S)) (S 61) (S 62) sn sg sv cd ln pe pr ba fo us fr sc hs m o)) ⟨Or.inr rfl, Or.inr rfl, Or.inl rfl, Or.inr rfl, Or.inl rfl, Or.inr rfl, trivial⟩ rfl rfl ?_
  refine Runs.loopN (fun t => [some (.ref 1), some (.long (L (pk f))), none, some (.long (L (pk (roN S f t)))), none, some (.int (N t))]) (fun t => (KP X cl (S 0) (pk (CX S)) (S 61) (S 62) sn sg sv cd ln pe pr ba fo us fr sc hs m o)) (fun t => True) (S 0) trivial (fun t ht I1 K1 => ?_) (fun I1 => ?_)
  · show Runs _ _ 13 [some (.ref 1), some (.long (L (pk f))), none, some (.long (L (pk (roN S f t)))), none, some (.int (N t))] [] (KP X cl (S 0) (pk (CX S)) (S 61) (S 62) sn sg sv cd ln pe pr ba fo us fr sc hs m o) _ _ _
    refine Runs.go 4 (cs := []) (pc' := bif decide ((N (S 0)) ≤ (N t)) then 42 else 22) (pl' := [some (.ref 1), some (.long (L (pk f))), none, some (.long (L (pk (roN S f t)))), none, some (.int (N t))]) (st' := []) (h' := (KP X cl (S 0) (pk (CX S)) (S 61) (S 62) sn sg sv cd ln pe pr ba fo us fr sc hs m o)) rfl trivial ?_
    refine Runs.brF (decide_eq_false (fun zq9 => absurd ((N_le (a := S 0) (b := t) (by omega) (by omega)).mp zq9) (by omega))) ?_
    refine Runs.topI 5 (cs := [vp_in (N t) 12]) (pc' := 30) (pl' := [some (.ref 1), some (.long (L (pk f))), none, some (.long (L (pk (roN S f t)))), none, some (.int (N t))]) (v := aN cl (N t).toNatClampNeg) (v' := N (ecl S t)) (st' := [.long (L (pk (roN S f t)))]) (h' := (KP X cl (S 0) (pk (CX S)) (S 61) (S 62) sn sg sv cd ln pe pr ba fo us fr sc hs m o)) rfl ⟨(N_in (by omega) (by decide)), trivial⟩ ((aN_at (by omega)).trans (congrArg N (hcl t (by omega)))) ?_
    refine Runs.go 1 (cs := []) (pc' := 31) (pl' := [some (.ref 1), some (.long (L (pk f))), none, some (.long (L (pk (roN S f t)))), none, some (.int (N t))]) (st' := [.long (L (pk f)), .int (N (ecl S t)), .long (L (pk (roN S f t)))]) (h' := (KP X cl (S 0) (pk (CX S)) (S 61) (S 62) sn sg sv cd ln pe pr ba fo us fr sc hs m o)) rfl trivial ?_
    refine Runs.cal (y := mX0_ruledOut) (as := [.int (N (ecl S t)), .long (L (pk f))]) (rest := [.long (L (pk (roN S f t)))]) (pc' := 34) (cs := []) (v := some (.long (L (pk (ruC S f t))))) (h1 := (KP X cl (S 0) (pk (CX S)) (S 61) (S 62) sn sg sv cd ln pe pr ba fo us fr sc hs m o)) rfl trivial (by decide) (c_ruledOut hV (by omega) hf hz) ?_
    show Runs _ _ 34 _ [.long (L (pk (ruC S f t))), .long (L (pk (roN S f t)))] _ _ _ _
    refine Runs.topJ 1 (cs := []) (pc' := 35) (pl' := [some (.ref 1), some (.long (L (pk f))), none, some (.long (L (pk (roN S f t)))), none, some (.int (N t))]) (v := (L (pk (roN S f t))) ||| (L (pk (ruC S f t)))) (v' := L (pk (roN S f (t + 1)))) (st' := []) (h' := (KP X cl (S 0) (pk (CX S)) (S 61) (S 62) sn sg sv cd ln pe pr ba fo us fr sc hs m o)) rfl trivial ((L_or _ _).trans (congrArg L (zk_or (roN_16 hf t) (ruC_16 S f t)))) ?_
    refine Runs.goL 2 (cs := []) (pc' := 39) (pl1 := [some (.ref 1), some (.long (L (pk f))), none, some (.long (L (pk (roN S f (t + 1))))), none, some (.int (N t + N 1))]) (pl' := [some (.ref 1), some (.long (L (pk f))), none, some (.long (L (pk (roN S f (t + 1))))), none, some (.int (N (t + 1)))]) (st' := []) (h' := (KP X cl (S 0) (pk (CX S)) (S 61) (S 62) sn sg sv cd ln pe pr ba fo us fr sc hs m o)) rfl trivial (congrArg (fun zq9 => ([some (.ref 1), some (.long (L (pk f))), none, some (.long (L (pk (roN S f (t + 1))))), none, some (.int zq9)] : PL)) (NA (by omega))) ?_
    refine Runs.go 1 (cs := []) (pc' := 13) (pl' := [some (.ref 1), some (.long (L (pk f))), none, some (.long (L (pk (roN S f (t + 1))))), none, some (.int (N (t + 1)))]) (st' := []) (h' := (KP X cl (S 0) (pk (CX S)) (S 61) (S 62) sn sg sv cd ln pe pr ba fo us fr sc hs m o)) rfl trivial ?_
    exact Runs.wk (pl' := [some (.ref 1), some (.long (L (pk f))), none, some (.long (L (pk (roN S f (t + 1))))), none, some (.int (N (t + 1)))]) (st' := []) (h' := (KP X cl (S 0) (pk (CX S)) (S 61) (S 62) sn sg sv cd ln pe pr ba fo us fr sc hs m o)) ⟨Or.inr rfl, Or.inr rfl, Or.inl rfl, Or.inr rfl, Or.inl rfl, Or.inr rfl, trivial⟩ rfl rfl (K1 trivial)
  · show Runs _ _ 13 _ [] _ _ _ _
    show Runs _ _ 13 [some (.ref 1), some (.long (L (pk f))), none, some (.long (L (pk (roN S f (S 0))))), none, some (.int (N (S 0)))] [] (KP X cl (S 0) (pk (CX S)) (S 61) (S 62) sn sg sv cd ln pe pr ba fo us fr sc hs m o) _ _ _
    refine Runs.go 4 (cs := []) (pc' := bif decide ((N (S 0)) ≤ (N (S 0))) then 42 else 22) (pl' := [some (.ref 1), some (.long (L (pk f))), none, some (.long (L (pk (roN S f (S 0))))), none, some (.int (N (S 0)))]) (st' := []) (h' := (KP X cl (S 0) (pk (CX S)) (S 61) (S 62) sn sg sv cd ln pe pr ba fo us fr sc hs m o)) rfl trivial ?_
    refine Runs.brT (decide_eq_true ((N_le (a := S 0) (b := S 0) (by omega) (by omega)).mpr (by omega))) ?_
    refine Runs.go 1 (cs := []) (pc' := 43) (pl' := [some (.ref 1), some (.long (L (pk f))), none, some (.long (L (pk (roN S f (S 0))))), none, some (.int (N (S 0)))]) (st' := [.long (L (pk (roN S f (S 0))))]) (h' := (KP X cl (S 0) (pk (CX S)) (S 61) (S 62) sn sg sv cd ln pe pr ba fo us fr sc hs m o)) rfl trivial ?_
    exact Runs.retE (cs := []) rfl trivial (retJ rfl) rfl
theorem roN_bt {S f : Nat → Nat} (hf : M16 f) {i p : Nat} (hi : i < 12) (hp : p < 4) : ∀ t, bt (roN S f t i) p = ((bt (takF f i) p || bt (neeF f i) p) || (bt (f i) p && anyN (fun k => rul S f i p k) t))
  | 0 => by
    show bt (takF f i ||| neeF f i) p = _
    rw [bt_or]
    show _ = (_ || (bt (f i) p && false))
    rw [Bool.and_false, Bool.or_false]
  | t + 1 => by
    show bt (roN S f t i ||| ruC S f t i) p = _
    rw [bt_or, roN_bt hf hi hp t, ruC_bt hi hp, anyN_succ]
    cases bt (takF f i) p || bt (neeF f i) p <;> cases bt (f i) p <;> cases anyN (fun k => rul S f i p k) t <;> rfl
theorem one_bt : ∀ m, m < 16 → ∀ p, p < 4 → bt (m &&& oneF m) p = decide (m = 2 ^ p) := by decide +kernel
theorem oth4 (f : Nat → Nat) (i : Nat) : othN f i 4 = (((0 ||| (if 4 * (i / 4) + 0 = i then 0 else f (4 * (i / 4) + 0))) ||| (if 4 * (i / 4) + 1 = i then 0 else f (4 * (i / 4) + 1))) ||| (if 4 * (i / 4) + 2 = i then 0 else f (4 * (i / 4) + 2))) ||| (if 4 * (i / 4) + 3 = i then 0 else f (4 * (i / 4) + 3)) := rfl
theorem alo4 (f : Nat → Nat) (i p : Nat) : aloN f i p 4 = ((((false || (!decide (4 * (i / 4) + 0 = i) && decide (f (4 * (i / 4) + 0) = 2 ^ p))) || (!decide (4 * (i / 4) + 1 = i) && decide (f (4 * (i / 4) + 1) = 2 ^ p))) || (!decide (4 * (i / 4) + 2 = i) && decide (f (4 * (i / 4) + 2) = 2 ^ p))) || (!decide (4 * (i / 4) + 3 = i) && decide (f (4 * (i / 4) + 3) = 2 ^ p))) := rfl
theorem oth_eq (f : Nat → Nat) (i : Nat) : othN f i 4 = othF f i := by
  rw [oth4]
  unfold othF
  rcases (show i % 4 = 0 ∨ i % 4 = 1 ∨ i % 4 = 2 ∨ i % 4 = 3 by omega) with e | e | e | e
  · rw [if_pos e, if_pos (show 4 * (i / 4) + 0 = i by omega), if_neg (show ¬ 4 * (i / 4) + 1 = i by omega), if_neg (show ¬ 4 * (i / 4) + 2 = i by omega), if_neg (show ¬ 4 * (i / 4) + 3 = i by omega), show 4 * (i / 4) + 1 = i + 1 by omega, show 4 * (i / 4) + 2 = i + 2 by omega, show 4 * (i / 4) + 3 = i + 3 by omega]
    simp
  · rw [if_neg (show ¬ i % 4 = 0 by omega), if_pos e, if_neg (show ¬ 4 * (i / 4) + 0 = i by omega), if_pos (show 4 * (i / 4) + 1 = i by omega), if_neg (show ¬ 4 * (i / 4) + 2 = i by omega), if_neg (show ¬ 4 * (i / 4) + 3 = i by omega), show 4 * (i / 4) + 0 = i - 1 by omega, show 4 * (i / 4) + 2 = i + 1 by omega, show 4 * (i / 4) + 3 = i + 2 by omega]
    simp
  · rw [if_neg (show ¬ i % 4 = 0 by omega), if_neg (show ¬ i % 4 = 1 by omega), if_pos e, if_neg (show ¬ 4 * (i / 4) + 0 = i by omega), if_neg (show ¬ 4 * (i / 4) + 1 = i by omega), if_pos (show 4 * (i / 4) + 2 = i by omega), if_neg (show ¬ 4 * (i / 4) + 3 = i by omega), show 4 * (i / 4) + 0 = i - 2 by omega, show 4 * (i / 4) + 1 = i - 1 by omega, show 4 * (i / 4) + 3 = i + 1 by omega]
    simp
  · rw [if_neg (show ¬ i % 4 = 0 by omega), if_neg (show ¬ i % 4 = 1 by omega), if_neg (show ¬ i % 4 = 2 by omega), if_neg (show ¬ 4 * (i / 4) + 0 = i by omega), if_neg (show ¬ 4 * (i / 4) + 1 = i by omega), if_neg (show ¬ 4 * (i / 4) + 2 = i by omega), if_pos (show 4 * (i / 4) + 3 = i by omega), show 4 * (i / 4) + 0 = i - 3 by omega, show 4 * (i / 4) + 1 = i - 2 by omega, show 4 * (i / 4) + 2 = i - 1 by omega]
    simp
theorem tak_bt {f : Nat → Nat} (hf : M16 f) {i p : Nat} (hi : i < 12) (hp : p < 4) : bt (takF f i) p = (bt (f i) p && aloN f i p 4) := by
  unfold takF
  rw [bt_and, alo4]
  congr 1
  unfold othF
  have g : ∀ j, j < 12 → bt (f j &&& oneF (f j)) p = decide (f j = 2 ^ p) := fun j hj => one_bt _ (hf j hj) p hp
  rcases (show i % 4 = 0 ∨ i % 4 = 1 ∨ i % 4 = 2 ∨ i % 4 = 3 by omega) with e | e | e | e
  · rw [if_pos e, decide_eq_true (show 4 * (i / 4) + 0 = i by omega), decide_eq_false (show ¬ 4 * (i / 4) + 1 = i by omega), decide_eq_false (show ¬ 4 * (i / 4) + 2 = i by omega), decide_eq_false (show ¬ 4 * (i / 4) + 3 = i by omega), show 4 * (i / 4) + 1 = i + 1 by omega, show 4 * (i / 4) + 2 = i + 2 by omega, show 4 * (i / 4) + 3 = i + 3 by omega, bt_or, bt_or, g _ (by omega), g _ (by omega), g _ (by omega)]
    simp
  · rw [if_neg (show ¬ i % 4 = 0 by omega), if_pos e, decide_eq_false (show ¬ 4 * (i / 4) + 0 = i by omega), decide_eq_true (show 4 * (i / 4) + 1 = i by omega), decide_eq_false (show ¬ 4 * (i / 4) + 2 = i by omega), decide_eq_false (show ¬ 4 * (i / 4) + 3 = i by omega), show 4 * (i / 4) + 0 = i - 1 by omega, show 4 * (i / 4) + 2 = i + 1 by omega, show 4 * (i / 4) + 3 = i + 2 by omega, bt_or, bt_or, g _ (by omega), g _ (by omega), g _ (by omega)]
    simp
  · rw [if_neg (show ¬ i % 4 = 0 by omega), if_neg (show ¬ i % 4 = 1 by omega), if_pos e, decide_eq_false (show ¬ 4 * (i / 4) + 0 = i by omega), decide_eq_false (show ¬ 4 * (i / 4) + 1 = i by omega), decide_eq_true (show 4 * (i / 4) + 2 = i by omega), decide_eq_false (show ¬ 4 * (i / 4) + 3 = i by omega), show 4 * (i / 4) + 0 = i - 2 by omega, show 4 * (i / 4) + 1 = i - 1 by omega, show 4 * (i / 4) + 3 = i + 1 by omega, bt_or, bt_or, g _ (by omega), g _ (by omega), g _ (by omega)]
    simp
  · rw [if_neg (show ¬ i % 4 = 0 by omega), if_neg (show ¬ i % 4 = 1 by omega), if_neg (show ¬ i % 4 = 2 by omega), decide_eq_false (show ¬ 4 * (i / 4) + 0 = i by omega), decide_eq_false (show ¬ 4 * (i / 4) + 1 = i by omega), decide_eq_false (show ¬ 4 * (i / 4) + 2 = i by omega), decide_eq_true (show 4 * (i / 4) + 3 = i by omega), show 4 * (i / 4) + 0 = i - 3 by omega, show 4 * (i / 4) + 1 = i - 2 by omega, show 4 * (i / 4) + 2 = i - 1 by omega, bt_or, bt_or, g _ (by omega), g _ (by omega), g _ (by omega)]
    simp
theorem nee_pt : ∀ a, a < 16 → ∀ p, p < 4 → (bt (dif (oneF a) a) p || bt (moreF a) p) = !decide (dif a (2 ^ p) = 0) := by decide +kernel
theorem nee_bt {f : Nat → Nat} (hf : M16 f) {i p : Nat} (hi : i < 12) (hp : p < 4) : bt (neeF f i) p = (bt (f i) p && !decide (ownN f i p = 0)) := by
  unfold neeF ownN
  rw [bt_and, bt_or, nee_pt _ (alo_16 hf i hi) p hp, oth_eq]
  rfl
theorem rbI_not {S f : Nat → Nat} {i p : Nat} (h12 : S 0 ≤ 12) : (!decide (rbI S f i p = -1)) = (anyN (fun k => rul S f i p k) (S 0) || aloN f i p 4 || !decide (ownN f i p = 0)) := by
  unfold rbI
  cases e : fs (rul S f i p) 0 (S 0) with
  | some k =>
    have hk := fs_some.mp e
    rw [decide_eq_false (N_nm1 (by omega)), anyN_iff.mpr ⟨k, by omega, hk.2.2.1⟩]
    rfl
  | none =>
    rw [anyN_not.mpr (fun k hk => fs_none.mp e k (by omega) (by omega)), Bool.false_or]
    show (!decide (rbT f i p = -1)) = _
    unfold rbT
    by_cases h1 : aloN f i p 4 = true
    · rw [if_pos h1, decide_eq_false (N_nm1 (by omega)), h1]
      rfl
    · rw [if_neg h1, bF h1, Bool.false_or]
      by_cases h2 : ownN f i p = 0
      · rw [if_neg (not_not_intro h2), decide_eq_true h2]
        rfl
      · rw [if_pos h2, decide_eq_false (N_nm1 (by omega)), decide_eq_false h2]
/-- what is ruled out, bit by bit, is what the reference rules out -/
theorem ro_rld {S f : Nat → Nat} (hf : M16 f) (h12 : S 0 ≤ 12) {i p : Nat} (hi : i < 12) (hp : p < 4) : bt (roN S f (S 0) i) p = rld S f i p := by
  unfold rld
  rw [roN_bt hf hi hp, tak_bt hf hi hp, nee_bt hf hi hp, rbI_not h12]
  cases bt (f i) p <;> cases anyN (fun k => rul S f i p k) (S 0) <;> cases aloN f i p 4 <;> cases decide (ownN f i p = 0) <;> rfl
theorem rmN_bt {S f : Nat → Nat} {i p : Nat} (hp : p < 4) : ∀ n, bt (rmN S f i n) p = (bt (f i) p && !(decide (p < n) && rld S f i p))
  | 0 => by
    show bt (f i) p = _
    rw [decide_eq_false (by omega), Bool.false_and, Bool.not_false, Bool.and_true]
  | n + 1 => by
    show bt (if rld S f i n then dif (rmN S f i n) (2 ^ n) else rmN S f i n) p = _
    by_cases e : p = n
    · subst e
      by_cases h : rld S f i p = true
      · rw [if_pos h, bt_dif, bt_pow, decide_eq_true rfl, h, decide_eq_true (show p < p + 1 by omega), Bool.not_true, Bool.and_false]
        simp
      · rw [if_neg h, rmN_bt hp p, bF h, Bool.and_false, Bool.and_false]
    · have e2 : decide (p < n + 1) = decide (p < n) := decide_eq_decide.mpr (by omega)
      rw [e2]
      by_cases h : rld S f i n = true
      · rw [if_pos h, bt_dif, bt_pow, decide_eq_false (fun z => e z.symm), Bool.not_false, Bool.and_true, rmN_bt hp n]
      · rw [if_neg h, rmN_bt hp n]
theorem rnd_bt {S f : Nat → Nat} {i p : Nat} (hi : i < 12) (hp : p < 4) : bt (rnd S f i) p = (bt (f i) p && !rld S f i p) := by
  rw [rnd, msk, if_pos hi, rmN_bt hp, decide_eq_true hp, Bool.true_and]
theorem ro_rnd {S f : Nat → Nat} (hf : M16 f) (h12 : S 0 ≤ 12) {i : Nat} (hi : i < 12) : dif (f i) (roN S f (S 0) i) = rnd S f i :=
  m16_ext (dif_16 (hf i hi)) (rnd_16 hf i hi) (fun p hp => by rw [bt_dif, ro_rld hf h12 hi hp, rnd_bt hi hp])
theorem m16_0 {a : Nat} (ha : a < 16) (h : ∀ p, p < 4 → bt a p = false) : a = 0 := m16_ext ha (by decide) (fun p hp => by rw [h p hp, bt_zero])
theorem ro_more {S f : Nat → Nat} (hf : M16 f) (h12 : S 0 ≤ 12) : pk (roN S f (S 0)) = 0 ↔ more S f = false := by
  rw [zk_eq0 (roN_16 hf _)]
  unfold more
  rw [anyN_not]
  constructor
  · intro h k hk
    unfold moreK
    rw [anyN_not]
    intro p hp
    rw [← ro_rld hf h12 hk hp, h k hk, bt_zero]
  · intro h j hj
    refine m16_0 (roN_16 hf _ j hj) (fun p hp => ?_)
    rw [ro_rld hf h12 hj hp]
    exact anyN_not.mp (h j hj) p hp
theorem ro_dif {S f : Nat → Nat} (hf : M16 f) (h12 : S 0 ≤ 12) : dif (pk f) (pk (roN S f (S 0))) = pk (rnd S f) := by
  rw [zk_dif hf (roN_16 hf _)]
  exact zk_congr (fun j hj => ro_rnd hf h12 hj)
/-- rounds, one by one -/
def rit (S : Nat → Nat) : Nat → Nat → Nat
  | 0 => FR S
  | n + 1 => rnd S (rit S n)
theorem rit_16 (S : Nat → Nat) : ∀ n, M16 (rit S n)
  | 0 => FR_16 S
  | n + 1 => rnd_16 (rit_16 S n)
theorem rit_z (S : Nat → Nat) : ∀ n, Z12 (rit S n)
  | 0 => FR_z S
  | n + 1 => rnd_z (rit_z S n)
theorem rit_step {S : Nat → Nat} {j : Nat} (hj : j < 49) (h : more S (rit S j) = true) : itr S (49 - j) (rit S j) = itr S (49 - (j + 1)) (rit S (j + 1)) ∧ trn S (49 - j) (rit S j) = trn S (49 - (j + 1)) (rit S (j + 1)) + 1 := by
  have e : 49 - j = (49 - (j + 1)) + 1 := by omega
  rw [e]
  exact ⟨if_pos h, if_pos h⟩
theorem rit_stop {S : Nat → Nat} {j : Nat} (hj : j < 49) (h : more S (rit S j) = false) : itr S (49 - j) (rit S j) = rit S j ∧ trn S (49 - j) (rit S j) = 0 := by
  have e : 49 - j = (49 - (j + 1)) + 1 := by omega
  rw [e]
  exact ⟨if_neg (by rw [h]; decide), if_neg (by rw [h]; decide)⟩
theorem c_run {X : Nat × (Nat → Int32)} {S : Nat → Nat} {cl : Nat → Nat} {sn : SV} {sg : Nat → Option Nat} {sv : Nat → SV} {cd : Nat → Nat} {ln pe pr : Nat} {ba : Nat → Nat} {fo us : Nat} {fr : Bool} {sc : Nat} {hs : Bool} {m : MT} {o : Nat → Int64} (hV : VC S) (hcl : ∀ k, k < S 0 → cl k = ecl S k) : Call 4 mX2_run [.ref 8, .ref 1] (KP X cl (S 0) (pk (CX S)) (S 61) (S 62) sn sg sv cd ln pe pr ba fo us fr sc hs m o) (.inl none) (KP X cl (S 0) (pk (CX S)) (S 61) (S 62) sn sg sv cd ln (pk (PRP S)) (TRP S) ba fo us fr sc hs m o) 0 := by
  have h12 := hV.2.1
  refine Runs.go 2 (cs := []) (pc' := 2) (pl' := [some (.ref 8), some (.ref 1), none, none, none]) (st' := [.ref 1, .ref 8]) (h' := (KP X cl (S 0) (pk (CX S)) (S 61) (S 62) sn sg sv cd ln pe pr ba fo us fr sc hs m o)) rfl trivial ?_
  refine Runs.cal (y := mX2_leftAtFirst) (as := [.ref 1]) (rest := [.ref 8]) (pc' := 5) (cs := []) (v := some (.long (L (pk (FR S))))) (h1 := (KP X cl (S 0) (pk (CX S)) (S 61) (S 62) sn sg sv cd ln pe pr ba fo us fr sc hs m o)) rfl trivial (by decide) (c_leftAtFirst hV) ?_
  show Runs _ _ 5 _ [.long (L (pk (FR S))), .ref 8] _ _ _ _
  refine Runs.go 6 (cs := []) (pc' := 15) (pl' := [some (.ref 8), some (.ref 1), some (.int (N 0)), none, none]) (st' := []) (h' := (KP X cl (S 0) (pk (CX S)) (S 61) (S 62) sn sg sv cd ln (pk (FR S)) 0 ba fo us fr sc hs m o)) rfl trivial ?_
  refine Runs.wk (pl' := [some (.ref 8), some (.ref 1), some (.int (N 0)), none, none]) (st' := []) (h' := (KP X cl (S 0) (pk (CX S)) (S 61) (S 62) sn sg sv cd ln (pk (rit S 0)) 0 ba fo us fr sc hs m o)) ⟨Or.inr rfl, Or.inr rfl, Or.inr rfl, Or.inl rfl, Or.inl rfl, trivial⟩ rfl rfl ?_
  refine Runs.loopN (fun j => [some (.ref 8), some (.ref 1), some (.int (N j)), none, none]) (fun j => (KP X cl (S 0) (pk (CX S)) (S 61) (S 62) sn sg sv cd ln (pk (rit S j)) j ba fo us fr sc hs m o)) (fun j => PRP S = itr S (49 - j) (rit S j) ∧ TRP S = trn S (49 - j) (rit S j) + j) 49 ⟨rfl, rfl⟩ (fun j hj I1 K1 => ?_) (fun I1 => ?_)
  · show Runs _ _ 15 [some (.ref 8), some (.ref 1), some (.int (N j)), none, none] [] (KP X cl (S 0) (pk (CX S)) (S 61) (S 62) sn sg sv cd ln (pk (rit S j)) j ba fo us fr sc hs m o) _ _ _
    have hro := zk_lt (roN_16 (S := S) (rit_16 S j) (S 0))
    refine Runs.go 3 (cs := []) (pc' := bif decide ((N 49) ≤ (N j)) then 67 else 21) (pl' := [some (.ref 8), some (.ref 1), some (.int (N j)), none, none]) (st' := []) (h' := (KP X cl (S 0) (pk (CX S)) (S 61) (S 62) sn sg sv cd ln (pk (rit S j)) j ba fo us fr sc hs m o)) rfl trivial ?_
    refine Runs.brF (decide_eq_false (fun zq9 => absurd ((N_le (a := 49) (b := j) (by omega) (by omega)).mp zq9) (by omega))) ?_
    refine Runs.go 3 (cs := []) (pc' := 26) (pl' := [some (.ref 8), some (.ref 1), some (.int (N j)), none, none]) (st' := [.long (L (pk (rit S j))), .ref 1]) (h' := (KP X cl (S 0) (pk (CX S)) (S 61) (S 62) sn sg sv cd ln (pk (rit S j)) j ba fo us fr sc hs m o)) rfl trivial ?_
    refine Runs.cal (y := mX2_ruledOut) (as := [.ref 1, .long (L (pk (rit S j)))]) (rest := []) (pc' := 29) (cs := []) (v := some (.long (L (pk (roN S (rit S j) (S 0)))))) (h1 := (KP X cl (S 0) (pk (CX S)) (S 61) (S 62) sn sg sv cd ln (pk (rit S j)) j ba fo us fr sc hs m o)) rfl trivial (by decide) (c_ruledOutP hV hcl (rit_16 S j) (rit_z S j)) ?_
    show Runs _ _ 29 _ [.long (L (pk (roN S (rit S j) (S 0))))] _ _ _ _
    refine Runs.go 5 (cs := []) (pc' := bif decide (¬ (lg_cmp (L (pk (roN S (rit S j) (S 0)))) (L 0)) = 0) then 37 else 36) (pl' := [some (.ref 8), some (.ref 1), some (.int (N j)), some (.long (L (pk (roN S (rit S j) (S 0))))), none]) (st' := []) (h' := (KP X cl (S 0) (pk (CX S)) (S 61) (S 62) sn sg sv cd ln (pk (rit S j)) j ba fo us fr sc hs m o)) rfl trivial ?_
    refine Runs.br (fun z1 => ?_) (fun z1 => ?_)
    · replace z1 : ¬ (pk (roN S (rit S j) (S 0)) = 0) := mt (L_cmp0 (by omega) (by omega)).mpr (of_decide_eq_true z1)
      refine Runs.topJ 7 (cs := []) (pc' := 48) (pl' := [some (.ref 8), some (.ref 1), some (.int (N j)), some (.long (L (pk (roN S (rit S j) (S 0))))), none]) (v := (L (pk (rit S j))) &&& ((L (pk (roN S (rit S j) (S 0)))) ^^^ (-1 : Int64))) (v' := L (pk (rit S (j + 1)))) (st' := [.ref 8]) (h' := (KP X cl (S 0) (pk (CX S)) (S 61) (S 62) sn sg sv cd ln (pk (rit S j)) j ba fo us fr sc hs m o)) rfl trivial ((L_dif _ _).trans (congrArg L (ro_dif (rit_16 S j) h12))) ?_
      refine Runs.topI 6 (cs := []) (pc' := 58) (pl' := [some (.ref 8), some (.ref 1), some (.int (N j)), some (.long (L (pk (roN S (rit S j) (S 0))))), none]) (v := (N j) + (N 1)) (v' := N (j + 1)) (st' := [.ref 8]) (h' := (KP X cl (S 0) (pk (CX S)) (S 61) (S 62) sn sg sv cd ln (pk (rit S (j + 1))) j ba fo us fr sc hs m o)) rfl trivial (NA (by omega)) ?_
      refine Runs.goL 2 (cs := []) (pc' := 64) (pl1 := [some (.ref 8), some (.ref 1), some (.int (N j + N 1)), some (.long (L (pk (roN S (rit S j) (S 0))))), none]) (pl' := [some (.ref 8), some (.ref 1), some (.int (N (j + 1))), some (.long (L (pk (roN S (rit S j) (S 0))))), none]) (st' := []) (h' := (KP X cl (S 0) (pk (CX S)) (S 61) (S 62) sn sg sv cd ln (pk (rit S (j + 1))) (j + 1) ba fo us fr sc hs m o)) rfl trivial (congrArg (fun zq9 => ([some (.ref 8), some (.ref 1), some (.int zq9), some (.long (L (pk (roN S (rit S j) (S 0))))), none] : PL)) (NA (by omega))) ?_
      refine Runs.go 1 (cs := []) (pc' := 15) (pl' := [some (.ref 8), some (.ref 1), some (.int (N (j + 1))), some (.long (L (pk (roN S (rit S j) (S 0))))), none]) (st' := []) (h' := (KP X cl (S 0) (pk (CX S)) (S 61) (S 62) sn sg sv cd ln (pk (rit S (j + 1))) (j + 1) ba fo us fr sc hs m o)) rfl trivial ?_
      have hm : more S (rit S j) = true := bT (mt (ro_more (rit_16 S j) h12).mpr z1)
      exact Runs.wk (pl' := [some (.ref 8), some (.ref 1), some (.int (N (j + 1))), none, none]) (st' := []) (h' := (KP X cl (S 0) (pk (CX S)) (S 61) (S 62) sn sg sv cd ln (pk (rit S (j + 1))) (j + 1) ba fo us fr sc hs m o)) ⟨Or.inr rfl, Or.inr rfl, Or.inr rfl, Or.inl rfl, Or.inl rfl, trivial⟩ rfl rfl (K1 ⟨I1.1.trans (rit_step hj hm).1, by have e := (rit_step hj hm).2; have e2 := I1.2; omega⟩)
    · replace z1 : pk (roN S (rit S j) (S 0)) = 0 := (L_cmp0 (by omega) (by omega)).mp (Classical.not_not.mp (of_decide_eq_false z1))
      have hs := rit_stop hj ((ro_more (rit_16 S j) h12).mp z1)
      have e1 : PRP S = rit S j := I1.1.trans hs.1
      have e2 : TRP S = j := by have := I1.2; rw [hs.2] at this; omega
      exact Runs.retE (cs := []) rfl trivial rfl (by rw [e1, e2])
  · show Runs _ _ 15 _ [] _ _ _ _
    show Runs _ _ 15 [some (.ref 8), some (.ref 1), some (.int (N 49)), none, none] [] (KP X cl (S 0) (pk (CX S)) (S 61) (S 62) sn sg sv cd ln (pk (rit S 49)) 49 ba fo us fr sc hs m o) _ _ _
    refine Runs.go 3 (cs := []) (pc' := bif decide ((N 49) ≤ (N 49)) then 67 else 21) (pl' := [some (.ref 8), some (.ref 1), some (.int (N 49)), none, none]) (st' := []) (h' := (KP X cl (S 0) (pk (CX S)) (S 61) (S 62) sn sg sv cd ln (pk (rit S 49)) 49 ba fo us fr sc hs m o)) rfl trivial ?_
    refine Runs.brT (decide_eq_true (by decide)) ?_
    have e1 : PRP S = rit S 49 := I1.1
    have e2 : TRP S = 49 := by have := I1.2; rw [Nat.sub_self] at this; exact this.trans (Nat.zero_add 49)
    exact Runs.retE (cs := []) rfl trivial rfl (by rw [e1, e2])
/-- one turn: the first t clues, one after the other -/
def tcN (S f : Nat → Nat) : Nat → Nat → Nat
  | 0 => f
  | t + 1 => fun i => dif (tcN S f t i) (ruC S (tcN S f t) t i)
theorem tcN_16 {S f : Nat → Nat} (hf : M16 f) : ∀ t, M16 (tcN S f t)
  | 0 => hf
  | t + 1 => fun j hj => dif_16 (tcN_16 hf t j hj)
theorem dif_0 (b : Nat) : dif 0 b = 0 := by
  unfold dif
  rw [Nat.zero_and, Nat.xor_zero]
theorem tcN_z {S f : Nat → Nat} (hz : Z12 f) : ∀ t, Z12 (tcN S f t)
  | 0 => hz
  | t + 1 => fun j hj => by
    show dif (tcN S f t j) _ = 0
    rw [tcN_z hz t j hj, dif_0]
def tkN (f : Nat → Nat) : Nat → Nat := fun i => dif (f i) (takF f i)
def neN (f : Nat → Nat) : Nat → Nat := fun i => dif (f i) (neeF f i)
theorem tkN_16 {f : Nat → Nat} (hf : M16 f) : M16 (tkN f) := fun j hj => dif_16 (hf j hj)
theorem neN_16 {f : Nat → Nat} (hf : M16 f) : M16 (neN f) := fun j hj => dif_16 (hf j hj)
theorem tkN_z {f : Nat → Nat} (hz : Z12 f) : Z12 (tkN f) := fun j hj => by rw [tkN, hz j hj, dif_0]
theorem neN_z {f : Nat → Nat} (hz : Z12 f) : Z12 (neN f) := fun j hj => by rw [neN, hz j hj, dif_0]
def trnS (S f : Nat → Nat) : Nat → Nat := neN (tkN (tcN S f (S 0)))
theorem trnS_16 {S f : Nat → Nat} (hf : M16 f) : M16 (trnS S f) := neN_16 (tkN_16 (tcN_16 hf _))
theorem trnS_z {S f : Nat → Nat} (hz : Z12 f) : Z12 (trnS S f) := neN_z (tkN_z (tcN_z hz _))
def tit (S f : Nat → Nat) : Nat → Nat → Nat
  | 0 => f
  | n + 1 => trnS S (tit S f n)
theorem tit_16 {S f : Nat → Nat} (hf : M16 f) : ∀ n, M16 (tit S f n)
  | 0 => hf
  | n + 1 => trnS_16 (tit_16 hf n)
theorem tit_z {S f : Nat → Nat} (hz : Z12 f) : ∀ n, Z12 (tit S f n)
  | 0 => hz
  | n + 1 => trnS_z (tit_z hz n)
/-- turns until one changes nothing -/
def bys (S : Nat → Nat) : Nat → (Nat → Nat) → Nat → Nat
  | 0, f => f
  | n + 1, f => if pk (trnS S f) = pk f then f else bys S n (trnS S f)
def BYT (S f : Nat → Nat) : Nat → Nat := bys S 49 f
theorem bys_16 {S : Nat → Nat} : ∀ (n : Nat) {f : Nat → Nat}, M16 f → M16 (bys S n f)
  | 0, _, h => h
  | n + 1, f, h => by
    rw [bys]
    split
    · exact h
    · exact bys_16 n (trnS_16 h)
theorem bys_z {S : Nat → Nat} : ∀ (n : Nat) {f : Nat → Nat}, Z12 f → Z12 (bys S n f)
  | 0, _, h => h
  | n + 1, f, h => by
    rw [bys]
    split
    · exact h
    · exact bys_z n (trnS_z h)
theorem bys_step {S f : Nat → Nat} {j : Nat} (hj : j < 49) (h : ¬ pk (trnS S (tit S f j)) = pk (tit S f j)) : bys S (49 - j) (tit S f j) = bys S (49 - (j + 1)) (tit S f (j + 1)) := by
  have e : 49 - j = (49 - (j + 1)) + 1 := by omega
  rw [e]
  exact if_neg h
theorem bys_stop {S f : Nat → Nat} {j : Nat} (hj : j < 49) (h : pk (trnS S (tit S f j)) = pk (tit S f j)) : bys S (49 - j) (tit S f j) = tit S f j := by
  have e : 49 - j = (49 - (j + 1)) + 1 := by omega
  rw [e]
  exact if_pos h
theorem c_byTurns {X : Nat × (Nat → Int32)} {S : Nat → Nat} {cl : Nat → Nat} {sn : SV} {sg : Nat → Option Nat} {sv : Nat → SV} {cd : Nat → Nat} {ln pe pr : Nat} {ba : Nat → Nat} {fo us : Nat} {fr : Bool} {sc : Nat} {hs : Bool} {m : MT} {o : Nat → Int64} (hV : VC S) (hcl : ∀ k, k < S 0 → cl k = ecl S k) {f : Nat → Nat} (hf : M16 f) (hz : Z12 f) : Call 3 mX2_byTurns [.ref 1, .long (L (pk f))] (KP X cl (S 0) (pk (CX S)) (S 61) (S 62) sn sg sv cd ln pe pr ba fo us fr sc hs m o) (.inl (some (.long (L (pk (BYT S f)))))) (KP X cl (S 0) (pk (CX S)) (S 61) (S 62) sn sg sv cd ln pe pr ba fo us fr sc hs m o) 0 := by
  have h12 := hV.2.1
  refine Runs.go 4 (cs := []) (pc' := 5) (pl' := [some (.ref 1), some (.long (L (pk f))), none, some (.long (L (pk f))), none, some (.int (N 0)), none, none, none]) (st' := []) (h' := (KP X cl (S 0) (pk (CX S)) (S 61) (S 62) sn sg sv cd ln pe pr ba fo us fr sc hs m o)) rfl trivial ?_
  refine Runs.wk (pl' := [some (.ref 1), some (.long (L (pk f))), none, some (.long (L (pk (tit S f 0)))), none, some (.int (N 0)), none, none, none]) (st' := []) (h' := (KP X cl (S 0) (pk (CX S)) (S 61) (S 62) sn sg sv cd ln pe pr ba fo us fr sc hs m o)) ⟨Or.inr rfl, Or.inr rfl, Or.inl rfl, Or.inr rfl, Or.inl rfl, Or.inr rfl, Or.inl rfl, Or.inl rfl, Or.inl rfl, trivial⟩ rfl rfl ?_
  refine Runs.loopN (fun j => [some (.ref 1), some (.long (L (pk f))), none, some (.long (L (pk (tit S f j)))), none, some (.int (N j)), none, none, none]) (fun j => (KP X cl (S 0) (pk (CX S)) (S 61) (S 62) sn sg sv cd ln pe pr ba fo us fr sc hs m o)) (fun j => BYT S f = bys S (49 - j) (tit S f j)) 49 rfl (fun j hj I1 K1 => ?_) (fun I1 => ?_)
  · show Runs _ _ 5 [some (.ref 1), some (.long (L (pk f))), none, some (.long (L (pk (tit S f j)))), none, some (.int (N j)), none, none, none] [] (KP X cl (S 0) (pk (CX S)) (S 61) (S 62) sn sg sv cd ln pe pr ba fo us fr sc hs m o) _ _ _
    have hq1 := zk_lt (trnS_16 (S := S) (tit_16 (S := S) hf j))
    have hq2 := zk_lt (tit_16 (S := S) hf j)
    refine Runs.go 3 (cs := []) (pc' := bif decide ((N 49) ≤ (N j)) then 88 else 12) (pl' := [some (.ref 1), some (.long (L (pk f))), none, some (.long (L (pk (tit S f j)))), none, some (.int (N j)), none, none, none]) (st' := []) (h' := (KP X cl (S 0) (pk (CX S)) (S 61) (S 62) sn sg sv cd ln pe pr ba fo us fr sc hs m o)) rfl trivial ?_
    refine Runs.brF (decide_eq_false (fun zq9 => absurd ((N_le (a := 49) (b := j) (by omega) (by omega)).mp zq9) (by omega))) ?_
    refine Runs.go 4 (cs := []) (pc' := 18) (pl' := [some (.ref 1), some (.long (L (pk f))), none, some (.long (L (pk (tit S f j)))), none, some (.int (N j)), some (.long (L (pk (tit S f j)))), none, some (.int (N 0))]) (st' := []) (h' := (KP X cl (S 0) (pk (CX S)) (S 61) (S 62) sn sg sv cd ln pe pr ba fo us fr sc hs m o)) rfl trivial ?_
    refine Runs.wk (pl' := [some (.ref 1), some (.long (L (pk f))), none, some (.long (L (pk (tcN S (tit S f j) 0)))), none, some (.int (N j)), some (.long (L (pk (tit S f j)))), none, some (.int (N 0))]) (st' := []) (h' := (KP X cl (S 0) (pk (CX S)) (S 61) (S 62) sn sg sv cd ln pe pr ba fo us fr sc hs m o)) ⟨Or.inr rfl, Or.inr rfl, Or.inl rfl, Or.inr rfl, Or.inl rfl, Or.inr rfl, Or.inr rfl, Or.inl rfl, Or.inr rfl, trivial⟩ rfl rfl ?_
    refine Runs.loopN (fun t => [some (.ref 1), some (.long (L (pk f))), none, some (.long (L (pk (tcN S (tit S f j) t)))), none, some (.int (N j)), some (.long (L (pk (tit S f j)))), none, some (.int (N t))]) (fun t => (KP X cl (S 0) (pk (CX S)) (S 61) (S 62) sn sg sv cd ln pe pr ba fo us fr sc hs m o)) (fun t => True) (S 0) trivial (fun t ht I2 K2 => ?_) (fun I2 => ?_)
    · show Runs _ _ 18 [some (.ref 1), some (.long (L (pk f))), none, some (.long (L (pk (tcN S (tit S f j) t)))), none, some (.int (N j)), some (.long (L (pk (tit S f j)))), none, some (.int (N t))] [] (KP X cl (S 0) (pk (CX S)) (S 61) (S 62) sn sg sv cd ln pe pr ba fo us fr sc hs m o) _ _ _
      refine Runs.go 4 (cs := []) (pc' := bif decide ((N (S 0)) ≤ (N t)) then 51 else 27) (pl' := [some (.ref 1), some (.long (L (pk f))), none, some (.long (L (pk (tcN S (tit S f j) t)))), none, some (.int (N j)), some (.long (L (pk (tit S f j)))), none, some (.int (N t))]) (st' := []) (h' := (KP X cl (S 0) (pk (CX S)) (S 61) (S 62) sn sg sv cd ln pe pr ba fo us fr sc hs m o)) rfl trivial ?_
      refine Runs.brF (decide_eq_false (fun zq9 => absurd ((N_le (a := S 0) (b := t) (by omega) (by omega)).mp zq9) (by omega))) ?_
      refine Runs.topI 5 (cs := [vp_in (N t) 12]) (pc' := 35) (pl' := [some (.ref 1), some (.long (L (pk f))), none, some (.long (L (pk (tcN S (tit S f j) t)))), none, some (.int (N j)), some (.long (L (pk (tit S f j)))), none, some (.int (N t))]) (v := aN cl (N t).toNatClampNeg) (v' := N (ecl S t)) (st' := [.long (L (pk (tcN S (tit S f j) t)))]) (h' := (KP X cl (S 0) (pk (CX S)) (S 61) (S 62) sn sg sv cd ln pe pr ba fo us fr sc hs m o)) rfl ⟨(N_in (by omega) (by decide)), trivial⟩ ((aN_at (by omega)).trans (congrArg N (hcl t (by omega)))) ?_
      refine Runs.go 1 (cs := []) (pc' := 36) (pl' := [some (.ref 1), some (.long (L (pk f))), none, some (.long (L (pk (tcN S (tit S f j) t)))), none, some (.int (N j)), some (.long (L (pk (tit S f j)))), none, some (.int (N t))]) (st' := [.long (L (pk (tcN S (tit S f j) t))), .int (N (ecl S t)), .long (L (pk (tcN S (tit S f j) t)))]) (h' := (KP X cl (S 0) (pk (CX S)) (S 61) (S 62) sn sg sv cd ln pe pr ba fo us fr sc hs m o)) rfl trivial ?_
      refine Runs.cal (y := mX0_ruledOut) (as := [.int (N (ecl S t)), .long (L (pk (tcN S (tit S f j) t)))]) (rest := [.long (L (pk (tcN S (tit S f j) t)))]) (pc' := 39) (cs := []) (v := some (.long (L (pk (ruC S (tcN S (tit S f j) t) t))))) (h1 := (KP X cl (S 0) (pk (CX S)) (S 61) (S 62) sn sg sv cd ln pe pr ba fo us fr sc hs m o)) rfl trivial (by decide) (c_ruledOut hV (by omega) (tcN_16 (tit_16 hf j) t) (tcN_z (tit_z hz j) t)) ?_
      show Runs _ _ 39 _ [.long (L (pk (ruC S (tcN S (tit S f j) t) t))), .long (L (pk (tcN S (tit S f j) t)))] _ _ _ _
      refine Runs.topJ 3 (cs := []) (pc' := 44) (pl' := [some (.ref 1), some (.long (L (pk f))), none, some (.long (L (pk (tcN S (tit S f j) t)))), none, some (.int (N j)), some (.long (L (pk (tit S f j)))), none, some (.int (N t))]) (v := (L (pk (tcN S (tit S f j) t))) &&& ((L (pk (ruC S (tcN S (tit S f j) t) t))) ^^^ (-1 : Int64))) (v' := L (pk (tcN S (tit S f j) (t + 1)))) (st' := []) (h' := (KP X cl (S 0) (pk (CX S)) (S 61) (S 62) sn sg sv cd ln pe pr ba fo us fr sc hs m o)) rfl trivial ((L_dif _ _).trans (congrArg L (zk_dif (tcN_16 (tit_16 hf j) t) (ruC_16 S _ t)))) ?_
      refine Runs.goL 2 (cs := []) (pc' := 48) (pl1 := [some (.ref 1), some (.long (L (pk f))), none, some (.long (L (pk (tcN S (tit S f j) (t + 1))))), none, some (.int (N j)), some (.long (L (pk (tit S f j)))), none, some (.int (N t + N 1))]) (pl' := [some (.ref 1), some (.long (L (pk f))), none, some (.long (L (pk (tcN S (tit S f j) (t + 1))))), none, some (.int (N j)), some (.long (L (pk (tit S f j)))), none, some (.int (N (t + 1)))]) (st' := []) (h' := (KP X cl (S 0) (pk (CX S)) (S 61) (S 62) sn sg sv cd ln pe pr ba fo us fr sc hs m o)) rfl trivial (congrArg (fun zq9 => ([some (.ref 1), some (.long (L (pk f))), none, some (.long (L (pk (tcN S (tit S f j) (t + 1))))), none, some (.int (N j)), some (.long (L (pk (tit S f j)))), none, some (.int zq9)] : PL)) (NA (by omega))) ?_
      refine Runs.go 1 (cs := []) (pc' := 18) (pl' := [some (.ref 1), some (.long (L (pk f))), none, some (.long (L (pk (tcN S (tit S f j) (t + 1))))), none, some (.int (N j)), some (.long (L (pk (tit S f j)))), none, some (.int (N (t + 1)))]) (st' := []) (h' := (KP X cl (S 0) (pk (CX S)) (S 61) (S 62) sn sg sv cd ln pe pr ba fo us fr sc hs m o)) rfl trivial ?_
      exact Runs.wk (pl' := [some (.ref 1), some (.long (L (pk f))), none, some (.long (L (pk (tcN S (tit S f j) (t + 1))))), none, some (.int (N j)), some (.long (L (pk (tit S f j)))), none, some (.int (N (t + 1)))]) (st' := []) (h' := (KP X cl (S 0) (pk (CX S)) (S 61) (S 62) sn sg sv cd ln pe pr ba fo us fr sc hs m o)) ⟨Or.inr rfl, Or.inr rfl, Or.inl rfl, Or.inr rfl, Or.inl rfl, Or.inr rfl, Or.inr rfl, Or.inl rfl, Or.inr rfl, trivial⟩ rfl rfl (K2 trivial)
    · show Runs _ _ 18 _ [] _ _ _ _
      show Runs _ _ 18 [some (.ref 1), some (.long (L (pk f))), none, some (.long (L (pk (tcN S (tit S f j) (S 0))))), none, some (.int (N j)), some (.long (L (pk (tit S f j)))), none, some (.int (N (S 0)))] [] (KP X cl (S 0) (pk (CX S)) (S 61) (S 62) sn sg sv cd ln pe pr ba fo us fr sc hs m o) _ _ _
      refine Runs.go 4 (cs := []) (pc' := bif decide ((N (S 0)) ≤ (N (S 0))) then 51 else 27) (pl' := [some (.ref 1), some (.long (L (pk f))), none, some (.long (L (pk (tcN S (tit S f j) (S 0))))), none, some (.int (N j)), some (.long (L (pk (tit S f j)))), none, some (.int (N (S 0)))]) (st' := []) (h' := (KP X cl (S 0) (pk (CX S)) (S 61) (S 62) sn sg sv cd ln pe pr ba fo us fr sc hs m o)) rfl trivial ?_
      refine Runs.brT (decide_eq_true ((N_le (a := S 0) (b := S 0) (by omega) (by omega)).mpr (by omega))) ?_
      refine Runs.go 2 (cs := []) (pc' := 53) (pl' := [some (.ref 1), some (.long (L (pk f))), none, some (.long (L (pk (tcN S (tit S f j) (S 0))))), none, some (.int (N j)), some (.long (L (pk (tit S f j)))), none, some (.int (N (S 0)))]) (st' := [.long (L (pk (tcN S (tit S f j) (S 0)))), .long (L (pk (tcN S (tit S f j) (S 0))))]) (h' := (KP X cl (S 0) (pk (CX S)) (S 61) (S 62) sn sg sv cd ln pe pr ba fo us fr sc hs m o)) rfl trivial ?_
      refine Runs.cal (y := mX1_takenByAnother) (as := [.long (L (pk (tcN S (tit S f j) (S 0))))]) (rest := [.long (L (pk (tcN S (tit S f j) (S 0))))]) (pc' := 56) (cs := []) (v := some (.long (L (pk (takF (tcN S (tit S f j) (S 0))))))) (h1 := (KP X cl (S 0) (pk (CX S)) (S 61) (S 62) sn sg sv cd ln pe pr ba fo us fr sc hs m o)) rfl trivial (by decide) (c_takenByAnother (tcN_16 (tit_16 hf j) _)) ?_
      show Runs _ _ 56 _ [.long (L (pk (takF (tcN S (tit S f j) (S 0))))), .long (L (pk (tcN S (tit S f j) (S 0))))] _ _ _ _
      refine Runs.topJ 3 (cs := []) (pc' := 61) (pl' := [some (.ref 1), some (.long (L (pk f))), none, some (.long (L (pk (tcN S (tit S f j) (S 0))))), none, some (.int (N j)), some (.long (L (pk (tit S f j)))), none, some (.int (N (S 0)))]) (v := (L (pk (tcN S (tit S f j) (S 0)))) &&& ((L (pk (takF (tcN S (tit S f j) (S 0))))) ^^^ (-1 : Int64))) (v' := L (pk (tkN (tcN S (tit S f j) (S 0))))) (st' := []) (h' := (KP X cl (S 0) (pk (CX S)) (S 61) (S 62) sn sg sv cd ln pe pr ba fo us fr sc hs m o)) rfl trivial ((L_dif _ _).trans (congrArg L (zk_dif (tcN_16 (tit_16 hf j) _) (tak_16 (tcN_16 (tit_16 hf j) _))))) ?_
      refine Runs.go 3 (cs := []) (pc' := 64) (pl' := [some (.ref 1), some (.long (L (pk f))), none, some (.long (L (pk (tkN (tcN S (tit S f j) (S 0)))))), none, some (.int (N j)), some (.long (L (pk (tit S f j)))), none, some (.int (N (S 0)))]) (st' := [.long (L (pk (tkN (tcN S (tit S f j) (S 0))))), .long (L (pk (tkN (tcN S (tit S f j) (S 0)))))]) (h' := (KP X cl (S 0) (pk (CX S)) (S 61) (S 62) sn sg sv cd ln pe pr ba fo us fr sc hs m o)) rfl trivial ?_
      refine Runs.cal (y := mX1_neededElsewhere) (as := [.long (L (pk (tkN (tcN S (tit S f j) (S 0)))))]) (rest := [.long (L (pk (tkN (tcN S (tit S f j) (S 0)))))]) (pc' := 67) (cs := []) (v := some (.long (L (pk (neeF (tkN (tcN S (tit S f j) (S 0)))))))) (h1 := (KP X cl (S 0) (pk (CX S)) (S 61) (S 62) sn sg sv cd ln pe pr ba fo us fr sc hs m o)) rfl trivial (by decide) (c_neededElsewhere (tkN_16 (tcN_16 (tit_16 hf j) _))) ?_
      show Runs _ _ 67 _ [.long (L (pk (neeF (tkN (tcN S (tit S f j) (S 0)))))), .long (L (pk (tkN (tcN S (tit S f j) (S 0)))))] _ _ _ _
      refine Runs.topJ 3 (cs := []) (pc' := 72) (pl' := [some (.ref 1), some (.long (L (pk f))), none, some (.long (L (pk (tkN (tcN S (tit S f j) (S 0)))))), none, some (.int (N j)), some (.long (L (pk (tit S f j)))), none, some (.int (N (S 0)))]) (v := (L (pk (tkN (tcN S (tit S f j) (S 0))))) &&& ((L (pk (neeF (tkN (tcN S (tit S f j) (S 0)))))) ^^^ (-1 : Int64))) (v' := L (pk (trnS S (tit S f j)))) (st' := []) (h' := (KP X cl (S 0) (pk (CX S)) (S 61) (S 62) sn sg sv cd ln pe pr ba fo us fr sc hs m o)) rfl trivial ((L_dif _ _).trans (congrArg L (zk_dif (tkN_16 (tcN_16 (tit_16 hf j) _)) (nee_16 (tkN_16 (tcN_16 (tit_16 hf j) _)))))) ?_
      refine Runs.go 5 (cs := []) (pc' := bif decide (¬ (lg_cmp (L (pk (trnS S (tit S f j)))) (L (pk (tit S f j)))) = 0) then 82 else 80) (pl' := [some (.ref 1), some (.long (L (pk f))), none, some (.long (L (pk (trnS S (tit S f j))))), none, some (.int (N j)), some (.long (L (pk (tit S f j)))), none, some (.int (N (S 0)))]) (st' := []) (h' := (KP X cl (S 0) (pk (CX S)) (S 61) (S 62) sn sg sv cd ln pe pr ba fo us fr sc hs m o)) rfl trivial ?_
      refine Runs.br (fun z1 => ?_) (fun z1 => ?_)
      · replace z1 : ¬ (pk (trnS S (tit S f j)) = pk (tit S f j)) := mt (L_cmp0 (by omega) (by omega)).mpr (of_decide_eq_true z1)
        refine Runs.goL 1 (cs := []) (pc' := 85) (pl1 := [some (.ref 1), some (.long (L (pk f))), none, some (.long (L (pk (trnS S (tit S f j))))), none, some (.int (N j + N 1)), some (.long (L (pk (tit S f j)))), none, some (.int (N (S 0)))]) (pl' := [some (.ref 1), some (.long (L (pk f))), none, some (.long (L (pk (trnS S (tit S f j))))), none, some (.int (N (j + 1))), some (.long (L (pk (tit S f j)))), none, some (.int (N (S 0)))]) (st' := []) (h' := (KP X cl (S 0) (pk (CX S)) (S 61) (S 62) sn sg sv cd ln pe pr ba fo us fr sc hs m o)) rfl trivial (congrArg (fun zq9 => ([some (.ref 1), some (.long (L (pk f))), none, some (.long (L (pk (trnS S (tit S f j))))), none, some (.int zq9), some (.long (L (pk (tit S f j)))), none, some (.int (N (S 0)))] : PL)) (NA (by omega))) ?_
        refine Runs.go 1 (cs := []) (pc' := 5) (pl' := [some (.ref 1), some (.long (L (pk f))), none, some (.long (L (pk (trnS S (tit S f j))))), none, some (.int (N (j + 1))), some (.long (L (pk (tit S f j)))), none, some (.int (N (S 0)))]) (st' := []) (h' := (KP X cl (S 0) (pk (CX S)) (S 61) (S 62) sn sg sv cd ln pe pr ba fo us fr sc hs m o)) rfl trivial ?_
        exact Runs.wk (pl' := [some (.ref 1), some (.long (L (pk f))), none, some (.long (L (pk (tit S f (j + 1))))), none, some (.int (N (j + 1))), none, none, none]) (st' := []) (h' := (KP X cl (S 0) (pk (CX S)) (S 61) (S 62) sn sg sv cd ln pe pr ba fo us fr sc hs m o)) ⟨Or.inr rfl, Or.inr rfl, Or.inl rfl, Or.inr rfl, Or.inl rfl, Or.inr rfl, Or.inl rfl, Or.inl rfl, Or.inl rfl, trivial⟩ rfl rfl (K1 (I1.trans (bys_step hj z1)))
      · replace z1 : pk (trnS S (tit S f j)) = pk (tit S f j) := (L_cmp0 (by omega) (by omega)).mp (Classical.not_not.mp (of_decide_eq_false z1))
        refine Runs.go 1 (cs := []) (pc' := 81) (pl' := [some (.ref 1), some (.long (L (pk f))), none, some (.long (L (pk (trnS S (tit S f j))))), none, some (.int (N j)), some (.long (L (pk (tit S f j)))), none, some (.int (N (S 0)))]) (st' := [.long (L (pk (trnS S (tit S f j))))]) (h' := (KP X cl (S 0) (pk (CX S)) (S 61) (S 62) sn sg sv cd ln pe pr ba fo us fr sc hs m o)) rfl trivial ?_
        exact Runs.retE (cs := []) rfl trivial (retJ (by rw [show BYT S f = tit S f j from I1.trans (bys_stop hj z1), z1])) rfl
  · show Runs _ _ 5 _ [] _ _ _ _
    show Runs _ _ 5 [some (.ref 1), some (.long (L (pk f))), none, some (.long (L (pk (tit S f 49)))), none, some (.int (N 49)), none, none, none] [] (KP X cl (S 0) (pk (CX S)) (S 61) (S 62) sn sg sv cd ln pe pr ba fo us fr sc hs m o) _ _ _
    refine Runs.go 3 (cs := []) (pc' := bif decide ((N 49) ≤ (N 49)) then 88 else 12) (pl' := [some (.ref 1), some (.long (L (pk f))), none, some (.long (L (pk (tit S f 49)))), none, some (.int (N 49)), none, none, none]) (st' := []) (h' := (KP X cl (S 0) (pk (CX S)) (S 61) (S 62) sn sg sv cd ln pe pr ba fo us fr sc hs m o)) rfl trivial ?_
    refine Runs.brT (decide_eq_true (by decide)) ?_
    refine Runs.go 1 (cs := []) (pc' := 89) (pl' := [some (.ref 1), some (.long (L (pk f))), none, some (.long (L (pk (tit S f 49)))), none, some (.int (N 49)), none, none, none]) (st' := [.long (L (pk (tit S f 49)))]) (h' := (KP X cl (S 0) (pk (CX S)) (S 61) (S 62) sn sg sv cd ln pe pr ba fo us fr sc hs m o)) rfl trivial ?_
    exact Runs.retE (cs := []) rfl trivial (retJ (by rw [show BYT S f = tit S f 49 from I1])) rfl
