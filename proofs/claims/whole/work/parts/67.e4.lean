/-! THE REFERENCE: a text, read only (gen_e4.py) -/
def zzx (c : Nat → Nat) (n : Nat) (x : Nat × Bool) : Nat × Bool := stp (decide (sgx c n (pFx c n x) = 59)) (pFx c n x)
def mrx (c : Nat → Nat) (n : Nat) (x : Nat × Bool) : Bool := !(pFx c n x).2 && decide ((pFx c n x).1 < n)
def goX (c : Nat → Nat) (n : Nat) : Nat → Nat × Bool → Nat × Bool
  | 0, x => x
  | f + 1, x => if mrx c n x = true then (if (zzx c n x).2 = true then zzx c n x else goX c n f (zzx c n x)) else pFx c n x
theorem zz_le {c : Nat → Nat} {n : Nat} {x : Nat × Bool} (h : x.1 ≤ n) (hm : mrx c n x = true) : (zzx c n x).1 ≤ n := stp_le (pF_le h) (fun _ _ => by
  unfold mrx at hm
  rw [Bool.and_eq_true, decide_eq_true_eq] at hm
  exact hm.2)
theorem zz_gt {c : Nat → Nat} {n : Nat} {x : Nat × Bool} (hz : (zzx c n x).2 = false) : x.1 < (zzx c n x).1 := by
  have g := pF_ge c n x
  unfold zzx stp at hz ⊢
  have e : ((pFx c n x).2 || !decide (sgx c n (pFx c n x) = 59)) = false := hz
  show x.1 < if _ then _ else _
  rw [e, if_neg (by decide)]
  omega
theorem k_goW {X : Nat × (Nat → Int32)} {c : CT} {S bf : Nat → Nat} {kn : Nat} {kp : Nat → Nat} {ik : Bool} {od bu : Nat → Nat} {le th : Nat} {mk ol : Nat → Nat} {tu : Nat} {ib : Bool} {sp : Nat → Nat} {so : Nat} {al br tr : Nat → Nat} {ha : Int64} {se : Nat → Int32} {o : Nat → Int64} (hB : BF bu le) : ∀ (f : Nat) (x : Nat × Bool) (k : Nat), x.1 ≤ le → le - x.1 < f → k + f < 200 → ∃ k', k' < 200 ∧ Runs 4 mX7_go 14 [some (.ref 23), some (.int (N 0)), some (.int (N k)), some (.int (N 1))] [] (MP X c S bf kn kp ik od bu le th mk ol tu ib sp so al br tr x.1 x.2 ha se o) (.inl (some (.int (N k')))) (MP X c S bf kn kp ik od bu le th mk ol tu ib sp so al br tr ((goX bu le f x).1) ((goX bu le f x).2) ha se o) 0 := by
  intro f
  induction f with
  | zero =>
    intro x k hx hm
    omega
  | succ f ih =>
    intro x k hx hf hk
    have hle := hB.1
    have hpf := pF_le (c := bu) hx
    cases hm : mrx bu le x with
    | false =>
      refine ⟨k + 1, by omega, ?_⟩
      refine Runs.go 2 (cs := []) (pc' := bif decide ((N 1) = 0) then 93 else 18) (pl' := [some (.ref 23), some (.int (N 0)), some (.int (N k)), some (.int (N 1))]) (st' := []) (h' := (MP X c S bf kn kp ik od bu le th mk ol tu ib sp so al br tr x.1 x.2 ha se o)) rfl trivial ?_
      refine Runs.brF (decide_eq_false (by decide)) ?_
      refine Runs.go 2 (cs := []) (pc' := 20) (pl' := [some (.ref 23), some (.int (N 0)), some (.int (N k)), some (.int (N 1))]) (st' := [.int (N 0), .ref 23]) (h' := (MP X c S bf kn kp ik od bu le th mk ol tu ib sp so al br tr x.1 x.2 ha se o)) rfl trivial ?_
      refine Runs.cal (y := mX7_part) (as := [.ref 23, .int (N 0)]) (rest := []) (pc' := 23) (cs := []) (v := some (.int (N 1))) (h1 := (MP X c S bf kn kp ik od bu le th mk ol tu ib sp so al br tr ((pFx bu le x).1) ((pFx bu le x).2) ha se o)) rfl trivial (by decide) (k_partF (x := x) hB hx) ?_
      show Runs _ _ 23 _ [.int (N 1)] _ _ _ _
      refine Runs.go 1 (cs := []) (pc' := bif decide (¬ (N 1) = 0) then 28 else 26) (pl' := [some (.ref 23), some (.int (N 0)), some (.int (N k)), some (.int (N 1))]) (st' := []) (h' := (MP X c S bf kn kp ik od bu le th mk ol tu ib sp so al br tr ((pFx bu le x).1) ((pFx bu le x).2) ha se o)) rfl trivial ?_
      refine Runs.brT (decide_eq_true (by decide)) ?_
      refine Runs.goL 1 (cs := []) (pc' := 31) (pl1 := [some (.ref 23), some (.int (N 0)), some (.int (N k + N 1)), some (.int (N 1))]) (pl' := [some (.ref 23), some (.int (N 0)), some (.int (N (k + 1))), some (.int (N 1))]) (st' := []) (h' := (MP X c S bf kn kp ik od bu le th mk ol tu ib sp so al br tr ((pFx bu le x).1) ((pFx bu le x).2) ha se o)) rfl trivial (congrArg (fun zq9 => ([some (.ref 23), some (.int (N 0)), some (.int zq9), some (.int (N 1))] : PL)) (NA (by omega))) ?_
      refine Runs.join 54 [some (.ref 23), some (.int (N 0)), some (.int (N (k + 1))), some (.int (N 1))] [.int (bI (mrx bu le x))] (MP X c S bf kn kp ik od bu le th mk ol tu ib sp so al br tr ((pFx bu le x).1) ((pFx bu le x).2) ha se o) (fun J1 => ?_) ?_
      · show Runs _ _ 31 _ _ _ _ _ _
        refine Runs.go 3 (cs := []) (pc' := bif decide (¬ (bI ((pFx bu le x).2)) = 0) then 53 else 38) (pl' := [some (.ref 23), some (.int (N 0)), some (.int (N (k + 1))), some (.int (N 1))]) (st' := []) (h' := (MP X c S bf kn kp ik od bu le th mk ol tu ib sp so al br tr ((pFx bu le x).1) ((pFx bu le x).2) ha se o)) rfl trivial ?_
        refine Runs.br (fun z1 => ?_) (fun z1 => ?_)
        · replace z1 : ¬ (((pFx bu le x).2) = false) := mt (bI_0 _).mpr (of_decide_eq_true z1)
          refine Runs.go 1 (cs := []) (pc' := 54) (pl' := [some (.ref 23), some (.int (N 0)), some (.int (N (k + 1))), some (.int (N 1))]) (st' := [.int (N 0)]) (h' := (MP X c S bf kn kp ik od bu le th mk ol tu ib sp so al br tr ((pFx bu le x).1) ((pFx bu le x).2) ha se o)) rfl trivial ?_
          exact Runs.wk (pl' := [some (.ref 23), some (.int (N 0)), some (.int (N (k + 1))), some (.int (N 1))]) (st' := [.int (bI (mrx bu le x))]) (h' := (MP X c S bf kn kp ik od bu le th mk ol tu ib sp so al br tr ((pFx bu le x).1) ((pFx bu le x).2) ha se o)) ⟨Or.inr rfl, Or.inr rfl, Or.inr rfl, Or.inr rfl, trivial⟩ (congrArg (fun zq9 => ([.int zq9] : List Value)) (bIF (by first | (simp [mrx, z1]; done) | (simp [mrx, z1]; omega))).symm) rfl J1
        · replace z1 : ((pFx bu le x).2) = false := (bI_0 _).mp (Classical.not_not.mp (of_decide_eq_false z1))
          refine Runs.go 5 (cs := []) (pc' := bif decide ((N le) ≤ (N ((pFx bu le x).1))) then 53 else 49) (pl' := [some (.ref 23), some (.int (N 0)), some (.int (N (k + 1))), some (.int (N 1))]) (st' := []) (h' := (MP X c S bf kn kp ik od bu le th mk ol tu ib sp so al br tr ((pFx bu le x).1) ((pFx bu le x).2) ha se o)) rfl trivial ?_
          refine Runs.br (fun z2 => ?_) (fun z2 => ?_)
          · replace z2 : le ≤ (pFx bu le x).1 := (N_le (a := le) (b := (pFx bu le x).1) (by omega) (by omega)).mp (of_decide_eq_true z2)
            refine Runs.go 1 (cs := []) (pc' := 54) (pl' := [some (.ref 23), some (.int (N 0)), some (.int (N (k + 1))), some (.int (N 1))]) (st' := [.int (N 0)]) (h' := (MP X c S bf kn kp ik od bu le th mk ol tu ib sp so al br tr ((pFx bu le x).1) ((pFx bu le x).2) ha se o)) rfl trivial ?_
            exact Runs.wk (pl' := [some (.ref 23), some (.int (N 0)), some (.int (N (k + 1))), some (.int (N 1))]) (st' := [.int (bI (mrx bu le x))]) (h' := (MP X c S bf kn kp ik od bu le th mk ol tu ib sp so al br tr ((pFx bu le x).1) ((pFx bu le x).2) ha se o)) ⟨Or.inr rfl, Or.inr rfl, Or.inr rfl, Or.inr rfl, trivial⟩ (congrArg (fun zq9 => ([.int zq9] : List Value)) (bIF (by first | (simp [mrx, z1, z2]; done) | (simp [mrx, z1, z2]; omega))).symm) rfl J1
          · replace z2 : ¬ (le ≤ (pFx bu le x).1) := mt (N_le (a := le) (b := (pFx bu le x).1) (by omega) (by omega)).mpr (of_decide_eq_false z2)
            refine Runs.go 2 (cs := []) (pc' := 54) (pl' := [some (.ref 23), some (.int (N 0)), some (.int (N (k + 1))), some (.int (N 1))]) (st' := [.int (N 1)]) (h' := (MP X c S bf kn kp ik od bu le th mk ol tu ib sp so al br tr ((pFx bu le x).1) ((pFx bu le x).2) ha se o)) rfl trivial ?_
            exact Runs.wk (pl' := [some (.ref 23), some (.int (N 0)), some (.int (N (k + 1))), some (.int (N 1))]) (st' := [.int (bI (mrx bu le x))]) (h' := (MP X c S bf kn kp ik od bu le th mk ol tu ib sp so al br tr ((pFx bu le x).1) ((pFx bu le x).2) ha se o)) ⟨Or.inr rfl, Or.inr rfl, Or.inr rfl, Or.inr rfl, trivial⟩ (congrArg (fun zq9 => ([.int zq9] : List Value)) (bIT (by first | (simp [mrx, z1, z2]; done) | (simp [mrx, z1, z2]; omega))).symm) rfl J1
      refine Runs.go 3 (cs := []) (pc' := bif decide ((bI (mrx bu le x)) = 0) then 14 else 59) (pl' := [some (.ref 23), some (.int (N 0)), some (.int (N (k + 1))), some (.int (bI (mrx bu le x)))]) (st' := []) (h' := (MP X c S bf kn kp ik od bu le th mk ol tu ib sp so al br tr ((pFx bu le x).1) ((pFx bu le x).2) ha se o)) rfl trivial ?_
      refine Runs.brT (decide_eq_true ((bI_0 _).mpr hm)) ?_
      refine Runs.go 2 (cs := []) (pc' := bif decide ((bI (mrx bu le x)) = 0) then 93 else 18) (pl' := [some (.ref 23), some (.int (N 0)), some (.int (N (k + 1))), some (.int (bI (mrx bu le x)))]) (st' := []) (h' := (MP X c S bf kn kp ik od bu le th mk ol tu ib sp so al br tr ((pFx bu le x).1) ((pFx bu le x).2) ha se o)) rfl trivial ?_
      refine Runs.brT (decide_eq_true ((bI_0 _).mpr hm)) ?_
      refine Runs.go 1 (cs := []) (pc' := 94) (pl' := [some (.ref 23), some (.int (N 0)), some (.int (N (k + 1))), some (.int (bI (mrx bu le x)))]) (st' := [.int (N (k + 1))]) (h' := (MP X c S bf kn kp ik od bu le th mk ol tu ib sp so al br tr ((pFx bu le x).1) ((pFx bu le x).2) ha se o)) rfl trivial ?_
      exact Runs.retE (cs := []) rfl trivial rfl (by rw [show goX bu le (f + 1) x = _ from if_neg (by rw [hm]; decide)])
    | true =>
      cases hz : (zzx bu le x).2 with
      | true =>
        refine ⟨k + 1, by omega, ?_⟩
        refine Runs.go 2 (cs := []) (pc' := bif decide ((N 1) = 0) then 93 else 18) (pl' := [some (.ref 23), some (.int (N 0)), some (.int (N k)), some (.int (N 1))]) (st' := []) (h' := (MP X c S bf kn kp ik od bu le th mk ol tu ib sp so al br tr x.1 x.2 ha se o)) rfl trivial ?_
        refine Runs.brF (decide_eq_false (by decide)) ?_
        refine Runs.go 2 (cs := []) (pc' := 20) (pl' := [some (.ref 23), some (.int (N 0)), some (.int (N k)), some (.int (N 1))]) (st' := [.int (N 0), .ref 23]) (h' := (MP X c S bf kn kp ik od bu le th mk ol tu ib sp so al br tr x.1 x.2 ha se o)) rfl trivial ?_
        refine Runs.cal (y := mX7_part) (as := [.ref 23, .int (N 0)]) (rest := []) (pc' := 23) (cs := []) (v := some (.int (N 1))) (h1 := (MP X c S bf kn kp ik od bu le th mk ol tu ib sp so al br tr ((pFx bu le x).1) ((pFx bu le x).2) ha se o)) rfl trivial (by decide) (k_partF (x := x) hB hx) ?_
        show Runs _ _ 23 _ [.int (N 1)] _ _ _ _
        refine Runs.go 1 (cs := []) (pc' := bif decide (¬ (N 1) = 0) then 28 else 26) (pl' := [some (.ref 23), some (.int (N 0)), some (.int (N k)), some (.int (N 1))]) (st' := []) (h' := (MP X c S bf kn kp ik od bu le th mk ol tu ib sp so al br tr ((pFx bu le x).1) ((pFx bu le x).2) ha se o)) rfl trivial ?_
        refine Runs.brT (decide_eq_true (by decide)) ?_
        refine Runs.goL 1 (cs := []) (pc' := 31) (pl1 := [some (.ref 23), some (.int (N 0)), some (.int (N k + N 1)), some (.int (N 1))]) (pl' := [some (.ref 23), some (.int (N 0)), some (.int (N (k + 1))), some (.int (N 1))]) (st' := []) (h' := (MP X c S bf kn kp ik od bu le th mk ol tu ib sp so al br tr ((pFx bu le x).1) ((pFx bu le x).2) ha se o)) rfl trivial (congrArg (fun zq9 => ([some (.ref 23), some (.int (N 0)), some (.int zq9), some (.int (N 1))] : PL)) (NA (by omega))) ?_
        refine Runs.join 54 [some (.ref 23), some (.int (N 0)), some (.int (N (k + 1))), some (.int (N 1))] [.int (bI (mrx bu le x))] (MP X c S bf kn kp ik od bu le th mk ol tu ib sp so al br tr ((pFx bu le x).1) ((pFx bu le x).2) ha se o) (fun J1 => ?_) ?_
        · show Runs _ _ 31 _ _ _ _ _ _
          refine Runs.go 3 (cs := []) (pc' := bif decide (¬ (bI ((pFx bu le x).2)) = 0) then 53 else 38) (pl' := [some (.ref 23), some (.int (N 0)), some (.int (N (k + 1))), some (.int (N 1))]) (st' := []) (h' := (MP X c S bf kn kp ik od bu le th mk ol tu ib sp so al br tr ((pFx bu le x).1) ((pFx bu le x).2) ha se o)) rfl trivial ?_
          refine Runs.br (fun z1 => ?_) (fun z1 => ?_)
          · replace z1 : ¬ (((pFx bu le x).2) = false) := mt (bI_0 _).mpr (of_decide_eq_true z1)
            refine Runs.go 1 (cs := []) (pc' := 54) (pl' := [some (.ref 23), some (.int (N 0)), some (.int (N (k + 1))), some (.int (N 1))]) (st' := [.int (N 0)]) (h' := (MP X c S bf kn kp ik od bu le th mk ol tu ib sp so al br tr ((pFx bu le x).1) ((pFx bu le x).2) ha se o)) rfl trivial ?_
            exact Runs.wk (pl' := [some (.ref 23), some (.int (N 0)), some (.int (N (k + 1))), some (.int (N 1))]) (st' := [.int (bI (mrx bu le x))]) (h' := (MP X c S bf kn kp ik od bu le th mk ol tu ib sp so al br tr ((pFx bu le x).1) ((pFx bu le x).2) ha se o)) ⟨Or.inr rfl, Or.inr rfl, Or.inr rfl, Or.inr rfl, trivial⟩ (congrArg (fun zq9 => ([.int zq9] : List Value)) (bIF (by first | (simp [mrx, z1]; done) | (simp [mrx, z1]; omega))).symm) rfl J1
          · replace z1 : ((pFx bu le x).2) = false := (bI_0 _).mp (Classical.not_not.mp (of_decide_eq_false z1))
            refine Runs.go 5 (cs := []) (pc' := bif decide ((N le) ≤ (N ((pFx bu le x).1))) then 53 else 49) (pl' := [some (.ref 23), some (.int (N 0)), some (.int (N (k + 1))), some (.int (N 1))]) (st' := []) (h' := (MP X c S bf kn kp ik od bu le th mk ol tu ib sp so al br tr ((pFx bu le x).1) ((pFx bu le x).2) ha se o)) rfl trivial ?_
            refine Runs.br (fun z2 => ?_) (fun z2 => ?_)
            · replace z2 : le ≤ (pFx bu le x).1 := (N_le (a := le) (b := (pFx bu le x).1) (by omega) (by omega)).mp (of_decide_eq_true z2)
              refine Runs.go 1 (cs := []) (pc' := 54) (pl' := [some (.ref 23), some (.int (N 0)), some (.int (N (k + 1))), some (.int (N 1))]) (st' := [.int (N 0)]) (h' := (MP X c S bf kn kp ik od bu le th mk ol tu ib sp so al br tr ((pFx bu le x).1) ((pFx bu le x).2) ha se o)) rfl trivial ?_
              exact Runs.wk (pl' := [some (.ref 23), some (.int (N 0)), some (.int (N (k + 1))), some (.int (N 1))]) (st' := [.int (bI (mrx bu le x))]) (h' := (MP X c S bf kn kp ik od bu le th mk ol tu ib sp so al br tr ((pFx bu le x).1) ((pFx bu le x).2) ha se o)) ⟨Or.inr rfl, Or.inr rfl, Or.inr rfl, Or.inr rfl, trivial⟩ (congrArg (fun zq9 => ([.int zq9] : List Value)) (bIF (by first | (simp [mrx, z1, z2]; done) | (simp [mrx, z1, z2]; omega))).symm) rfl J1
            · replace z2 : ¬ (le ≤ (pFx bu le x).1) := mt (N_le (a := le) (b := (pFx bu le x).1) (by omega) (by omega)).mpr (of_decide_eq_false z2)
              refine Runs.go 2 (cs := []) (pc' := 54) (pl' := [some (.ref 23), some (.int (N 0)), some (.int (N (k + 1))), some (.int (N 1))]) (st' := [.int (N 1)]) (h' := (MP X c S bf kn kp ik od bu le th mk ol tu ib sp so al br tr ((pFx bu le x).1) ((pFx bu le x).2) ha se o)) rfl trivial ?_
              exact Runs.wk (pl' := [some (.ref 23), some (.int (N 0)), some (.int (N (k + 1))), some (.int (N 1))]) (st' := [.int (bI (mrx bu le x))]) (h' := (MP X c S bf kn kp ik od bu le th mk ol tu ib sp so al br tr ((pFx bu le x).1) ((pFx bu le x).2) ha se o)) ⟨Or.inr rfl, Or.inr rfl, Or.inr rfl, Or.inr rfl, trivial⟩ (congrArg (fun zq9 => ([.int zq9] : List Value)) (bIT (by first | (simp [mrx, z1, z2]; done) | (simp [mrx, z1, z2]; omega))).symm) rfl J1
        refine Runs.go 3 (cs := []) (pc' := bif decide ((bI (mrx bu le x)) = 0) then 14 else 59) (pl' := [some (.ref 23), some (.int (N 0)), some (.int (N (k + 1))), some (.int (bI (mrx bu le x)))]) (st' := []) (h' := (MP X c S bf kn kp ik od bu le th mk ol tu ib sp so al br tr ((pFx bu le x).1) ((pFx bu le x).2) ha se o)) rfl trivial ?_
        refine Runs.brF (decide_eq_false (fun zq9 => absurd ((bI_0 _).mp zq9) (nT hm))) ?_
        refine Runs.go 2 (cs := []) (pc' := 61) (pl' := [some (.ref 23), some (.int (N 0)), some (.int (N (k + 1))), some (.int (bI (mrx bu le x)))]) (st' := [.ref 23, .ref 23]) (h' := (MP X c S bf kn kp ik od bu le th mk ol tu ib sp so al br tr ((pFx bu le x).1) ((pFx bu le x).2) ha se o)) rfl trivial ?_
        refine Runs.cal (y := mX7_sign) (as := [.ref 23]) (rest := [.ref 23]) (pc' := 64) (cs := []) (v := some (.int (N (sgx bu le (pFx bu le x))))) (h1 := (MP X c S bf kn kp ik od bu le th mk ol tu ib sp so al br tr ((pFx bu le x).1) ((pFx bu le x).2) ha se o)) rfl trivial (by decide) (k_sign (x := pFx bu le x) hB (pF_le hx)) ?_
        show Runs _ _ 64 _ [.int (N (sgx bu le (pFx bu le x))), .ref 23] _ _ _ _
        have hs1 := sgx_le hB (pFx bu le x)
        refine Runs.join 74 [some (.ref 23), some (.int (N 0)), some (.int (N (k + 1))), some (.int (bI (mrx bu le x)))] [.int (bI (decide (sgx bu le (pFx bu le x) = 59))), .ref 23] (MP X c S bf kn kp ik od bu le th mk ol tu ib sp so al br tr ((pFx bu le x).1) ((pFx bu le x).2) ha se o) (fun J2 => ?_) ?_
        · show Runs _ _ 64 _ _ _ _ _ _
          refine Runs.go 2 (cs := []) (pc' := bif decide (¬ (N (sgx bu le (pFx bu le x))) = (N 59)) then 73 else 69) (pl' := [some (.ref 23), some (.int (N 0)), some (.int (N (k + 1))), some (.int (bI (mrx bu le x)))]) (st' := [.ref 23]) (h' := (MP X c S bf kn kp ik od bu le th mk ol tu ib sp so al br tr ((pFx bu le x).1) ((pFx bu le x).2) ha se o)) rfl trivial ?_
          refine Runs.br (fun z3 => ?_) (fun z3 => ?_)
          · replace z3 : ¬ (sgx bu le (pFx bu le x) = 59) := mt (N_eq (a := sgx bu le (pFx bu le x)) (b := 59) (by omega) (by omega)).mpr (of_decide_eq_true z3)
            refine Runs.go 1 (cs := []) (pc' := 74) (pl' := [some (.ref 23), some (.int (N 0)), some (.int (N (k + 1))), some (.int (bI (mrx bu le x)))]) (st' := [.int (N 0), .ref 23]) (h' := (MP X c S bf kn kp ik od bu le th mk ol tu ib sp so al br tr ((pFx bu le x).1) ((pFx bu le x).2) ha se o)) rfl trivial ?_
            exact Runs.wk (pl' := [some (.ref 23), some (.int (N 0)), some (.int (N (k + 1))), some (.int (bI (mrx bu le x)))]) (st' := [.int (bI (decide (sgx bu le (pFx bu le x) = 59))), .ref 23]) (h' := (MP X c S bf kn kp ik od bu le th mk ol tu ib sp so al br tr ((pFx bu le x).1) ((pFx bu le x).2) ha se o)) ⟨Or.inr rfl, Or.inr rfl, Or.inr rfl, Or.inr rfl, trivial⟩ (congrArg (fun zq9 => ([.int zq9, .ref 23] : List Value)) (bIF (by simp [z3])).symm) rfl J2
          · replace z3 : sgx bu le (pFx bu le x) = 59 := (N_eq (a := sgx bu le (pFx bu le x)) (b := 59) (by omega) (by omega)).mp (Classical.not_not.mp (of_decide_eq_false z3))
            refine Runs.go 2 (cs := []) (pc' := 74) (pl' := [some (.ref 23), some (.int (N 0)), some (.int (N (k + 1))), some (.int (bI (mrx bu le x)))]) (st' := [.int (N 1), .ref 23]) (h' := (MP X c S bf kn kp ik od bu le th mk ol tu ib sp so al br tr ((pFx bu le x).1) ((pFx bu le x).2) ha se o)) rfl trivial ?_
            exact Runs.wk (pl' := [some (.ref 23), some (.int (N 0)), some (.int (N (k + 1))), some (.int (bI (mrx bu le x)))]) (st' := [.int (bI (decide (sgx bu le (pFx bu le x) = 59))), .ref 23]) (h' := (MP X c S bf kn kp ik od bu le th mk ol tu ib sp so al br tr ((pFx bu le x).1) ((pFx bu le x).2) ha se o)) ⟨Or.inr rfl, Or.inr rfl, Or.inr rfl, Or.inr rfl, trivial⟩ (congrArg (fun zq9 => ([.int zq9, .ref 23] : List Value)) (bIT (by simp [z3])).symm) rfl J2
        refine Runs.cal (y := mX7_step) (as := [.ref 23, .int (bI (decide (sgx bu le (pFx bu le x) = 59)))]) (rest := []) (pc' := 77) (cs := []) (v := none) (h1 := (MP X c S bf kn kp ik od bu le th mk ol tu ib sp so al br tr ((zzx bu le x).1) ((zzx bu le x).2) ha se o)) rfl trivial (by decide) (k_step (x := pFx bu le x) (b := decide (sgx bu le (pFx bu le x) = 59)) (Nat.lt_of_le_of_lt (pF_le hx) (by have := hB.1; omega))) ?_
        show Runs _ _ 77 _ [] _ _ _ _
        refine Runs.join 89 [some (.ref 23), some (.int (N 0)), some (.int (N (k + 1))), some (.int (bI (mrx bu le x)))] [.int (bI (!(zzx bu le x).2))] (MP X c S bf kn kp ik od bu le th mk ol tu ib sp so al br tr ((zzx bu le x).1) ((zzx bu le x).2) ha se o) (fun J3 => ?_) ?_
        · show Runs _ _ 77 _ _ _ _ _ _
          refine Runs.go 3 (cs := []) (pc' := bif decide (¬ (bI ((zzx bu le x).2)) = 0) then 88 else 84) (pl' := [some (.ref 23), some (.int (N 0)), some (.int (N (k + 1))), some (.int (bI (mrx bu le x)))]) (st' := []) (h' := (MP X c S bf kn kp ik od bu le th mk ol tu ib sp so al br tr ((zzx bu le x).1) ((zzx bu le x).2) ha se o)) rfl trivial ?_
          refine Runs.br (fun z4 => ?_) (fun z4 => ?_)
          · replace z4 : ¬ (((zzx bu le x).2) = false) := mt (bI_0 _).mpr (of_decide_eq_true z4)
            refine Runs.go 1 (cs := []) (pc' := 89) (pl' := [some (.ref 23), some (.int (N 0)), some (.int (N (k + 1))), some (.int (bI (mrx bu le x)))]) (st' := [.int (N 0)]) (h' := (MP X c S bf kn kp ik od bu le th mk ol tu ib sp so al br tr ((zzx bu le x).1) ((zzx bu le x).2) ha se o)) rfl trivial ?_
            exact Runs.wk (pl' := [some (.ref 23), some (.int (N 0)), some (.int (N (k + 1))), some (.int (bI (mrx bu le x)))]) (st' := [.int (bI (!(zzx bu le x).2))]) (h' := (MP X c S bf kn kp ik od bu le th mk ol tu ib sp so al br tr ((zzx bu le x).1) ((zzx bu le x).2) ha se o)) ⟨Or.inr rfl, Or.inr rfl, Or.inr rfl, Or.inr rfl, trivial⟩ (congrArg (fun zq9 => ([.int zq9] : List Value)) (bIF (by simp [z4])).symm) rfl J3
          · replace z4 : ((zzx bu le x).2) = false := (bI_0 _).mp (Classical.not_not.mp (of_decide_eq_false z4))
            refine Runs.go 2 (cs := []) (pc' := 89) (pl' := [some (.ref 23), some (.int (N 0)), some (.int (N (k + 1))), some (.int (bI (mrx bu le x)))]) (st' := [.int (N 1)]) (h' := (MP X c S bf kn kp ik od bu le th mk ol tu ib sp so al br tr ((zzx bu le x).1) ((zzx bu le x).2) ha se o)) rfl trivial ?_
            exact Runs.wk (pl' := [some (.ref 23), some (.int (N 0)), some (.int (N (k + 1))), some (.int (bI (mrx bu le x)))]) (st' := [.int (bI (!(zzx bu le x).2))]) (h' := (MP X c S bf kn kp ik od bu le th mk ol tu ib sp so al br tr ((zzx bu le x).1) ((zzx bu le x).2) ha se o)) ⟨Or.inr rfl, Or.inr rfl, Or.inr rfl, Or.inr rfl, trivial⟩ (congrArg (fun zq9 => ([.int zq9] : List Value)) (bIT (by simp [z4])).symm) rfl J3
        refine Runs.go 4 (cs := []) (pc' := bif decide ((bI (!(zzx bu le x).2)) = 0) then 93 else 18) (pl' := [some (.ref 23), some (.int (N 0)), some (.int (N (k + 1))), some (.int (bI (!(zzx bu le x).2)))]) (st' := []) (h' := (MP X c S bf kn kp ik od bu le th mk ol tu ib sp so al br tr ((zzx bu le x).1) ((zzx bu le x).2) ha se o)) rfl trivial ?_
        refine Runs.brT (decide_eq_true ((bI_0 _).mpr (by rw [hz]; rfl))) ?_
        refine Runs.go 1 (cs := []) (pc' := 94) (pl' := [some (.ref 23), some (.int (N 0)), some (.int (N (k + 1))), some (.int (bI (!(zzx bu le x).2)))]) (st' := [.int (N (k + 1))]) (h' := (MP X c S bf kn kp ik od bu le th mk ol tu ib sp so al br tr ((zzx bu le x).1) ((zzx bu le x).2) ha se o)) rfl trivial ?_
        exact Runs.retE (cs := []) rfl trivial rfl (by rw [show goX bu le (f + 1) x = zzx bu le x from (if_pos hm).trans (if_pos hz)])
      | false =>
        have z1 := zz_le hx hm
        have z2 := zz_gt hz
        obtain ⟨k', hk', hr⟩ := ih (zzx bu le x) (k + 1) z1 (by omega) (by omega)
        refine ⟨k', hk', ?_⟩
        rw [show goX bu le (f + 1) x = goX bu le f (zzx bu le x) from (if_pos hm).trans (if_neg (by rw [hz]; decide))]
        refine Runs.go 2 (cs := []) (pc' := bif decide ((N 1) = 0) then 93 else 18) (pl' := [some (.ref 23), some (.int (N 0)), some (.int (N k)), some (.int (N 1))]) (st' := []) (h' := (MP X c S bf kn kp ik od bu le th mk ol tu ib sp so al br tr x.1 x.2 ha se o)) rfl trivial ?_
        refine Runs.brF (decide_eq_false (by decide)) ?_
        refine Runs.go 2 (cs := []) (pc' := 20) (pl' := [some (.ref 23), some (.int (N 0)), some (.int (N k)), some (.int (N 1))]) (st' := [.int (N 0), .ref 23]) (h' := (MP X c S bf kn kp ik od bu le th mk ol tu ib sp so al br tr x.1 x.2 ha se o)) rfl trivial ?_
        refine Runs.cal (y := mX7_part) (as := [.ref 23, .int (N 0)]) (rest := []) (pc' := 23) (cs := []) (v := some (.int (N 1))) (h1 := (MP X c S bf kn kp ik od bu le th mk ol tu ib sp so al br tr ((pFx bu le x).1) ((pFx bu le x).2) ha se o)) rfl trivial (by decide) (k_partF (x := x) hB hx) ?_
        show Runs _ _ 23 _ [.int (N 1)] _ _ _ _
        refine Runs.go 1 (cs := []) (pc' := bif decide (¬ (N 1) = 0) then 28 else 26) (pl' := [some (.ref 23), some (.int (N 0)), some (.int (N k)), some (.int (N 1))]) (st' := []) (h' := (MP X c S bf kn kp ik od bu le th mk ol tu ib sp so al br tr ((pFx bu le x).1) ((pFx bu le x).2) ha se o)) rfl trivial ?_
        refine Runs.brT (decide_eq_true (by decide)) ?_
        refine Runs.goL 1 (cs := []) (pc' := 31) (pl1 := [some (.ref 23), some (.int (N 0)), some (.int (N k + N 1)), some (.int (N 1))]) (pl' := [some (.ref 23), some (.int (N 0)), some (.int (N (k + 1))), some (.int (N 1))]) (st' := []) (h' := (MP X c S bf kn kp ik od bu le th mk ol tu ib sp so al br tr ((pFx bu le x).1) ((pFx bu le x).2) ha se o)) rfl trivial (congrArg (fun zq9 => ([some (.ref 23), some (.int (N 0)), some (.int zq9), some (.int (N 1))] : PL)) (NA (by omega))) ?_
        refine Runs.join 54 [some (.ref 23), some (.int (N 0)), some (.int (N (k + 1))), some (.int (N 1))] [.int (bI (mrx bu le x))] (MP X c S bf kn kp ik od bu le th mk ol tu ib sp so al br tr ((pFx bu le x).1) ((pFx bu le x).2) ha se o) (fun J1 => ?_) ?_
        · show Runs _ _ 31 _ _ _ _ _ _
          refine Runs.go 3 (cs := []) (pc' := bif decide (¬ (bI ((pFx bu le x).2)) = 0) then 53 else 38) (pl' := [some (.ref 23), some (.int (N 0)), some (.int (N (k + 1))), some (.int (N 1))]) (st' := []) (h' := (MP X c S bf kn kp ik od bu le th mk ol tu ib sp so al br tr ((pFx bu le x).1) ((pFx bu le x).2) ha se o)) rfl trivial ?_
          refine Runs.br (fun z1 => ?_) (fun z1 => ?_)
          · replace z1 : ¬ (((pFx bu le x).2) = false) := mt (bI_0 _).mpr (of_decide_eq_true z1)
            refine Runs.go 1 (cs := []) (pc' := 54) (pl' := [some (.ref 23), some (.int (N 0)), some (.int (N (k + 1))), some (.int (N 1))]) (st' := [.int (N 0)]) (h' := (MP X c S bf kn kp ik od bu le th mk ol tu ib sp so al br tr ((pFx bu le x).1) ((pFx bu le x).2) ha se o)) rfl trivial ?_
            exact Runs.wk (pl' := [some (.ref 23), some (.int (N 0)), some (.int (N (k + 1))), some (.int (N 1))]) (st' := [.int (bI (mrx bu le x))]) (h' := (MP X c S bf kn kp ik od bu le th mk ol tu ib sp so al br tr ((pFx bu le x).1) ((pFx bu le x).2) ha se o)) ⟨Or.inr rfl, Or.inr rfl, Or.inr rfl, Or.inr rfl, trivial⟩ (congrArg (fun zq9 => ([.int zq9] : List Value)) (bIF (by first | (simp [mrx, z1]; done) | (simp [mrx, z1]; omega))).symm) rfl J1
          · replace z1 : ((pFx bu le x).2) = false := (bI_0 _).mp (Classical.not_not.mp (of_decide_eq_false z1))
            refine Runs.go 5 (cs := []) (pc' := bif decide ((N le) ≤ (N ((pFx bu le x).1))) then 53 else 49) (pl' := [some (.ref 23), some (.int (N 0)), some (.int (N (k + 1))), some (.int (N 1))]) (st' := []) (h' := (MP X c S bf kn kp ik od bu le th mk ol tu ib sp so al br tr ((pFx bu le x).1) ((pFx bu le x).2) ha se o)) rfl trivial ?_
            refine Runs.br (fun z2 => ?_) (fun z2 => ?_)
            · replace z2 : le ≤ (pFx bu le x).1 := (N_le (a := le) (b := (pFx bu le x).1) (by omega) (by omega)).mp (of_decide_eq_true z2)
              refine Runs.go 1 (cs := []) (pc' := 54) (pl' := [some (.ref 23), some (.int (N 0)), some (.int (N (k + 1))), some (.int (N 1))]) (st' := [.int (N 0)]) (h' := (MP X c S bf kn kp ik od bu le th mk ol tu ib sp so al br tr ((pFx bu le x).1) ((pFx bu le x).2) ha se o)) rfl trivial ?_
              exact Runs.wk (pl' := [some (.ref 23), some (.int (N 0)), some (.int (N (k + 1))), some (.int (N 1))]) (st' := [.int (bI (mrx bu le x))]) (h' := (MP X c S bf kn kp ik od bu le th mk ol tu ib sp so al br tr ((pFx bu le x).1) ((pFx bu le x).2) ha se o)) ⟨Or.inr rfl, Or.inr rfl, Or.inr rfl, Or.inr rfl, trivial⟩ (congrArg (fun zq9 => ([.int zq9] : List Value)) (bIF (by first | (simp [mrx, z1, z2]; done) | (simp [mrx, z1, z2]; omega))).symm) rfl J1
            · replace z2 : ¬ (le ≤ (pFx bu le x).1) := mt (N_le (a := le) (b := (pFx bu le x).1) (by omega) (by omega)).mpr (of_decide_eq_false z2)
              refine Runs.go 2 (cs := []) (pc' := 54) (pl' := [some (.ref 23), some (.int (N 0)), some (.int (N (k + 1))), some (.int (N 1))]) (st' := [.int (N 1)]) (h' := (MP X c S bf kn kp ik od bu le th mk ol tu ib sp so al br tr ((pFx bu le x).1) ((pFx bu le x).2) ha se o)) rfl trivial ?_
              exact Runs.wk (pl' := [some (.ref 23), some (.int (N 0)), some (.int (N (k + 1))), some (.int (N 1))]) (st' := [.int (bI (mrx bu le x))]) (h' := (MP X c S bf kn kp ik od bu le th mk ol tu ib sp so al br tr ((pFx bu le x).1) ((pFx bu le x).2) ha se o)) ⟨Or.inr rfl, Or.inr rfl, Or.inr rfl, Or.inr rfl, trivial⟩ (congrArg (fun zq9 => ([.int zq9] : List Value)) (bIT (by first | (simp [mrx, z1, z2]; done) | (simp [mrx, z1, z2]; omega))).symm) rfl J1
        refine Runs.go 3 (cs := []) (pc' := bif decide ((bI (mrx bu le x)) = 0) then 14 else 59) (pl' := [some (.ref 23), some (.int (N 0)), some (.int (N (k + 1))), some (.int (bI (mrx bu le x)))]) (st' := []) (h' := (MP X c S bf kn kp ik od bu le th mk ol tu ib sp so al br tr ((pFx bu le x).1) ((pFx bu le x).2) ha se o)) rfl trivial ?_
        refine Runs.brF (decide_eq_false (fun zq9 => absurd ((bI_0 _).mp zq9) (nT hm))) ?_
        refine Runs.go 2 (cs := []) (pc' := 61) (pl' := [some (.ref 23), some (.int (N 0)), some (.int (N (k + 1))), some (.int (bI (mrx bu le x)))]) (st' := [.ref 23, .ref 23]) (h' := (MP X c S bf kn kp ik od bu le th mk ol tu ib sp so al br tr ((pFx bu le x).1) ((pFx bu le x).2) ha se o)) rfl trivial ?_
        refine Runs.cal (y := mX7_sign) (as := [.ref 23]) (rest := [.ref 23]) (pc' := 64) (cs := []) (v := some (.int (N (sgx bu le (pFx bu le x))))) (h1 := (MP X c S bf kn kp ik od bu le th mk ol tu ib sp so al br tr ((pFx bu le x).1) ((pFx bu le x).2) ha se o)) rfl trivial (by decide) (k_sign (x := pFx bu le x) hB (pF_le hx)) ?_
        show Runs _ _ 64 _ [.int (N (sgx bu le (pFx bu le x))), .ref 23] _ _ _ _
        have hs1 := sgx_le hB (pFx bu le x)
        refine Runs.join 74 [some (.ref 23), some (.int (N 0)), some (.int (N (k + 1))), some (.int (bI (mrx bu le x)))] [.int (bI (decide (sgx bu le (pFx bu le x) = 59))), .ref 23] (MP X c S bf kn kp ik od bu le th mk ol tu ib sp so al br tr ((pFx bu le x).1) ((pFx bu le x).2) ha se o) (fun J2 => ?_) ?_
        · show Runs _ _ 64 _ _ _ _ _ _
          refine Runs.go 2 (cs := []) (pc' := bif decide (¬ (N (sgx bu le (pFx bu le x))) = (N 59)) then 73 else 69) (pl' := [some (.ref 23), some (.int (N 0)), some (.int (N (k + 1))), some (.int (bI (mrx bu le x)))]) (st' := [.ref 23]) (h' := (MP X c S bf kn kp ik od bu le th mk ol tu ib sp so al br tr ((pFx bu le x).1) ((pFx bu le x).2) ha se o)) rfl trivial ?_
          refine Runs.br (fun z3 => ?_) (fun z3 => ?_)
          · replace z3 : ¬ (sgx bu le (pFx bu le x) = 59) := mt (N_eq (a := sgx bu le (pFx bu le x)) (b := 59) (by omega) (by omega)).mpr (of_decide_eq_true z3)
            refine Runs.go 1 (cs := []) (pc' := 74) (pl' := [some (.ref 23), some (.int (N 0)), some (.int (N (k + 1))), some (.int (bI (mrx bu le x)))]) (st' := [.int (N 0), .ref 23]) (h' := (MP X c S bf kn kp ik od bu le th mk ol tu ib sp so al br tr ((pFx bu le x).1) ((pFx bu le x).2) ha se o)) rfl trivial ?_
            exact Runs.wk (pl' := [some (.ref 23), some (.int (N 0)), some (.int (N (k + 1))), some (.int (bI (mrx bu le x)))]) (st' := [.int (bI (decide (sgx bu le (pFx bu le x) = 59))), .ref 23]) (h' := (MP X c S bf kn kp ik od bu le th mk ol tu ib sp so al br tr ((pFx bu le x).1) ((pFx bu le x).2) ha se o)) ⟨Or.inr rfl, Or.inr rfl, Or.inr rfl, Or.inr rfl, trivial⟩ (congrArg (fun zq9 => ([.int zq9, .ref 23] : List Value)) (bIF (by simp [z3])).symm) rfl J2
          · replace z3 : sgx bu le (pFx bu le x) = 59 := (N_eq (a := sgx bu le (pFx bu le x)) (b := 59) (by omega) (by omega)).mp (Classical.not_not.mp (of_decide_eq_false z3))
            refine Runs.go 2 (cs := []) (pc' := 74) (pl' := [some (.ref 23), some (.int (N 0)), some (.int (N (k + 1))), some (.int (bI (mrx bu le x)))]) (st' := [.int (N 1), .ref 23]) (h' := (MP X c S bf kn kp ik od bu le th mk ol tu ib sp so al br tr ((pFx bu le x).1) ((pFx bu le x).2) ha se o)) rfl trivial ?_
            exact Runs.wk (pl' := [some (.ref 23), some (.int (N 0)), some (.int (N (k + 1))), some (.int (bI (mrx bu le x)))]) (st' := [.int (bI (decide (sgx bu le (pFx bu le x) = 59))), .ref 23]) (h' := (MP X c S bf kn kp ik od bu le th mk ol tu ib sp so al br tr ((pFx bu le x).1) ((pFx bu le x).2) ha se o)) ⟨Or.inr rfl, Or.inr rfl, Or.inr rfl, Or.inr rfl, trivial⟩ (congrArg (fun zq9 => ([.int zq9, .ref 23] : List Value)) (bIT (by simp [z3])).symm) rfl J2
        refine Runs.cal (y := mX7_step) (as := [.ref 23, .int (bI (decide (sgx bu le (pFx bu le x) = 59)))]) (rest := []) (pc' := 77) (cs := []) (v := none) (h1 := (MP X c S bf kn kp ik od bu le th mk ol tu ib sp so al br tr ((zzx bu le x).1) ((zzx bu le x).2) ha se o)) rfl trivial (by decide) (k_step (x := pFx bu le x) (b := decide (sgx bu le (pFx bu le x) = 59)) (Nat.lt_of_le_of_lt (pF_le hx) (by have := hB.1; omega))) ?_
        show Runs _ _ 77 _ [] _ _ _ _
        refine Runs.join 89 [some (.ref 23), some (.int (N 0)), some (.int (N (k + 1))), some (.int (bI (mrx bu le x)))] [.int (bI (!(zzx bu le x).2))] (MP X c S bf kn kp ik od bu le th mk ol tu ib sp so al br tr ((zzx bu le x).1) ((zzx bu le x).2) ha se o) (fun J3 => ?_) ?_
        · show Runs _ _ 77 _ _ _ _ _ _
          refine Runs.go 3 (cs := []) (pc' := bif decide (¬ (bI ((zzx bu le x).2)) = 0) then 88 else 84) (pl' := [some (.ref 23), some (.int (N 0)), some (.int (N (k + 1))), some (.int (bI (mrx bu le x)))]) (st' := []) (h' := (MP X c S bf kn kp ik od bu le th mk ol tu ib sp so al br tr ((zzx bu le x).1) ((zzx bu le x).2) ha se o)) rfl trivial ?_
          refine Runs.br (fun z4 => ?_) (fun z4 => ?_)
          · replace z4 : ¬ (((zzx bu le x).2) = false) := mt (bI_0 _).mpr (of_decide_eq_true z4)
            refine Runs.go 1 (cs := []) (pc' := 89) (pl' := [some (.ref 23), some (.int (N 0)), some (.int (N (k + 1))), some (.int (bI (mrx bu le x)))]) (st' := [.int (N 0)]) (h' := (MP X c S bf kn kp ik od bu le th mk ol tu ib sp so al br tr ((zzx bu le x).1) ((zzx bu le x).2) ha se o)) rfl trivial ?_
            exact Runs.wk (pl' := [some (.ref 23), some (.int (N 0)), some (.int (N (k + 1))), some (.int (bI (mrx bu le x)))]) (st' := [.int (bI (!(zzx bu le x).2))]) (h' := (MP X c S bf kn kp ik od bu le th mk ol tu ib sp so al br tr ((zzx bu le x).1) ((zzx bu le x).2) ha se o)) ⟨Or.inr rfl, Or.inr rfl, Or.inr rfl, Or.inr rfl, trivial⟩ (congrArg (fun zq9 => ([.int zq9] : List Value)) (bIF (by simp [z4])).symm) rfl J3
          · replace z4 : ((zzx bu le x).2) = false := (bI_0 _).mp (Classical.not_not.mp (of_decide_eq_false z4))
            refine Runs.go 2 (cs := []) (pc' := 89) (pl' := [some (.ref 23), some (.int (N 0)), some (.int (N (k + 1))), some (.int (bI (mrx bu le x)))]) (st' := [.int (N 1)]) (h' := (MP X c S bf kn kp ik od bu le th mk ol tu ib sp so al br tr ((zzx bu le x).1) ((zzx bu le x).2) ha se o)) rfl trivial ?_
            exact Runs.wk (pl' := [some (.ref 23), some (.int (N 0)), some (.int (N (k + 1))), some (.int (bI (mrx bu le x)))]) (st' := [.int (bI (!(zzx bu le x).2))]) (h' := (MP X c S bf kn kp ik od bu le th mk ol tu ib sp so al br tr ((zzx bu le x).1) ((zzx bu le x).2) ha se o)) ⟨Or.inr rfl, Or.inr rfl, Or.inr rfl, Or.inr rfl, trivial⟩ (congrArg (fun zq9 => ([.int zq9] : List Value)) (bIT (by simp [z4])).symm) rfl J3
        refine Runs.go 2 (cs := []) (pc' := 14) (pl' := [some (.ref 23), some (.int (N 0)), some (.int (N (k + 1))), some (.int (bI (!(zzx bu le x).2)))]) (st' := []) (h' := (MP X c S bf kn kp ik od bu le th mk ol tu ib sp so al br tr ((zzx bu le x).1) ((zzx bu le x).2) ha se o)) rfl trivial ?_
        exact Runs.wk (pl' := [some (.ref 23), some (.int (N 0)), some (.int (N (k + 1))), some (.int (N 1))]) (st' := []) (h' := (MP X c S bf kn kp ik od bu le th mk ol tu ib sp so al br tr ((zzx bu le x).1) ((zzx bu le x).2) ha se o)) ⟨Or.inr rfl, Or.inr rfl, Or.inr rfl, Or.inr (congrArg (fun zq9 => some (Value.int zq9)) (bIT (by rw [hz]; rfl)).symm), trivial⟩ rfl rfl hr
theorem k_goF {X : Nat × (Nat → Int32)} {c : CT} {S bf : Nat → Nat} {kn : Nat} {kp : Nat → Nat} {ik : Bool} {od bu : Nat → Nat} {le th : Nat} {mk ol : Nat → Nat} {tu : Nat} {ib : Bool} {sp : Nat → Nat} {so : Nat} {al br tr : Nat → Nat} {at_ : Nat} {iw : Bool} {ha : Int64} {se : Nat → Int32} {o : Nat → Int64} (hB : BF bu le) : ∃ k', k' < 200 ∧ Call 4 mX7_go [.ref 23, .int (N 0)] (MP X c S bf kn kp ik od bu le th mk ol tu ib sp so al br tr at_ iw ha se o) (.inl (some (.int (N k')))) (MP X c S bf kn kp ik od bu le th mk ol tu ib sp so al br tr ((goX bu le 61 (0, false)).1) ((goX bu le 61 (0, false)).2) ha se o) 0 := by
  have hle := hB.1
  obtain ⟨k', hk', hw⟩ := k_goW (X := X) (c := c) (S := S) (bf := bf) (kn := kn) (kp := kp) (ik := ik) (od := od) (bu := bu) (le := le) (th := th) (mk := mk) (ol := ol) (tu := tu) (ib := ib) (sp := sp) (so := so) (al := al) (br := br) (tr := tr) (ha := ha) (se := se) (o := o) hB 61 (0, false) 0 (Nat.zero_le _) (by show le - 0 < 61; omega) (by decide)
  refine ⟨k', hk', ?_⟩
  show Runs 4 mX7_go 0 [some (.ref 23), some (.int (N 0)), none, none] [] _ _ _ _
  refine Runs.go 10 (cs := [(N 0 : Int32) = 0 ∨ (N 0 : Int32) = 1]) (pc' := 14) (pl' := [some (.ref 23), some (.int (N 0)), some (.int (N 0)), some (.int (N 1))]) (st' := []) (h' := (MP X c S bf kn kp ik od bu le th mk ol tu ib sp so al br tr 0 false ha se o)) rfl ⟨(Or.inl rfl), trivial⟩ ?_
  exact hw
def feN (c : Nat → Nat) (n : Nat) : Nat := if (goX c n 61 (0, false)).2 = true then (goX c n 61 (0, false)).1 else n
theorem k_firstError {X : Nat × (Nat → Int32)} {c : CT} {S bf : Nat → Nat} {kn : Nat} {kp : Nat → Nat} {ik : Bool} {od bu : Nat → Nat} {le th : Nat} {mk ol : Nat → Nat} {tu : Nat} {ib : Bool} {sp : Nat → Nat} {so : Nat} {al br tr : Nat → Nat} {at_ : Nat} {iw : Bool} {ha : Int64} {se : Nat → Int32} {o : Nat → Int64} (hB : BF bu le) : Call 5 mX7_firstError [.ref 23] (MP X c S bf kn kp ik od bu le th mk ol tu ib sp so al br tr at_ iw ha se o) (.inl (some (.int (N (feN bu le))))) (MP X c S bf kn kp ik od bu le 0 mk ol tu ib sp so al br tr ((goX bu le 61 (0, false)).1) ((goX bu le 61 (0, false)).2) ha se o) 0 := by
  obtain ⟨k9, hk9, hg⟩ := k_goF (X := X) (c := c) (S := S) (bf := bf) (kn := kn) (kp := kp) (ik := ik) (od := od) (bu := bu) (le := le) (th := 0) (mk := mk) (ol := ol) (tu := tu) (ib := ib) (sp := sp) (so := so) (al := al) (br := br) (tr := tr) (ha := ha) (se := se) (o := o) (at_ := at_) (iw := iw) hB
  refine Runs.go 5 (cs := []) (pc' := 7) (pl' := [some (.ref 23), none]) (st' := [.int (N 0), .ref 23]) (h' := (MP X c S bf kn kp ik od bu le 0 mk ol tu ib sp so al br tr at_ iw ha se o)) rfl trivial ?_
  refine Runs.cal (y := mX7_go) (as := [.ref 23, .int (N 0)]) (rest := []) (pc' := 10) (cs := []) (v := some (.int (N k9))) (h1 := (MP X c S bf kn kp ik od bu le 0 mk ol tu ib sp so al br tr ((goX bu le 61 (0, false)).1) ((goX bu le 61 (0, false)).2) ha se o)) rfl trivial (by decide) (hg) ?_
  show Runs _ _ 10 _ [.int (N k9)] _ _ _ _
  refine Runs.go 4 (cs := []) (pc' := bif decide ((bI ((goX bu le 61 (0, false)).2)) = 0) then 25 else 18) (pl' := [some (.ref 23), some (.int (N k9))]) (st' := []) (h' := (MP X c S bf kn kp ik od bu le 0 mk ol tu ib sp so al br tr ((goX bu le 61 (0, false)).1) ((goX bu le 61 (0, false)).2) ha se o)) rfl trivial ?_
  refine Runs.br (fun z1 => ?_) (fun z1 => ?_)
  · replace z1 : ((goX bu le 61 (0, false)).2) = false := (bI_0 _).mp (of_decide_eq_true z1)
    refine Runs.go 2 (cs := []) (pc' := 29) (pl' := [some (.ref 23), some (.int (N k9))]) (st' := [.int (N le)]) (h' := (MP X c S bf kn kp ik od bu le 0 mk ol tu ib sp so al br tr ((goX bu le 61 (0, false)).1) ((goX bu le 61 (0, false)).2) ha se o)) rfl trivial ?_
    exact Runs.retE (cs := []) rfl trivial (retI (congrArg N (if_neg (by rw [z1]; decide)))) rfl
  · replace z1 : ¬ (((goX bu le 61 (0, false)).2) = false) := mt (bI_0 _).mpr (of_decide_eq_false z1)
    refine Runs.go 3 (cs := []) (pc' := 29) (pl' := [some (.ref 23), some (.int (N k9))]) (st' := [.int (N ((goX bu le 61 (0, false)).1))]) (h' := (MP X c S bf kn kp ik od bu le 0 mk ol tu ib sp so al br tr ((goX bu le 61 (0, false)).1) ((goX bu le 61 (0, false)).2) ha se o)) rfl trivial ?_
    exact Runs.retE (cs := []) rfl trivial (retI (congrArg N (if_pos (bT z1)))) rfl
theorem k_take1 {X : Nat × (Nat → Int32)} {c : CT} {S bf : Nat → Nat} {kn : Nat} {kp : Nat → Nat} {ik : Bool} {od bu : Nat → Nat} {le th : Nat} {mk ol : Nat → Nat} {tu : Nat} {ib : Bool} {sp : Nat → Nat} {so : Nat} {al br tr : Nat → Nat} {at_ : Nat} {iw : Bool} {ha : Int64} {se : Nat → Int32} {o : Nat → Int64} (hB : BF bu le) (hw : (goX bu le 61 (0, false)).2 = true) : Call 5 mX7_take [.ref 23] (MP X c S bf kn kp ik od bu le th mk ol tu ib sp so al br tr at_ iw ha se o) (.inl (some (.int (N 0)))) (MP X c S bf kn kp ik od bu le 1 mk ol tu ib sp so al br tr ((goX bu le 61 (0, false)).1) ((goX bu le 61 (0, false)).2) ha se o) 0 := by
  obtain ⟨k9, hk9, hg⟩ := k_goF (X := X) (c := c) (S := S) (bf := bf) (kn := kn) (kp := kp) (ik := ik) (od := od) (bu := bu) (le := le) (th := 0) (mk := mk) (ol := ol) (tu := tu) (ib := ib) (sp := sp) (so := so) (al := al) (br := br) (tr := tr) (ha := ha) (se := se) (o := o) (at_ := at_) (iw := iw) hB
  refine Runs.go 5 (cs := []) (pc' := 7) (pl' := [some (.ref 23), none, none]) (st' := [.int (N 0), .ref 23]) (h' := (MP X c S bf kn kp ik od bu le 0 mk ol tu ib sp so al br tr at_ iw ha se o)) rfl trivial ?_
  refine Runs.cal (y := mX7_go) (as := [.ref 23, .int (N 0)]) (rest := []) (pc' := 10) (cs := []) (v := some (.int (N k9))) (h1 := (MP X c S bf kn kp ik od bu le 0 mk ol tu ib sp so al br tr ((goX bu le 61 (0, false)).1) ((goX bu le 61 (0, false)).2) ha se o)) rfl trivial (by decide) (hg) ?_
  show Runs _ _ 10 _ [.int (N k9)] _ _ _ _
  refine Runs.go 4 (cs := []) (pc' := bif decide ((bI ((goX bu le 61 (0, false)).2)) = 0) then 24 else 18) (pl' := [some (.ref 23), some (.int (N k9)), none]) (st' := []) (h' := (MP X c S bf kn kp ik od bu le 0 mk ol tu ib sp so al br tr ((goX bu le 61 (0, false)).1) ((goX bu le 61 (0, false)).2) ha se o)) rfl trivial ?_
  refine Runs.brF (decide_eq_false (fun zq9 => absurd ((bI_0 _).mp zq9) (nT hw))) ?_
  refine Runs.go 2 (cs := []) (pc' := 20) (pl' := [some (.ref 23), some (.int (N k9)), none]) (st' := [.int (N 1), .ref 23]) (h' := (MP X c S bf kn kp ik od bu le 0 mk ol tu ib sp so al br tr ((goX bu le 61 (0, false)).1) ((goX bu le 61 (0, false)).2) ha se o)) rfl trivial ?_
  refine Runs.cal (y := mX7_throwing) (as := [.ref 23, .int (N 1)]) (rest := []) (pc' := 23) (cs := []) (v := some (.int (N 0))) (h1 := (MP X c S bf kn kp ik od bu le 1 mk ol tu ib sp so al br tr ((goX bu le 61 (0, false)).1) ((goX bu le 61 (0, false)).2) ha se o)) rfl trivial (by decide) (k_throwing) ?_
  show Runs _ _ 23 _ [.int (N 0)] _ _ _ _
  exact Runs.retE (cs := []) rfl trivial (retI rfl) rfl
