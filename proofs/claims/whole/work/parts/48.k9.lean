/-! THE REFERENCE: solutions by rank, blame, hints, shares (gen_k9.py) -/
def isN (S sp : Nat → Nat) (n : Nat) : Bool := clN S sp 12 && !anyN (fun k => !heldB S sp k) n
def solB (S sp : Nat → Nat) : Bool := isN S sp (S 0)
theorem isN_F {S sp : Nat → Nat} {i n : Nat} (h : i ≤ n) (e : isN S sp i = false) : isN S sp n = false := by
  unfold isN at e ⊢
  cases hc : clN S sp 12 with
  | false => rfl
  | true =>
    rw [hc, Bool.true_and] at e
    rw [Bool.true_and, anyN_mono h (by simpa using e)]
    rfl
/-- the first index from i on, of n ones, at which f holds for the r-th time -/
def fdr (f : Nat → Bool) (r i : Nat) : Nat → Option Nat
  | 0 => none
  | n + 1 => if f i then (if r = 0 then some i else fdr f (r - 1) (i + 1) n) else fdr f r (i + 1) n
theorem fdr_step {f : Nat → Bool} {r i n : Nat} (h : i < n) : fdr f r i (n - i) = if f i then (if r = 0 then some i else fdr f (r - 1) (i + 1) (n - (i + 1))) else fdr f r (i + 1) (n - (i + 1)) := by
  have e : n - i = (n - (i + 1)) + 1 := by omega
  rw [e]
  rfl
theorem fdr_end {f : Nat → Bool} {r n : Nat} : fdr f r n (n - n) = none := by
  rw [Nat.sub_self]
  rfl
def solF (S od : Nat → Nat) (n : Nat) : Bool := solB S (arr od n)
def lfN (S od : Nat → Nat) (r : Nat) : Nat → Nat := itN (fun n x => if solF S od n then x - 1 else x) r
def fdO (S od : Nat → Nat) (r : Nat) : Option Nat := fdr (solF S od) r 0 13824
def fdS (S od : Nat → Nat) (r : Nat) : Nat → Nat := match fdO S od r with
  | some n => arr od n
  | none => arr od 13823
theorem lfN_le (S od : Nat → Nat) (r n : Nat) : lfN S od r n ≤ r := by
  induction n with
  | zero => exact Nat.le_refl _
  | succ n ih =>
    show (if solF S od n then lfN S od r n - 1 else lfN S od r n) ≤ r
    split <;> omega
theorem k_finds {X : Nat × (Nat → Int32)} {c : CT} {S bf : Nat → Nat} {kn : Nat} {kp : Nat → Nat} {ik : Bool} {od bu : Nat → Nat} {le th : Nat} {mk ol : Nat → Nat} {tu : Nat} {ib : Bool} {sp : Nat → Nat} {so : Nat} {al br tr : Nat → Nat} {at_ : Nat} {iw : Bool} {ha : Int64} {se : Nat → Int32} {o : Nat → Int64} {r : Nat} (hr : r < 2147483648) (hV : VC S) (hod : ∀ j, j < 96 → od j < 4) (hsp : Z12 sp) : Call 2 mX7_finds [.ref 23, .int (N r)] (MP X c S bf kn kp ik od bu le th mk ol tu ib sp so al br tr at_ iw ha se o) (.inl (some (.int (bI ((fdO S od r).isSome))))) (MP X c S bf kn kp ik od bu le th mk ol tu ib (fdS S od r) so al br tr at_ iw ha se o) 0 := by
  have hS := hV.1
  have h12 := hV.2.1
  refine Runs.go 4 (cs := []) (pc' := 4) (pl' := [some (.ref 23), some (.int (N r)), some (.int (N r)), some (.int (N 0)), none, none]) (st' := []) (h' := (MP X c S bf kn kp ik od bu le th mk ol tu ib sp so al br tr at_ iw ha se o)) rfl trivial ?_
  refine Runs.wk (pl' := [some (.ref 23), some (.int (N r)), some (.int (N (lfN S od r 0))), some (.int (N 0)), none, none]) (st' := []) (h' := (MP X c S bf kn kp ik od bu le th mk ol tu ib (spF od sp 0) so al br tr at_ iw ha se o)) ⟨Or.inr rfl, Or.inr rfl, Or.inr rfl, Or.inr rfl, Or.inl rfl, Or.inl rfl, trivial⟩ rfl rfl ?_
  refine Runs.loopN (fun n => [some (.ref 23), some (.int (N r)), some (.int (N (lfN S od r n))), some (.int (N n)), none, none]) (fun n => (MP X c S bf kn kp ik od bu le th mk ol tu ib (spF od sp n) so al br tr at_ iw ha se o)) (fun n => fdr (solF S od) r 0 13824 = fdr (solF S od) (lfN S od r n) n (13824 - n)) 13824 rfl (fun n hn I1 K1 => ?_) (fun I1 => ?_)
  · show Runs _ _ 4 [some (.ref 23), some (.int (N r)), some (.int (N (lfN S od r n))), some (.int (N n)), none, none] [] (MP X c S bf kn kp ik od bu le th mk ol tu ib (spF od sp n) so al br tr at_ iw ha se o) _ _ _
    have hA := arr_4 hod n
    have hspn : Z12 (spF od sp n) := spF_z hsp n
    have hle := lfN_le S od r n
    refine Runs.go 3 (cs := []) (pc' := bif decide ((N 13824) ≤ (N n)) then 85 else 11) (pl' := [some (.ref 23), some (.int (N r)), some (.int (N (lfN S od r n))), some (.int (N n)), none, none]) (st' := []) (h' := (MP X c S bf kn kp ik od bu le th mk ol tu ib (spF od sp n) so al br tr at_ iw ha se o)) rfl trivial ?_
    refine Runs.brF (decide_eq_false (fun zq9 => absurd ((N_le (a := 13824) (b := n) (by omega) (by omega)).mp zq9) (by omega))) ?_
    refine Runs.go 2 (cs := []) (pc' := 13) (pl' := [some (.ref 23), some (.int (N r)), some (.int (N (lfN S od r n))), some (.int (N n)), none, none]) (st' := [.int (N n), .ref 23]) (h' := (MP X c S bf kn kp ik od bu le th mk ol tu ib (spF od sp n) so al br tr at_ iw ha se o)) rfl trivial ?_
    refine Runs.cal (y := mX7_stands) (as := [.ref 23, .int (N n)]) (rest := []) (pc' := 16) (cs := []) (v := none) (h1 := (MP X c S bf kn kp ik od bu le th mk ol tu ib (arr od n) so al br tr at_ iw ha se o)) rfl trivial (by decide) (k_stands (by omega) hspn) ?_
    show Runs _ _ 16 _ [] _ _ _ _
    refine Runs.go 1 (cs := []) (pc' := 17) (pl' := [some (.ref 23), some (.int (N r)), some (.int (N (lfN S od r n))), some (.int (N n)), none, none]) (st' := [.ref 23]) (h' := (MP X c S bf kn kp ik od bu le th mk ol tu ib (arr od n) so al br tr at_ iw ha se o)) rfl trivial ?_
    refine Runs.cal (y := mX7_isClear) (as := [.ref 23]) (rest := []) (pc' := 20) (cs := []) (v := some (.int (bI (clN S (arr od n) 12)))) (h1 := (MP X c S bf kn kp ik od bu le th mk ol tu ib (arr od n) so al br tr at_ iw ha se o)) rfl trivial (by decide) (k_isClear hS hA) ?_
    show Runs _ _ 20 _ [.int (bI (clN S (arr od n) 12))] _ _ _ _
    refine Runs.go 1 (cs := []) (pc' := 22) (pl' := [some (.ref 23), some (.int (N r)), some (.int (N (lfN S od r n))), some (.int (N n)), some (.int (bI (clN S (arr od n) 12))), none]) (st' := []) (h' := (MP X c S bf kn kp ik od bu le th mk ol tu ib (arr od n) so al br tr at_ iw ha se o)) rfl trivial ?_
    refine Runs.join 55 [some (.ref 23), some (.int (N r)), some (.int (N (lfN S od r n))), some (.int (N n)), some (.int (bI (solB S (arr od n)))), none] [] (MP X c S bf kn kp ik od bu le th mk ol tu ib (arr od n) so al br tr at_ iw ha se o) (fun J1 => ?_) ?_
    · show Runs _ _ 22 _ _ _ _ _ _
      refine Runs.go 2 (cs := []) (pc' := 25) (pl' := [some (.ref 23), some (.int (N r)), some (.int (N (lfN S od r n))), some (.int (N n)), some (.int (bI (clN S (arr od n) 12))), some (.int (N 0))]) (st' := []) (h' := (MP X c S bf kn kp ik od bu le th mk ol tu ib (arr od n) so al br tr at_ iw ha se o)) rfl trivial ?_
      refine Runs.wk (pl' := [some (.ref 23), some (.int (N r)), some (.int (N (lfN S od r n))), some (.int (N n)), some (.int (bI (isN S (arr od n) 0))), some (.int (N 0))]) (st' := []) (h' := (MP X c S bf kn kp ik od bu le th mk ol tu ib (arr od n) so al br tr at_ iw ha se o)) ⟨Or.inr rfl, Or.inr rfl, Or.inr rfl, Or.inr rfl, Or.inr (congrArg (fun zq9 => some (Value.int zq9)) (congrArg bI (by simp [isN, anyN, itN]))), Or.inr rfl, trivial⟩ rfl rfl ?_
      refine Runs.loopN (fun t => [some (.ref 23), some (.int (N r)), some (.int (N (lfN S od r n))), some (.int (N n)), some (.int (bI (isN S (arr od n) t))), some (.int (N t))]) (fun t => (MP X c S bf kn kp ik od bu le th mk ol tu ib (arr od n) so al br tr at_ iw ha se o)) (fun t => True) (S 0) trivial (fun t ht I2 K2 => ?_) (fun I2 => ?_)
      · show Runs _ _ 25 [some (.ref 23), some (.int (N r)), some (.int (N (lfN S od r n))), some (.int (N n)), some (.int (bI (isN S (arr od n) t))), some (.int (N t))] [] (MP X c S bf kn kp ik od bu le th mk ol tu ib (arr od n) so al br tr at_ iw ha se o) _ _ _
        refine Runs.topI 5 (cs := [vp_in (N 0) 63]) (pc' := 33) (pl' := [some (.ref 23), some (.int (N r)), some (.int (N (lfN S od r n))), some (.int (N n)), some (.int (bI (isN S (arr od n) t))), some (.int (N t))]) (v := aN S (N 0).toNatClampNeg) (v' := N (S 0)) (st' := [.int (N t)]) (h' := (MP X c S bf kn kp ik od bu le th mk ol tu ib (arr od n) so al br tr at_ iw ha se o)) rfl ⟨(N_in (by omega) (by decide)), trivial⟩ (aN_at (by omega)) ?_
        have b1 := h12
        refine Runs.go 1 (cs := []) (pc' := bif decide ((N (S 0)) ≤ (N t)) then 55 else 36) (pl' := [some (.ref 23), some (.int (N r)), some (.int (N (lfN S od r n))), some (.int (N n)), some (.int (bI (isN S (arr od n) t))), some (.int (N t))]) (st' := []) (h' := (MP X c S bf kn kp ik od bu le th mk ol tu ib (arr od n) so al br tr at_ iw ha se o)) rfl trivial ?_
        refine Runs.brF (decide_eq_false (fun zq9 => absurd ((N_le (a := S 0) (b := t) (by omega) (by omega)).mp zq9) (by omega))) ?_
        refine Runs.go 2 (cs := []) (pc' := bif decide ((bI (isN S (arr od n) t)) = 0) then 55 else 41) (pl' := [some (.ref 23), some (.int (N r)), some (.int (N (lfN S od r n))), some (.int (N n)), some (.int (bI (isN S (arr od n) t))), some (.int (N t))]) (st' := []) (h' := (MP X c S bf kn kp ik od bu le th mk ol tu ib (arr od n) so al br tr at_ iw ha se o)) rfl trivial ?_
        refine Runs.br (fun z2 => ?_) (fun z2 => ?_)
        · replace z2 : (isN S (arr od n) t) = false := (bI_0 _).mp (of_decide_eq_true z2)
          exact Runs.wk (pl' := [some (.ref 23), some (.int (N r)), some (.int (N (lfN S od r n))), some (.int (N n)), some (.int (bI (solB S (arr od n)))), none]) (st' := []) (h' := (MP X c S bf kn kp ik od bu le th mk ol tu ib (arr od n) so al br tr at_ iw ha se o)) ⟨Or.inr rfl, Or.inr rfl, Or.inr rfl, Or.inr rfl, Or.inr (congrArg (fun zq9 => some (Value.int zq9)) (congrArg bI ((isN_F (by omega) z2).trans z2.symm))), Or.inl rfl, trivial⟩ rfl rfl J1
        · replace z2 : ¬ ((isN S (arr od n) t) = false) := mt (bI_0 _).mpr (of_decide_eq_false z2)
          refine Runs.go 2 (cs := []) (pc' := 44) (pl' := [some (.ref 23), some (.int (N r)), some (.int (N (lfN S od r n))), some (.int (N n)), some (.int (bI (isN S (arr od n) t))), some (.int (N t))]) (st' := [.int (N t), .ref 23]) (h' := (MP X c S bf kn kp ik od bu le th mk ol tu ib (arr od n) so al br tr at_ iw ha se o)) rfl trivial ?_
          refine Runs.cal (y := mX7_isHeld) (as := [.ref 23, .int (N t)]) (rest := []) (pc' := 47) (cs := []) (v := some (.int (bI (heldB S (arr od n) t)))) (h1 := (MP X c S bf kn kp ik od bu le th mk ol tu ib (arr od n) so al br tr at_ iw ha se o)) rfl trivial (by decide) (k_isHeld hS (by omega) hA (hV.2.2 _ (by omega))) ?_
          show Runs _ _ 47 _ [.int (bI (heldB S (arr od n) t))] _ _ _ _
          refine Runs.goL 2 (cs := []) (pc' := 52) (pl1 := [some (.ref 23), some (.int (N r)), some (.int (N (lfN S od r n))), some (.int (N n)), some (.int (bI (heldB S (arr od n) t))), some (.int (N t + N 1))]) (pl' := [some (.ref 23), some (.int (N r)), some (.int (N (lfN S od r n))), some (.int (N n)), some (.int (bI (heldB S (arr od n) t))), some (.int (N (t + 1)))]) (st' := []) (h' := (MP X c S bf kn kp ik od bu le th mk ol tu ib (arr od n) so al br tr at_ iw ha se o)) rfl trivial (congrArg (fun zq9 => ([some (.ref 23), some (.int (N r)), some (.int (N (lfN S od r n))), some (.int (N n)), some (.int (bI (heldB S (arr od n) t))), some (.int zq9)] : PL)) (NA (by omega))) ?_
          refine Runs.go 1 (cs := []) (pc' := 25) (pl' := [some (.ref 23), some (.int (N r)), some (.int (N (lfN S od r n))), some (.int (N n)), some (.int (bI (heldB S (arr od n) t))), some (.int (N (t + 1)))]) (st' := []) (h' := (MP X c S bf kn kp ik od bu le th mk ol tu ib (arr od n) so al br tr at_ iw ha se o)) rfl trivial ?_
          exact Runs.wk (pl' := [some (.ref 23), some (.int (N r)), some (.int (N (lfN S od r n))), some (.int (N n)), some (.int (bI (isN S (arr od n) (t + 1)))), some (.int (N (t + 1)))]) (st' := []) (h' := (MP X c S bf kn kp ik od bu le th mk ol tu ib (arr od n) so al br tr at_ iw ha se o)) ⟨Or.inr rfl, Or.inr rfl, Or.inr rfl, Or.inr rfl, Or.inr (congrArg (fun zq9 => some (Value.int zq9)) (congrArg bI (by rw [isN, anyN_succ]; have h5 : isN S (arr od n) t = true := bT z2; rw [isN, Bool.and_eq_true] at h5; rw [h5.1]; simp at h5 ⊢; simp [h5]))), Or.inr rfl, trivial⟩ rfl rfl (K2 trivial)
      · show Runs _ _ 25 _ [] _ _ _ _
        show Runs _ _ 25 [some (.ref 23), some (.int (N r)), some (.int (N (lfN S od r n))), some (.int (N n)), some (.int (bI (isN S (arr od n) (S 0)))), some (.int (N (S 0)))] [] (MP X c S bf kn kp ik od bu le th mk ol tu ib (arr od n) so al br tr at_ iw ha se o) _ _ _
        refine Runs.topI 5 (cs := [vp_in (N 0) 63]) (pc' := 33) (pl' := [some (.ref 23), some (.int (N r)), some (.int (N (lfN S od r n))), some (.int (N n)), some (.int (bI (isN S (arr od n) (S 0)))), some (.int (N (S 0)))]) (v := aN S (N 0).toNatClampNeg) (v' := N (S 0)) (st' := [.int (N (S 0))]) (h' := (MP X c S bf kn kp ik od bu le th mk ol tu ib (arr od n) so al br tr at_ iw ha se o)) rfl ⟨(N_in (by omega) (by decide)), trivial⟩ (aN_at (by omega)) ?_
        have b3 := h12
        refine Runs.go 1 (cs := []) (pc' := bif decide ((N (S 0)) ≤ (N (S 0))) then 55 else 36) (pl' := [some (.ref 23), some (.int (N r)), some (.int (N (lfN S od r n))), some (.int (N n)), some (.int (bI (isN S (arr od n) (S 0)))), some (.int (N (S 0)))]) (st' := []) (h' := (MP X c S bf kn kp ik od bu le th mk ol tu ib (arr od n) so al br tr at_ iw ha se o)) rfl trivial ?_
        refine Runs.brT (decide_eq_true ((N_le (a := S 0) (b := S 0) (by omega) (by omega)).mpr (by omega))) ?_
        exact Runs.wk (pl' := [some (.ref 23), some (.int (N r)), some (.int (N (lfN S od r n))), some (.int (N n)), some (.int (bI (solB S (arr od n)))), none]) (st' := []) (h' := (MP X c S bf kn kp ik od bu le th mk ol tu ib (arr od n) so al br tr at_ iw ha se o)) ⟨Or.inr rfl, Or.inr rfl, Or.inr rfl, Or.inr rfl, Or.inr rfl, Or.inl rfl, trivial⟩ rfl rfl J1
    rcases Bool.eq_false_or_eq_true (solB S (arr od n)) with e1 | e1
    · by_cases e2 : lfN S od r n = 0
      · show Runs _ _ 55 _ _ _ _ _ _
        refine Runs.go 2 (cs := []) (pc' := bif decide ((bI (solB S (arr od n))) = 0) then 66 else 60) (pl' := [some (.ref 23), some (.int (N r)), some (.int (N (lfN S od r n))), some (.int (N n)), some (.int (bI (solB S (arr od n)))), none]) (st' := []) (h' := (MP X c S bf kn kp ik od bu le th mk ol tu ib (arr od n) so al br tr at_ iw ha se o)) rfl trivial ?_
        refine Runs.brF (decide_eq_false (fun zq9 => absurd ((bI_0 _).mp zq9) (nT e1))) ?_
        refine Runs.go 2 (cs := []) (pc' := bif decide (¬ (N (lfN S od r n)) = 0) then 66 else 64) (pl' := [some (.ref 23), some (.int (N r)), some (.int (N (lfN S od r n))), some (.int (N n)), some (.int (bI (solB S (arr od n)))), none]) (st' := []) (h' := (MP X c S bf kn kp ik od bu le th mk ol tu ib (arr od n) so al br tr at_ iw ha se o)) rfl trivial ?_
        refine Runs.brF (decide_eq_false (not_not_intro ((N_eq (a := lfN S od r n) (b := 0) (by omega) (by omega)).mpr e2))) ?_
        refine Runs.go 1 (cs := []) (pc' := 65) (pl' := [some (.ref 23), some (.int (N r)), some (.int (N (lfN S od r n))), some (.int (N n)), some (.int (bI (solB S (arr od n)))), none]) (st' := [.int (N 1)]) (h' := (MP X c S bf kn kp ik od bu le th mk ol tu ib (arr od n) so al br tr at_ iw ha se o)) rfl trivial ?_
        have hq : fdO S od r = some n := I1.trans ((fdr_step hn).trans ((if_pos (show solF S od n = true from e1)).trans (if_pos e2)))
        refine Runs.retE (cs := [(N 1 : Int32) = 0 ∨ (N 1 : Int32) = 1]) rfl ⟨Or.inr rfl, trivial⟩ (retI (bIT (by rw [hq]; rfl))) (by rw [fdS, hq])
      · show Runs _ _ 55 _ _ _ _ _ _
        refine Runs.go 2 (cs := []) (pc' := bif decide ((bI (solB S (arr od n))) = 0) then 66 else 60) (pl' := [some (.ref 23), some (.int (N r)), some (.int (N (lfN S od r n))), some (.int (N n)), some (.int (bI (solB S (arr od n)))), none]) (st' := []) (h' := (MP X c S bf kn kp ik od bu le th mk ol tu ib (arr od n) so al br tr at_ iw ha se o)) rfl trivial ?_
        refine Runs.brF (decide_eq_false (fun zq9 => absurd ((bI_0 _).mp zq9) (nT e1))) ?_
        refine Runs.go 2 (cs := []) (pc' := bif decide (¬ (N (lfN S od r n)) = 0) then 66 else 64) (pl' := [some (.ref 23), some (.int (N r)), some (.int (N (lfN S od r n))), some (.int (N n)), some (.int (bI (solB S (arr od n)))), none]) (st' := []) (h' := (MP X c S bf kn kp ik od bu le th mk ol tu ib (arr od n) so al br tr at_ iw ha se o)) rfl trivial ?_
        refine Runs.brT (decide_eq_true (fun zq9 => absurd ((N_eq (a := lfN S od r n) (b := 0) (by omega) (by omega)).mp zq9) e2)) ?_
        refine Runs.go 3 (cs := []) (pc' := bif decide ((bI (solB S (arr od n))) = 0) then 76 else 72) (pl' := [some (.ref 23), some (.int (N r)), some (.int (N (lfN S od r n))), some (.int (N n)), some (.int (bI (solB S (arr od n)))), none]) (st' := [.int (N (lfN S od r n))]) (h' := (MP X c S bf kn kp ik od bu le th mk ol tu ib (arr od n) so al br tr at_ iw ha se o)) rfl trivial ?_
        refine Runs.brF (decide_eq_false (fun zq9 => absurd ((bI_0 _).mp zq9) (nT e1))) ?_
        refine Runs.topI 3 (cs := []) (pc' := 78) (pl' := [some (.ref 23), some (.int (N r)), some (.int (N (lfN S od r n))), some (.int (N n)), some (.int (bI (solB S (arr od n)))), none]) (v := (N (lfN S od r n)) - (N 1)) (v' := N (lfN S od r n - 1)) (st' := []) (h' := (MP X c S bf kn kp ik od bu le th mk ol tu ib (arr od n) so al br tr at_ iw ha se o)) rfl trivial (NS (by omega)) ?_
        refine Runs.goL 2 (cs := []) (pc' := 82) (pl1 := [some (.ref 23), some (.int (N r)), some (.int (N (lfN S od r n - 1))), some (.int (N n + N 1)), some (.int (bI (solB S (arr od n)))), none]) (pl' := [some (.ref 23), some (.int (N r)), some (.int (N (lfN S od r n - 1))), some (.int (N (n + 1))), some (.int (bI (solB S (arr od n)))), none]) (st' := []) (h' := (MP X c S bf kn kp ik od bu le th mk ol tu ib (arr od n) so al br tr at_ iw ha se o)) rfl trivial (congrArg (fun zq9 => ([some (.ref 23), some (.int (N r)), some (.int (N (lfN S od r n - 1))), some (.int zq9), some (.int (bI (solB S (arr od n)))), none] : PL)) (NA (by omega))) ?_
        refine Runs.go 1 (cs := []) (pc' := 4) (pl' := [some (.ref 23), some (.int (N r)), some (.int (N (lfN S od r n - 1))), some (.int (N (n + 1))), some (.int (bI (solB S (arr od n)))), none]) (st' := []) (h' := (MP X c S bf kn kp ik od bu le th mk ol tu ib (arr od n) so al br tr at_ iw ha se o)) rfl trivial ?_
        have hs : solF S od n = true := e1
        exact Runs.wk (pl' := [some (.ref 23), some (.int (N r)), some (.int (N (lfN S od r (n + 1)))), some (.int (N (n + 1))), none, none]) (st' := []) (h' := (MP X c S bf kn kp ik od bu le th mk ol tu ib (spF od sp (n + 1)) so al br tr at_ iw ha se o)) ⟨Or.inr rfl, Or.inr rfl, Or.inr (congrArg (fun zq9 => some (Value.int zq9)) (congrArg N (if_pos hs))), Or.inr rfl, Or.inl rfl, Or.inl rfl, trivial⟩ rfl rfl (K1 (I1.trans ((fdr_step hn).trans ((if_pos hs).trans ((if_neg e2).trans (congrArg (fun x => fdr (solF S od) x (n + 1) (13824 - (n + 1))) (show lfN S od r (n + 1) = lfN S od r n - 1 from if_pos hs).symm))))))
    · show Runs _ _ 55 _ _ _ _ _ _
      refine Runs.go 2 (cs := []) (pc' := bif decide ((bI (solB S (arr od n))) = 0) then 66 else 60) (pl' := [some (.ref 23), some (.int (N r)), some (.int (N (lfN S od r n))), some (.int (N n)), some (.int (bI (solB S (arr od n)))), none]) (st' := []) (h' := (MP X c S bf kn kp ik od bu le th mk ol tu ib (arr od n) so al br tr at_ iw ha se o)) rfl trivial ?_
      refine Runs.brT (decide_eq_true ((bI_0 _).mpr e1)) ?_
      refine Runs.go 3 (cs := []) (pc' := bif decide ((bI (solB S (arr od n))) = 0) then 76 else 72) (pl' := [some (.ref 23), some (.int (N r)), some (.int (N (lfN S od r n))), some (.int (N n)), some (.int (bI (solB S (arr od n)))), none]) (st' := [.int (N (lfN S od r n))]) (h' := (MP X c S bf kn kp ik od bu le th mk ol tu ib (arr od n) so al br tr at_ iw ha se o)) rfl trivial ?_
      refine Runs.brT (decide_eq_true ((bI_0 _).mpr e1)) ?_
      refine Runs.topI 2 (cs := []) (pc' := 78) (pl' := [some (.ref 23), some (.int (N r)), some (.int (N (lfN S od r n))), some (.int (N n)), some (.int (bI (solB S (arr od n)))), none]) (v := (N (lfN S od r n)) - (N 0)) (v' := N (lfN S od r n)) (st' := []) (h' := (MP X c S bf kn kp ik od bu le th mk ol tu ib (arr od n) so al br tr at_ iw ha se o)) rfl trivial (NS (by omega)) ?_
      refine Runs.goL 2 (cs := []) (pc' := 82) (pl1 := [some (.ref 23), some (.int (N r)), some (.int (N (lfN S od r n))), some (.int (N n + N 1)), some (.int (bI (solB S (arr od n)))), none]) (pl' := [some (.ref 23), some (.int (N r)), some (.int (N (lfN S od r n))), some (.int (N (n + 1))), some (.int (bI (solB S (arr od n)))), none]) (st' := []) (h' := (MP X c S bf kn kp ik od bu le th mk ol tu ib (arr od n) so al br tr at_ iw ha se o)) rfl trivial (congrArg (fun zq9 => ([some (.ref 23), some (.int (N r)), some (.int (N (lfN S od r n))), some (.int zq9), some (.int (bI (solB S (arr od n)))), none] : PL)) (NA (by omega))) ?_
      refine Runs.go 1 (cs := []) (pc' := 4) (pl' := [some (.ref 23), some (.int (N r)), some (.int (N (lfN S od r n))), some (.int (N (n + 1))), some (.int (bI (solB S (arr od n)))), none]) (st' := []) (h' := (MP X c S bf kn kp ik od bu le th mk ol tu ib (arr od n) so al br tr at_ iw ha se o)) rfl trivial ?_
      have hs : ¬ solF S od n = true := by rw [show solF S od n = false from e1]; decide
      exact Runs.wk (pl' := [some (.ref 23), some (.int (N r)), some (.int (N (lfN S od r (n + 1)))), some (.int (N (n + 1))), none, none]) (st' := []) (h' := (MP X c S bf kn kp ik od bu le th mk ol tu ib (spF od sp (n + 1)) so al br tr at_ iw ha se o)) ⟨Or.inr rfl, Or.inr rfl, Or.inr (congrArg (fun zq9 => some (Value.int zq9)) (congrArg N (if_neg hs))), Or.inr rfl, Or.inl rfl, Or.inl rfl, trivial⟩ rfl rfl (K1 (I1.trans ((fdr_step hn).trans ((if_neg hs).trans (congrArg (fun x => fdr (solF S od) x (n + 1) (13824 - (n + 1))) (show lfN S od r (n + 1) = lfN S od r n from if_neg hs).symm)))))
  · show Runs _ _ 4 _ [] _ _ _ _
    show Runs _ _ 4 [some (.ref 23), some (.int (N r)), some (.int (N (lfN S od r 13824))), some (.int (N 13824)), none, none] [] (MP X c S bf kn kp ik od bu le th mk ol tu ib (spF od sp 13824) so al br tr at_ iw ha se o) _ _ _
    have I9 : fdO S od r = none := I1.trans fdr_end
    refine Runs.go 3 (cs := []) (pc' := bif decide ((N 13824) ≤ (N 13824)) then 85 else 11) (pl' := [some (.ref 23), some (.int (N r)), some (.int (N (lfN S od r 13824))), some (.int (N 13824)), none, none]) (st' := []) (h' := (MP X c S bf kn kp ik od bu le th mk ol tu ib (spF od sp 13824) so al br tr at_ iw ha se o)) rfl trivial ?_
    refine Runs.brT (decide_eq_true (by decide)) ?_
    refine Runs.go 1 (cs := []) (pc' := 86) (pl' := [some (.ref 23), some (.int (N r)), some (.int (N (lfN S od r 13824))), some (.int (N 13824)), none, none]) (st' := [.int (N 0)]) (h' := (MP X c S bf kn kp ik od bu le th mk ol tu ib (spF od sp 13824) so al br tr at_ iw ha se o)) rfl trivial ?_
    refine Runs.retE (cs := [(N 0 : Int32) = 0 ∨ (N 0 : Int32) = 1]) rfl ⟨Or.inl rfl, trivial⟩ (retI (bIF (by rw [I9]; rfl))) (by rw [fdS, I9]; rfl)
def optI : Option Nat → Int32
  | some k => N k
  | none => -1
def blO (so : Nat) (S al : Nat → Nat) : Option Nat := if so = 0 then fs (fun k => decide (0 < al k)) 0 (S 0) else none
def dn (m t : Nat) : Int32 := N m - N (t + 1)
theorem dn_eq {m t : Nat} (h : t < m) : dn m t = N (m - 1 - t) := by
  unfold dn
  rw [N_sub (by omega)]
  congr 1
  omega
theorem dn_end {m : Nat} : dn m m = -1 := by
  unfold dn
  rw [← N_add, ← Int32.sub_sub, Int32.sub_self]
  decide
theorem dn_step {m t : Nat} (h : t < m) : dn m (t + 1) = N (m - 1 - t) + (-1 : Int32) := by
  have e : -N 1 = (-1 : Int32) := by decide
  rw [← e, ← Int32.sub_eq_add_neg, ← dn_eq h]
  unfold dn
  rw [show N (t + 1 + 1) = N (t + 1) + N 1 by rw [N_add], ← Int32.sub_sub]
theorem dn_lt {m t : Nat} (h : t < m) (hm : m < 100) : ¬ dn m t < 0 := by
  rw [dn_eq h]
  intro z
  have := (N_lt (a := m - 1 - t) (b := 0) (by omega) (by omega)).mp z
  omega
def blI (S al : Nat → Nat) (t : Nat) : Int32 := optI (fs (fun k => decide (0 < al k)) (S 0 - t) t)
theorem bl_yes {S al : Nat → Nat} {t : Nat} (h : t < S 0) (ha : 0 < al (S 0 - 1 - t)) : blI S al (t + 1) = N (S 0 - 1 - t) := by
  unfold blI
  rw [show S 0 - (t + 1) = S 0 - 1 - t by omega, fs, if_pos (decide_eq_true ha)]
  rfl
theorem bl_no {S al : Nat → Nat} {t : Nat} (h : t < S 0) (ha : ¬ 0 < al (S 0 - 1 - t)) : blI S al (t + 1) = blI S al t := by
  unfold blI
  rw [show S 0 - (t + 1) = S 0 - 1 - t by omega, fs, if_neg (by rw [decide_eq_false ha]; decide), show S 0 - 1 - t + 1 = S 0 - t by omega]

theorem k_blamed {X : Nat × (Nat → Int32)} {c : CT} {S bf : Nat → Nat} {kn : Nat} {kp : Nat → Nat} {ik : Bool} {od bu : Nat → Nat} {le th : Nat} {mk ol : Nat → Nat} {tu : Nat} {ib : Bool} {sp : Nat → Nat} {so : Nat} {al br tr : Nat → Nat} {at_ : Nat} {iw : Bool} {ha : Int64} {se : Nat → Int32} {o : Nat → Int64} (h12 : S 0 ≤ 12) (hA : ∀ j, j < 12 → al j < 20000) (hso : so < 20000) : Call 0 mX7_blamed [.ref 23] (MP X c S bf kn kp ik od bu le th mk ol tu ib sp so al br tr at_ iw ha se o) (.inl (some (.int (optI (blO so S al))))) (MP X c S bf kn kp ik od bu le th mk ol tu ib sp so al br tr at_ iw ha se o) 0 := by
  refine Runs.topI 6 (cs := [vp_in (N 0) 63]) (pc' := 8) (pl' := [some (.ref 23), some (.int (-1 : Int32)), none]) (v := aN S (N 0).toNatClampNeg) (v' := N (S 0)) (st' := []) (h' := (MP X c S bf kn kp ik od bu le th mk ol tu ib sp so al br tr at_ iw ha se o)) rfl ⟨(N_in (by omega) (by decide)), trivial⟩ (aN_at (by omega)) ?_
  refine Runs.topI 2 (cs := []) (pc' := 10) (pl' := [some (.ref 23), some (.int (-1 : Int32)), none]) (v := (N (S 0)) - (N 1)) (v' := dn (S 0) 0) (st' := []) (h' := (MP X c S bf kn kp ik od bu le th mk ol tu ib sp so al br tr at_ iw ha se o)) rfl trivial rfl ?_
  refine Runs.go 1 (cs := []) (pc' := 11) (pl' := [some (.ref 23), some (.int (-1 : Int32)), some (.int (dn (S 0) 0))]) (st' := []) (h' := (MP X c S bf kn kp ik od bu le th mk ol tu ib sp so al br tr at_ iw ha se o)) rfl trivial ?_
  by_cases e0 : so = 0
  · refine Runs.wk (pl' := [some (.ref 23), some (.int (blI S al 0)), some (.int (dn (S 0) 0))]) (st' := []) (h' := (MP X c S bf kn kp ik od bu le th mk ol tu ib sp so al br tr at_ iw ha se o)) ⟨Or.inr rfl, Or.inr rfl, Or.inr rfl, trivial⟩ rfl rfl ?_
    refine Runs.loopN (fun t => [some (.ref 23), some (.int (blI S al t)), some (.int (dn (S 0) t))]) (fun t => (MP X c S bf kn kp ik od bu le th mk ol tu ib sp so al br tr at_ iw ha se o)) (fun t => True) (S 0) trivial (fun t ht I1 K1 => ?_) (fun I1 => ?_)
    · show Runs _ _ 11 [some (.ref 23), some (.int (blI S al t)), some (.int (dn (S 0) t))] [] (MP X c S bf kn kp ik od bu le th mk ol tu ib sp so al br tr at_ iw ha se o) _ _ _
      refine Runs.go 2 (cs := []) (pc' := bif decide ((dn (S 0) t) < 0) then 43 else 15) (pl' := [some (.ref 23), some (.int (blI S al t)), some (.int (dn (S 0) t))]) (st' := []) (h' := (MP X c S bf kn kp ik od bu le th mk ol tu ib sp so al br tr at_ iw ha se o)) rfl trivial ?_
      refine Runs.brF (decide_eq_false (fun zq9 => absurd (Iff.rfl.mp zq9) (dn_lt ht (by omega)))) ?_
      have hal : S 0 - 1 - t < 12 := by omega
      rw [dn_eq ht]
      refine Runs.go 3 (cs := []) (pc' := bif decide (¬ (N so) = 0) then 43 else 22) (pl' := [some (.ref 23), some (.int (blI S al t)), some (.int (N (S 0 - 1 - t)))]) (st' := []) (h' := (MP X c S bf kn kp ik od bu le th mk ol tu ib sp so al br tr at_ iw ha se o)) rfl trivial ?_
      refine Runs.brF (decide_eq_false (not_not_intro ((N_eq (a := so) (b := 0) (by omega) (by omega)).mpr e0))) ?_
      refine Runs.topI 4 (cs := [vp_in (N (S 0 - 1 - t)) 12]) (pc' := 28) (pl' := [some (.ref 23), some (.int (blI S al t)), some (.int (N (S 0 - 1 - t)))]) (v := aN al (N (S 0 - 1 - t)).toNatClampNeg) (v' := N (al (S 0 - 1 - t))) (st' := []) (h' := (MP X c S bf kn kp ik od bu le th mk ol tu ib sp so al br tr at_ iw ha se o)) rfl ⟨(N_in (by omega) (by decide)), trivial⟩ (aN_at (by omega)) ?_
      have b1 := hA ((S 0 - 1 - t)) (by omega)
      refine Runs.go 1 (cs := []) (pc' := bif decide ((N (al (S 0 - 1 - t))) ≤ 0) then 35 else 31) (pl' := [some (.ref 23), some (.int (blI S al t)), some (.int (N (S 0 - 1 - t)))]) (st' := []) (h' := (MP X c S bf kn kp ik od bu le th mk ol tu ib sp so al br tr at_ iw ha se o)) rfl trivial ?_
      refine Runs.br (fun z2 => ?_) (fun z2 => ?_)
      · replace z2 : al (S 0 - 1 - t) ≤ 0 := (N_le (a := al (S 0 - 1 - t)) (b := 0) (by omega) (by omega)).mp (of_decide_eq_true z2)
        refine Runs.go 4 (cs := []) (pc' := 11) (pl' := [some (.ref 23), some (.int (blI S al t)), some (.int ((N (S 0 - 1 - t)) + (-1 : Int32)))]) (st' := []) (h' := (MP X c S bf kn kp ik od bu le th mk ol tu ib sp so al br tr at_ iw ha se o)) rfl trivial ?_
        exact Runs.wk (pl' := [some (.ref 23), some (.int (blI S al (t + 1))), some (.int (dn (S 0) (t + 1)))]) (st' := []) (h' := (MP X c S bf kn kp ik od bu le th mk ol tu ib sp so al br tr at_ iw ha se o)) ⟨Or.inr rfl, Or.inr (congrArg (fun zq9 => some (Value.int zq9)) (bl_no ht (by omega))), Or.inr (congrArg (fun zq9 => some (Value.int zq9)) (dn_step ht)), trivial⟩ rfl rfl (K1 trivial)
      · replace z2 : ¬ (al (S 0 - 1 - t) ≤ 0) := mt (N_le (a := al (S 0 - 1 - t)) (b := 0) (by omega) (by omega)).mpr (of_decide_eq_false z2)
        refine Runs.go 5 (cs := []) (pc' := 11) (pl' := [some (.ref 23), some (.int (N (S 0 - 1 - t))), some (.int ((N (S 0 - 1 - t)) + (-1 : Int32)))]) (st' := []) (h' := (MP X c S bf kn kp ik od bu le th mk ol tu ib sp so al br tr at_ iw ha se o)) rfl trivial ?_
        exact Runs.wk (pl' := [some (.ref 23), some (.int (blI S al (t + 1))), some (.int (dn (S 0) (t + 1)))]) (st' := []) (h' := (MP X c S bf kn kp ik od bu le th mk ol tu ib sp so al br tr at_ iw ha se o)) ⟨Or.inr rfl, Or.inr (congrArg (fun zq9 => some (Value.int zq9)) (bl_yes ht (by omega))), Or.inr (congrArg (fun zq9 => some (Value.int zq9)) (dn_step ht)), trivial⟩ rfl rfl (K1 trivial)
    · show Runs _ _ 11 _ [] _ _ _ _
      show Runs _ _ 11 [some (.ref 23), some (.int (blI S al (S 0))), some (.int (dn (S 0) (S 0)))] [] (MP X c S bf kn kp ik od bu le th mk ol tu ib sp so al br tr at_ iw ha se o) _ _ _
      refine Runs.go 2 (cs := []) (pc' := bif decide ((dn (S 0) (S 0)) < 0) then 43 else 15) (pl' := [some (.ref 23), some (.int (blI S al (S 0))), some (.int (dn (S 0) (S 0)))]) (st' := []) (h' := (MP X c S bf kn kp ik od bu le th mk ol tu ib sp so al br tr at_ iw ha se o)) rfl trivial ?_
      refine Runs.brT (decide_eq_true (Iff.rfl.mpr (by rw [dn_end]; decide))) ?_
      refine Runs.go 1 (cs := []) (pc' := 44) (pl' := [some (.ref 23), some (.int (blI S al (S 0))), some (.int (dn (S 0) (S 0)))]) (st' := [.int (blI S al (S 0))]) (h' := (MP X c S bf kn kp ik od bu le th mk ol tu ib sp so al br tr at_ iw ha se o)) rfl trivial ?_
      refine Runs.retE (cs := []) rfl trivial (retI ?_) rfl
      rw [blO, if_pos e0, blI, Nat.sub_self]
  · show Runs _ _ 11 _ _ _ _ _ _
    refine Runs.go 2 (cs := []) (pc' := bif decide ((dn (S 0) 0) < 0) then 43 else 15) (pl' := [some (.ref 23), some (.int (-1 : Int32)), some (.int (dn (S 0) 0))]) (st' := []) (h' := (MP X c S bf kn kp ik od bu le th mk ol tu ib sp so al br tr at_ iw ha se o)) rfl trivial ?_
    refine Runs.br (fun z3 => ?_) (fun z3 => ?_)
    · replace z3 : (dn (S 0) 0) < 0 := Iff.rfl.mp (of_decide_eq_true z3)
      refine Runs.go 1 (cs := []) (pc' := 44) (pl' := [some (.ref 23), some (.int (-1 : Int32)), some (.int (dn (S 0) 0))]) (st' := [.int (-1 : Int32)]) (h' := (MP X c S bf kn kp ik od bu le th mk ol tu ib sp so al br tr at_ iw ha se o)) rfl trivial ?_
      refine Runs.retE (cs := []) rfl trivial (retI ?_) rfl
      rw [blO, if_neg e0]; rfl
    · replace z3 : ¬ ((dn (S 0) 0) < 0) := mt Iff.rfl.mpr (of_decide_eq_false z3)
      refine Runs.go 3 (cs := []) (pc' := bif decide (¬ (N so) = 0) then 43 else 22) (pl' := [some (.ref 23), some (.int (-1 : Int32)), some (.int (dn (S 0) 0))]) (st' := []) (h' := (MP X c S bf kn kp ik od bu le th mk ol tu ib sp so al br tr at_ iw ha se o)) rfl trivial ?_
      refine Runs.brT (decide_eq_true (fun zq9 => absurd ((N_eq (a := so) (b := 0) (by omega) (by omega)).mp zq9) e0)) ?_
      refine Runs.go 1 (cs := []) (pc' := 44) (pl' := [some (.ref 23), some (.int (-1 : Int32)), some (.int (dn (S 0) 0))]) (st' := [.int (-1 : Int32)]) (h' := (MP X c S bf kn kp ik od bu le th mk ol tu ib sp so al br tr at_ iw ha se o)) rfl trivial ?_
      refine Runs.retE (cs := []) rfl trivial (retI ?_) rfl
      rw [blO, if_neg e0]; rfl
