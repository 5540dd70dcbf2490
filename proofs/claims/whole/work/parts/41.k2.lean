/-! THE REFERENCE: its rows are saved, propagation (gen_k2.py) -/
def crN (S : Nat → Nat) : Nat → Nat := itN (fun k x => x + pc4 (S (k + 49))) 0
theorem crN_le (S : Nat → Nat) (n : Nat) : crN S n ≤ 4 * n := by
  induction n with
  | zero => exact Nat.le_refl _
  | succ n ih =>
    have := pc4_le (S (n + 49))
    show crN S n + pc4 (S (n + 49)) ≤ 4 * (n + 1)
    omega
theorem k_allCrosses {X : Nat × (Nat → Int32)} {c : CT} {S bf : Nat → Nat} {kn : Nat} {kp : Nat → Nat} {ik : Bool} {od bu : Nat → Nat} {le th : Nat} {mk ol : Nat → Nat} {tu : Nat} {ib : Bool} {sp : Nat → Nat} {so : Nat} {al br tr : Nat → Nat} {at_ : Nat} {iw : Bool} {ha : Int64} {se : Nat → Int32} {o : Nat → Int64} (hS : ∀ j, j < 61 → S j < 16) : Call 1 mX7_allCrosses [.ref 23] (MP X c S bf kn kp ik od bu le th mk ol tu ib sp so al br tr at_ iw ha se o) (.inl (some (.int (N (crN S 12))))) (MP X c S bf kn kp ik od bu le th mk ol tu ib sp so al br tr at_ iw ha se o) 0 := by
  refine Runs.go 4 (cs := []) (pc' := 4) (pl' := [some (.ref 23), some (.int (N 0)), some (.int (N 0))]) (st' := []) (h' := (MP X c S bf kn kp ik od bu le th mk ol tu ib sp so al br tr at_ iw ha se o)) rfl trivial ?_
  refine Runs.wk (pl' := [some (.ref 23), some (.int (N (crN S 0))), some (.int (N 0))]) (st' := []) (h' := (MP X c S bf kn kp ik od bu le th mk ol tu ib sp so al br tr at_ iw ha se o)) ⟨Or.inr rfl, Or.inr rfl, Or.inr rfl, trivial⟩ rfl rfl ?_
  refine Runs.loopN (fun i1 => [some (.ref 23), some (.int (N (crN S i1))), some (.int (N i1))]) (fun i1 => (MP X c S bf kn kp ik od bu le th mk ol tu ib sp so al br tr at_ iw ha se o)) (fun i1 => True) 12 trivial (fun i1 hi1 I1 K1 => ?_) (fun I1 => ?_)
  · show Runs _ _ 4 [some (.ref 23), some (.int (N (crN S i1))), some (.int (N i1))] [] (MP X c S bf kn kp ik od bu le th mk ol tu ib sp so al br tr at_ iw ha se o) _ _ _
    refine Runs.go 3 (cs := []) (pc' := bif decide ((N 12) ≤ (N i1)) then 31 else 10) (pl' := [some (.ref 23), some (.int (N (crN S i1))), some (.int (N i1))]) (st' := []) (h' := (MP X c S bf kn kp ik od bu le th mk ol tu ib sp so al br tr at_ iw ha se o)) rfl trivial ?_
    refine Runs.brF (decide_eq_false (fun zq9 => absurd ((N_le (a := 12) (b := i1) (by omega) (by omega)).mp zq9) (by omega))) ?_
    refine Runs.topI 6 (cs := []) (pc' := 19) (pl' := [some (.ref 23), some (.int (N (crN S i1))), some (.int (N i1))]) (v := (N 49) + (N i1)) (v' := N (i1 + 49)) (st' := [.ref 24, .int (N (crN S i1))]) (h' := (MP X c S bf kn kp ik od bu le th mk ol tu ib sp so al br tr at_ iw ha se o)) rfl trivial (NA (by omega)) ?_
    refine Runs.topI 1 (cs := [vp_in (N (i1 + 49)) 63]) (pc' := 20) (pl' := [some (.ref 23), some (.int (N (crN S i1))), some (.int (N i1))]) (v := aN S (N (i1 + 49)).toNatClampNeg) (v' := N (S (i1 + 49))) (st' := [.int (N (crN S i1))]) (h' := (MP X c S bf kn kp ik od bu le th mk ol tu ib sp so al br tr at_ iw ha se o)) rfl ⟨(N_in (by omega) (by decide)), trivial⟩ (aN_at (by omega)) ?_
    have b1 := hS (i1 + 49) (by omega)
    refine Runs.cal (y := mX7_bits) (as := [.int (N (S (i1 + 49)))]) (rest := [.int (N (crN S i1))]) (pc' := 23) (cs := []) (v := some (.int (N (pc4 (S (i1 + 49)))))) (h1 := (MP X c S bf kn kp ik od bu le th mk ol tu ib sp so al br tr at_ iw ha se o)) rfl trivial (by decide) (k_bits (by omega)) ?_
    show Runs _ _ 23 _ [.int (N (pc4 (S (i1 + 49)))), .int (N (crN S i1))] _ _ _ _
    refine Runs.topI 1 (cs := []) (pc' := 24) (pl' := [some (.ref 23), some (.int (N (crN S i1))), some (.int (N i1))]) (v := (N (crN S i1)) + (N (pc4 (S (i1 + 49))))) (v' := N (crN S i1 + pc4 (S (i1 + 49)))) (st' := []) (h' := (MP X c S bf kn kp ik od bu le th mk ol tu ib sp so al br tr at_ iw ha se o)) rfl trivial (NA (by omega)) ?_
    refine Runs.goL 2 (cs := []) (pc' := 28) (pl1 := [some (.ref 23), some (.int (N (crN S i1 + pc4 (S (i1 + 49))))), some (.int (N i1 + N 1))]) (pl' := [some (.ref 23), some (.int (N (crN S i1 + pc4 (S (i1 + 49))))), some (.int (N (i1 + 1)))]) (st' := []) (h' := (MP X c S bf kn kp ik od bu le th mk ol tu ib sp so al br tr at_ iw ha se o)) rfl trivial (congrArg (fun zq9 => ([some (.ref 23), some (.int (N (crN S i1 + pc4 (S (i1 + 49))))), some (.int zq9)] : PL)) (NA (by omega))) ?_
    refine Runs.go 1 (cs := []) (pc' := 4) (pl' := [some (.ref 23), some (.int (N (crN S i1 + pc4 (S (i1 + 49))))), some (.int (N (i1 + 1)))]) (st' := []) (h' := (MP X c S bf kn kp ik od bu le th mk ol tu ib sp so al br tr at_ iw ha se o)) rfl trivial ?_
    exact Runs.wk (pl' := [some (.ref 23), some (.int (N (crN S (i1 + 1)))), some (.int (N (i1 + 1)))]) (st' := []) (h' := (MP X c S bf kn kp ik od bu le th mk ol tu ib sp so al br tr at_ iw ha se o)) ⟨Or.inr rfl, Or.inr rfl, Or.inr rfl, trivial⟩ rfl rfl (K1 trivial)
  · show Runs _ _ 4 _ [] _ _ _ _
    show Runs _ _ 4 [some (.ref 23), some (.int (N (crN S 12))), some (.int (N 12))] [] (MP X c S bf kn kp ik od bu le th mk ol tu ib sp so al br tr at_ iw ha se o) _ _ _
    refine Runs.go 3 (cs := []) (pc' := bif decide ((N 12) ≤ (N 12)) then 31 else 10) (pl' := [some (.ref 23), some (.int (N (crN S 12))), some (.int (N 12))]) (st' := []) (h' := (MP X c S bf kn kp ik od bu le th mk ol tu ib sp so al br tr at_ iw ha se o)) rfl trivial ?_
    refine Runs.brT (decide_eq_true (by decide)) ?_
    refine Runs.go 1 (cs := []) (pc' := 32) (pl' := [some (.ref 23), some (.int (N (crN S 12))), some (.int (N 12))]) (st' := [.int (N (crN S 12))]) (h' := (MP X c S bf kn kp ik od bu le th mk ol tu ib sp so al br tr at_ iw ha se o)) rfl trivial ?_
    exact Runs.retE (cs := []) rfl trivial (retI rfl) rfl
def putN (o n : Nat) (f g : Nat → Nat) : Nat → Nat := fun j => if o ≤ j ∧ j < o + n then f (j - o) else g j
theorem upn_put {o n : Nat} {f g : Nat → Nat} {v : Nat} (h : v = f n) : upn (putN o n f g) (o + n) v = putN o (n + 1) f g := by
  funext j
  unfold upn putN
  subst h
  by_cases e : j = o + n
  · subst e
    rw [if_pos rfl, if_pos (by omega), show o + n - o = n by omega]
  · rw [if_neg e]
    by_cases e2 : o ≤ j ∧ j < o + n
    · rw [if_pos e2, if_pos (by omega)]
    · rw [if_neg e2, if_neg (by omega)]
theorem put_0 {o : Nat} {f g : Nat → Nat} : putN o 0 f g = g := by
  funext j
  unfold putN
  rw [if_neg (by omega)]
theorem fil_ge {α : Type} {f g : Nat → α} {i j : Nat} (h : i ≤ j) : fil i f g j = g j := if_neg (by omega)
/-- the saved states, moved down by one -/
def dnB (bf : Nat → Nat) : Nat → Nat := fil 315 (fun k => bf (k + 63)) bf
def knS (kn : Nat) : Nat := if kn = 6 then 5 else kn
def bfS (bf : Nat → Nat) (kn : Nat) : Nat → Nat := if kn = 6 then dnB bf else bf
theorem upn_put' {o n idx : Nat} {f g : Nat → Nat} {v : Nat} (hi : idx = o + n) (h : v = f n) : upn (putN o n f g) idx v = putN o (n + 1) f g := by
  subst hi
  exact upn_put h
theorem dnB_def (bf : Nat → Nat) : fil 315 (fun k => bf (k + 63)) bf = dnB bf := rfl
theorem k_save_lt {X : Nat × (Nat → Int32)} {c : CT} {S bf : Nat → Nat} {kn : Nat} {kp : Nat → Nat} {ik : Bool} {od bu : Nat → Nat} {le th : Nat} {mk ol : Nat → Nat} {tu : Nat} {ib : Bool} {sp : Nat → Nat} {so : Nat} {al br tr : Nat → Nat} {at_ : Nat} {iw : Bool} {ha : Int64} {se : Nat → Int32} {o : Nat → Int64} (hkn : kn < 6) : Call 0 mX7_save [.ref 23] (MP X c S bf kn kp ik od bu le th mk ol tu ib sp so al br tr at_ iw ha se o) (.inl none) (MP X c S (putN (63 * kn) 63 S bf) (kn + 1) kp ik od bu le th mk ol tu ib sp so al br tr at_ iw ha se o) 0 := by
  refine Runs.go 4 (cs := []) (pc' := bif decide (¬ (N kn) = (N 6)) then 49 else 9) (pl' := [some (.ref 23), none]) (st' := []) (h' := (MP X c S bf kn kp ik od bu le th mk ol tu ib sp so al br tr at_ iw ha se o)) rfl trivial ?_
  refine Runs.brT (decide_eq_true (fun zq9 => absurd ((N_eq (a := kn) (b := 6) (by omega) (by omega)).mp zq9) (by omega))) ?_
  refine Runs.go 2 (cs := []) (pc' := 51) (pl' := [some (.ref 23), some (.int (N 0))]) (st' := []) (h' := (MP X c S bf kn kp ik od bu le th mk ol tu ib sp so al br tr at_ iw ha se o)) rfl trivial ?_
  refine Runs.wk (pl' := [some (.ref 23), some (.int (N 0))]) (st' := []) (h' := (MP X c S (putN (63 * kn) 0 S bf) kn kp ik od bu le th mk ol tu ib sp so al br tr at_ iw ha se o)) ⟨Or.inr rfl, Or.inr rfl, trivial⟩ rfl (congrArg (fun z => (GP X c (aN S) (aN z) (N kn) (aN kp) (bI ik) (aN od) (aN bu) (N le) (N th) (aN mk) (aN ol) (N tu) (bI ib) (aN sp) (N so) (aN al) (aN br) (aN tr) (N at_) (bI iw) ha se o : PH)) put_0.symm) ?_
  refine Runs.loopN (fun i51 => [some (.ref 23), some (.int (N i51))]) (fun i51 => (MP X c S (putN (63 * kn) i51 S bf) kn kp ik od bu le th mk ol tu ib sp so al br tr at_ iw ha se o)) (fun i51 => True) 63 trivial (fun i51 hi51 I51 K51 => ?_) (fun I51 => ?_)
  · show Runs _ _ 51 [some (.ref 23), some (.int (N i51))] [] (MP X c S (putN (63 * kn) i51 S bf) kn kp ik od bu le th mk ol tu ib sp so al br tr at_ iw ha se o) _ _ _
    refine Runs.go 3 (cs := []) (pc' := bif decide ((N 63) ≤ (N i51)) then 83 else 57) (pl' := [some (.ref 23), some (.int (N i51))]) (st' := []) (h' := (MP X c S (putN (63 * kn) i51 S bf) kn kp ik od bu le th mk ol tu ib sp so al br tr at_ iw ha se o)) rfl trivial ?_
    refine Runs.brF (decide_eq_false (fun zq9 => absurd ((N_le (a := 63) (b := i51) (by omega) (by omega)).mp zq9) (by omega))) ?_
    refine Runs.topI 6 (cs := []) (pc' := 68) (pl' := [some (.ref 23), some (.int (N i51))]) (v := (N 63) * (N kn)) (v' := N (63 * kn)) (st' := [.ref 25]) (h' := (MP X c S (putN (63 * kn) i51 S bf) kn kp ik od bu le th mk ol tu ib sp so al br tr at_ iw ha se o)) rfl trivial (NM (by omega)) ?_
    refine Runs.topI 2 (cs := []) (pc' := 70) (pl' := [some (.ref 23), some (.int (N i51))]) (v := (N (63 * kn)) + (N i51)) (v' := N (i51 + 63 * kn)) (st' := [.ref 25]) (h' := (MP X c S (putN (63 * kn) i51 S bf) kn kp ik od bu le th mk ol tu ib sp so al br tr at_ iw ha se o)) rfl trivial (NA (by omega)) ?_
    refine Runs.topI 4 (cs := [vp_in (N i51) 63]) (pc' := 76) (pl' := [some (.ref 23), some (.int (N i51))]) (v := aN S (N i51).toNatClampNeg) (v' := N (S i51)) (st' := [.int (N (i51 + 63 * kn)), .ref 25]) (h' := (MP X c S (putN (63 * kn) i51 S bf) kn kp ik od bu le th mk ol tu ib sp so al br tr at_ iw ha se o)) rfl ⟨(N_in (by omega) (by decide)), trivial⟩ (aN_at (by omega)) ?_
    refine Runs.goH 1 (cs := [vp_in (N (i51 + 63 * kn)) 378]) (pc' := 77) (pl' := [some (.ref 23), some (.int (N i51))]) (st' := []) (h1 := (GP X c (aN S) (upd (aN (putN (63 * kn) i51 S bf)) (N (i51 + 63 * kn)).toNatClampNeg (N (S i51))) (N kn) (aN kp) (bI ik) (aN od) (aN bu) (N le) (N th) (aN mk) (aN ol) (N tu) (bI ib) (aN sp) (N so) (aN al) (aN br) (aN tr) (N at_) (bI iw) ha se o)) (h' := (MP X c S (putN (63 * kn) (i51 + 1) S bf) kn kp ik od bu le th mk ol tu ib sp so al br tr at_ iw ha se o)) rfl ⟨(N_in (by omega) (by decide)), trivial⟩ (congrArg (fun zq9 => (GP X c (aN S) zq9 (N kn) (aN kp) (bI ik) (aN od) (aN bu) (N le) (N th) (aN mk) (aN ol) (N tu) (bI ib) (aN sp) (N so) (aN al) (aN br) (aN tr) (N at_) (bI iw) ha se o)) ((aN_up (by omega)).trans (congrArg aN (upn_put' (by omega) rfl)))) ?_
    refine Runs.goL 1 (cs := []) (pc' := 80) (pl1 := [some (.ref 23), some (.int (N i51 + N 1))]) (pl' := [some (.ref 23), some (.int (N (i51 + 1)))]) (st' := []) (h' := (MP X c S (putN (63 * kn) (i51 + 1) S bf) kn kp ik od bu le th mk ol tu ib sp so al br tr at_ iw ha se o)) rfl trivial (congrArg (fun zq9 => ([some (.ref 23), some (.int zq9)] : PL)) (NA (by omega))) ?_
    refine Runs.go 1 (cs := []) (pc' := 51) (pl' := [some (.ref 23), some (.int (N (i51 + 1)))]) (st' := []) (h' := (MP X c S (putN (63 * kn) (i51 + 1) S bf) kn kp ik od bu le th mk ol tu ib sp so al br tr at_ iw ha se o)) rfl trivial ?_
    exact Runs.wk (pl' := [some (.ref 23), some (.int (N (i51 + 1)))]) (st' := []) (h' := (MP X c S (putN (63 * kn) (i51 + 1) S bf) kn kp ik od bu le th mk ol tu ib sp so al br tr at_ iw ha se o)) ⟨Or.inr rfl, Or.inr rfl, trivial⟩ rfl rfl (K51 trivial)
  · show Runs _ _ 51 _ [] _ _ _ _
    show Runs _ _ 51 [some (.ref 23), some (.int (N 63))] [] (MP X c S (putN (63 * kn) 63 S bf) kn kp ik od bu le th mk ol tu ib sp so al br tr at_ iw ha se o) _ _ _
    refine Runs.go 3 (cs := []) (pc' := bif decide ((N 63) ≤ (N 63)) then 83 else 57) (pl' := [some (.ref 23), some (.int (N 63))]) (st' := []) (h' := (MP X c S (putN (63 * kn) 63 S bf) kn kp ik od bu le th mk ol tu ib sp so al br tr at_ iw ha se o)) rfl trivial ?_
    refine Runs.brT (decide_eq_true (by decide)) ?_
    refine Runs.topI 5 (cs := []) (pc' := 90) (pl' := [some (.ref 23), some (.int (N 63))]) (v := (N kn) + (N 1)) (v' := N (kn + 1)) (st' := [.ref 23]) (h' := (MP X c S (putN (63 * kn) 63 S bf) kn kp ik od bu le th mk ol tu ib sp so al br tr at_ iw ha se o)) rfl trivial (NA (by omega)) ?_
    refine Runs.go 1 (cs := []) (pc' := 93) (pl' := [some (.ref 23), some (.int (N 63))]) (st' := []) (h' := (MP X c S (putN (63 * kn) 63 S bf) (kn + 1) kp ik od bu le th mk ol tu ib sp so al br tr at_ iw ha se o)) rfl trivial ?_
    exact Runs.retE (cs := []) rfl trivial rfl rfl
theorem k_save_6 {X : Nat × (Nat → Int32)} {c : CT} {S bf : Nat → Nat} {kp : Nat → Nat} {ik : Bool} {od bu : Nat → Nat} {le th : Nat} {mk ol : Nat → Nat} {tu : Nat} {ib : Bool} {sp : Nat → Nat} {so : Nat} {al br tr : Nat → Nat} {at_ : Nat} {iw : Bool} {ha : Int64} {se : Nat → Int32} {o : Nat → Int64} : Call 0 mX7_save [.ref 23] (MP X c S bf 6 kp ik od bu le th mk ol tu ib sp so al br tr at_ iw ha se o) (.inl none) (MP X c S (putN 315 63 S (dnB bf)) 6 kp ik od bu le th mk ol tu ib sp so al br tr at_ iw ha se o) 0 := by
  refine Runs.go 4 (cs := []) (pc' := bif decide (¬ (N 6) = (N 6)) then 49 else 9) (pl' := [some (.ref 23), none]) (st' := []) (h' := (MP X c S bf 6 kp ik od bu le th mk ol tu ib sp so al br tr at_ iw ha se o)) rfl trivial ?_
  refine Runs.brF (decide_eq_false (by decide)) ?_
  refine Runs.go 2 (cs := []) (pc' := 11) (pl' := [some (.ref 23), some (.int (N 0))]) (st' := []) (h' := (MP X c S bf 6 kp ik od bu le th mk ol tu ib sp so al br tr at_ iw ha se o)) rfl trivial ?_
  refine Runs.wk (pl' := [some (.ref 23), some (.int (N 0))]) (st' := []) (h' := (MP X c S (fil 0 (fun k => bf (k + 63)) bf) 6 kp ik od bu le th mk ol tu ib sp so al br tr at_ iw ha se o)) ⟨Or.inr rfl, Or.inr rfl, trivial⟩ rfl (congrArg (fun z => (GP X c (aN S) (aN z) (N 6) (aN kp) (bI ik) (aN od) (aN bu) (N le) (N th) (aN mk) (aN ol) (N tu) (bI ib) (aN sp) (N so) (aN al) (aN br) (aN tr) (N at_) (bI iw) ha se o : PH)) (fil_0 _ _).symm) ?_
  refine Runs.loopN (fun i11 => [some (.ref 23), some (.int (N i11))]) (fun i11 => (MP X c S (fil i11 (fun k => bf (k + 63)) bf) 6 kp ik od bu le th mk ol tu ib sp so al br tr at_ iw ha se o)) (fun i11 => True) 315 trivial (fun i11 hi11 I1 K1 => ?_) (fun I1 => ?_)
  · show Runs _ _ 11 [some (.ref 23), some (.int (N i11))] [] (MP X c S (fil i11 (fun k => bf (k + 63)) bf) 6 kp ik od bu le th mk ol tu ib sp so al br tr at_ iw ha se o) _ _ _
    refine Runs.go 3 (cs := []) (pc' := bif decide ((N 315) ≤ (N i11)) then 39 else 18) (pl' := [some (.ref 23), some (.int (N i11))]) (st' := []) (h' := (MP X c S (fil i11 (fun k => bf (k + 63)) bf) 6 kp ik od bu le th mk ol tu ib sp so al br tr at_ iw ha se o)) rfl trivial ?_
    refine Runs.brF (decide_eq_false (fun zq9 => absurd ((N_le (a := 315) (b := i11) (by omega) (by omega)).mp zq9) (by omega))) ?_
    refine Runs.topI 8 (cs := []) (pc' := 31) (pl' := [some (.ref 23), some (.int (N i11))]) (v := (N 63) + (N i11)) (v' := N (i11 + 63)) (st' := [.ref 25, .int (N i11), .ref 25]) (h' := (MP X c S (fil i11 (fun k => bf (k + 63)) bf) 6 kp ik od bu le th mk ol tu ib sp so al br tr at_ iw ha se o)) rfl trivial (NA (by omega)) ?_
    refine Runs.topI 1 (cs := [vp_in (N (i11 + 63)) 378]) (pc' := 32) (pl' := [some (.ref 23), some (.int (N i11))]) (v := aN (fil i11 (fun k => bf (k + 63)) bf) (N (i11 + 63)).toNatClampNeg) (v' := N (bf (i11 + 63))) (st' := [.int (N i11), .ref 25]) (h' := (MP X c S (fil i11 (fun k => bf (k + 63)) bf) 6 kp ik od bu le th mk ol tu ib sp so al br tr at_ iw ha se o)) rfl ⟨(N_in (by omega) (by decide)), trivial⟩ ((aN_at (by omega)).trans (congrArg N (fil_ge (by omega)))) ?_
    refine Runs.goH 1 (cs := [vp_in (N i11) 378]) (pc' := 33) (pl' := [some (.ref 23), some (.int (N i11))]) (st' := []) (h1 := (GP X c (aN S) (upd (aN (fil i11 (fun k => bf (k + 63)) bf)) (N i11).toNatClampNeg (N (bf (i11 + 63)))) (N 6) (aN kp) (bI ik) (aN od) (aN bu) (N le) (N th) (aN mk) (aN ol) (N tu) (bI ib) (aN sp) (N so) (aN al) (aN br) (aN tr) (N at_) (bI iw) ha se o)) (h' := (MP X c S (fil (i11 + 1) (fun k => bf (k + 63)) bf) 6 kp ik od bu le th mk ol tu ib sp so al br tr at_ iw ha se o)) rfl ⟨(N_in (by omega) (by decide)), trivial⟩ (congrArg (fun zq9 => (GP X c (aN S) zq9 (N 6) (aN kp) (bI ik) (aN od) (aN bu) (N le) (N th) (aN mk) (aN ol) (N tu) (bI ib) (aN sp) (N so) (aN al) (aN br) (aN tr) (N at_) (bI iw) ha se o)) ((aN_up (by omega)).trans (congrArg aN (upn_fil rfl)))) ?_
    refine Runs.goL 1 (cs := []) (pc' := 36) (pl1 := [some (.ref 23), some (.int (N i11 + N 1))]) (pl' := [some (.ref 23), some (.int (N (i11 + 1)))]) (st' := []) (h' := (MP X c S (fil (i11 + 1) (fun k => bf (k + 63)) bf) 6 kp ik od bu le th mk ol tu ib sp so al br tr at_ iw ha se o)) rfl trivial (congrArg (fun zq9 => ([some (.ref 23), some (.int zq9)] : PL)) (NA (by omega))) ?_
    refine Runs.go 1 (cs := []) (pc' := 11) (pl' := [some (.ref 23), some (.int (N (i11 + 1)))]) (st' := []) (h' := (MP X c S (fil (i11 + 1) (fun k => bf (k + 63)) bf) 6 kp ik od bu le th mk ol tu ib sp so al br tr at_ iw ha se o)) rfl trivial ?_
    exact Runs.wk (pl' := [some (.ref 23), some (.int (N (i11 + 1)))]) (st' := []) (h' := (MP X c S (fil (i11 + 1) (fun k => bf (k + 63)) bf) 6 kp ik od bu le th mk ol tu ib sp so al br tr at_ iw ha se o)) ⟨Or.inr rfl, Or.inr rfl, trivial⟩ rfl rfl (K1 trivial)
  · show Runs _ _ 11 _ [] _ _ _ _
    show Runs _ _ 11 [some (.ref 23), some (.int (N 315))] [] (MP X c S (fil 315 (fun k => bf (k + 63)) bf) 6 kp ik od bu le th mk ol tu ib sp so al br tr at_ iw ha se o) _ _ _
    refine Runs.go 3 (cs := []) (pc' := bif decide ((N 315) ≤ (N 315)) then 39 else 18) (pl' := [some (.ref 23), some (.int (N 315))]) (st' := []) (h' := (MP X c S (fil 315 (fun k => bf (k + 63)) bf) 6 kp ik od bu le th mk ol tu ib sp so al br tr at_ iw ha se o)) rfl trivial ?_
    refine Runs.brT (decide_eq_true (by decide)) ?_
    refine Runs.topI 5 (cs := []) (pc' := 46) (pl' := [some (.ref 23), some (.int (N 315))]) (v := (N 6) - (N 1)) (v' := N 5) (st' := [.ref 23]) (h' := (MP X c S (fil 315 (fun k => bf (k + 63)) bf) 6 kp ik od bu le th mk ol tu ib sp so al br tr at_ iw ha se o)) rfl trivial (NS (by omega)) ?_
    refine Runs.go 3 (cs := []) (pc' := 51) (pl' := [some (.ref 23), some (.int (N 0))]) (st' := []) (h' := (MP X c S (fil 315 (fun k => bf (k + 63)) bf) 5 kp ik od bu le th mk ol tu ib sp so al br tr at_ iw ha se o)) rfl trivial ?_
    refine Runs.wk (pl' := [some (.ref 23), some (.int (N 0))]) (st' := []) (h' := (MP X c S (putN (315) 0 S (dnB bf)) 5 kp ik od bu le th mk ol tu ib sp so al br tr at_ iw ha se o)) ⟨Or.inr rfl, Or.inr rfl, trivial⟩ rfl (congrArg (fun z => (GP X c (aN S) (aN z) (N 5) (aN kp) (bI ik) (aN od) (aN bu) (N le) (N th) (aN mk) (aN ol) (N tu) (bI ib) (aN sp) (N so) (aN al) (aN br) (aN tr) (N at_) (bI iw) ha se o : PH)) put_0.symm) ?_
    refine Runs.loopN (fun i51 => [some (.ref 23), some (.int (N i51))]) (fun i51 => (MP X c S (putN (315) i51 S (dnB bf)) 5 kp ik od bu le th mk ol tu ib sp so al br tr at_ iw ha se o)) (fun i51 => True) 63 trivial (fun i51 hi51 I51 K51 => ?_) (fun I51 => ?_)
    · show Runs _ _ 51 [some (.ref 23), some (.int (N i51))] [] (MP X c S (putN (315) i51 S (dnB bf)) 5 kp ik od bu le th mk ol tu ib sp so al br tr at_ iw ha se o) _ _ _
      refine Runs.go 3 (cs := []) (pc' := bif decide ((N 63) ≤ (N i51)) then 83 else 57) (pl' := [some (.ref 23), some (.int (N i51))]) (st' := []) (h' := (MP X c S (putN (315) i51 S (dnB bf)) 5 kp ik od bu le th mk ol tu ib sp so al br tr at_ iw ha se o)) rfl trivial ?_
      refine Runs.brF (decide_eq_false (fun zq9 => absurd ((N_le (a := 63) (b := i51) (by omega) (by omega)).mp zq9) (by omega))) ?_
      refine Runs.topI 6 (cs := []) (pc' := 68) (pl' := [some (.ref 23), some (.int (N i51))]) (v := (N 63) * (N 5)) (v' := N 315) (st' := [.ref 25]) (h' := (MP X c S (putN (315) i51 S (dnB bf)) 5 kp ik od bu le th mk ol tu ib sp so al br tr at_ iw ha se o)) rfl trivial (NM (by omega)) ?_
      refine Runs.topI 2 (cs := []) (pc' := 70) (pl' := [some (.ref 23), some (.int (N i51))]) (v := (N 315) + (N i51)) (v' := N (i51 + 315)) (st' := [.ref 25]) (h' := (MP X c S (putN (315) i51 S (dnB bf)) 5 kp ik od bu le th mk ol tu ib sp so al br tr at_ iw ha se o)) rfl trivial (NA (by omega)) ?_
      refine Runs.topI 4 (cs := [vp_in (N i51) 63]) (pc' := 76) (pl' := [some (.ref 23), some (.int (N i51))]) (v := aN S (N i51).toNatClampNeg) (v' := N (S i51)) (st' := [.int (N (i51 + 315)), .ref 25]) (h' := (MP X c S (putN (315) i51 S (dnB bf)) 5 kp ik od bu le th mk ol tu ib sp so al br tr at_ iw ha se o)) rfl ⟨(N_in (by omega) (by decide)), trivial⟩ (aN_at (by omega)) ?_
      refine Runs.goH 1 (cs := [vp_in (N (i51 + 315)) 378]) (pc' := 77) (pl' := [some (.ref 23), some (.int (N i51))]) (st' := []) (h1 := (GP X c (aN S) (upd (aN (putN (315) i51 S (dnB bf))) (N (i51 + 315)).toNatClampNeg (N (S i51))) (N 5) (aN kp) (bI ik) (aN od) (aN bu) (N le) (N th) (aN mk) (aN ol) (N tu) (bI ib) (aN sp) (N so) (aN al) (aN br) (aN tr) (N at_) (bI iw) ha se o)) (h' := (MP X c S (putN (315) (i51 + 1) S (dnB bf)) 5 kp ik od bu le th mk ol tu ib sp so al br tr at_ iw ha se o)) rfl ⟨(N_in (by omega) (by decide)), trivial⟩ (congrArg (fun zq9 => (GP X c (aN S) zq9 (N 5) (aN kp) (bI ik) (aN od) (aN bu) (N le) (N th) (aN mk) (aN ol) (N tu) (bI ib) (aN sp) (N so) (aN al) (aN br) (aN tr) (N at_) (bI iw) ha se o)) ((aN_up (by omega)).trans (congrArg aN (upn_put' (by omega) rfl)))) ?_
      refine Runs.goL 1 (cs := []) (pc' := 80) (pl1 := [some (.ref 23), some (.int (N i51 + N 1))]) (pl' := [some (.ref 23), some (.int (N (i51 + 1)))]) (st' := []) (h' := (MP X c S (putN (315) (i51 + 1) S (dnB bf)) 5 kp ik od bu le th mk ol tu ib sp so al br tr at_ iw ha se o)) rfl trivial (congrArg (fun zq9 => ([some (.ref 23), some (.int zq9)] : PL)) (NA (by omega))) ?_
      refine Runs.go 1 (cs := []) (pc' := 51) (pl' := [some (.ref 23), some (.int (N (i51 + 1)))]) (st' := []) (h' := (MP X c S (putN (315) (i51 + 1) S (dnB bf)) 5 kp ik od bu le th mk ol tu ib sp so al br tr at_ iw ha se o)) rfl trivial ?_
      exact Runs.wk (pl' := [some (.ref 23), some (.int (N (i51 + 1)))]) (st' := []) (h' := (MP X c S (putN (315) (i51 + 1) S (dnB bf)) 5 kp ik od bu le th mk ol tu ib sp so al br tr at_ iw ha se o)) ⟨Or.inr rfl, Or.inr rfl, trivial⟩ rfl rfl (K51 trivial)
    · show Runs _ _ 51 _ [] _ _ _ _
      show Runs _ _ 51 [some (.ref 23), some (.int (N 63))] [] (MP X c S (putN (315) 63 S (dnB bf)) 5 kp ik od bu le th mk ol tu ib sp so al br tr at_ iw ha se o) _ _ _
      refine Runs.go 3 (cs := []) (pc' := bif decide ((N 63) ≤ (N 63)) then 83 else 57) (pl' := [some (.ref 23), some (.int (N 63))]) (st' := []) (h' := (MP X c S (putN (315) 63 S (dnB bf)) 5 kp ik od bu le th mk ol tu ib sp so al br tr at_ iw ha se o)) rfl trivial ?_
      refine Runs.brT (decide_eq_true (by decide)) ?_
      refine Runs.topI 5 (cs := []) (pc' := 90) (pl' := [some (.ref 23), some (.int (N 63))]) (v := (N 5) + (N 1)) (v' := N 6) (st' := [.ref 23]) (h' := (MP X c S (putN (315) 63 S (dnB bf)) 5 kp ik od bu le th mk ol tu ib sp so al br tr at_ iw ha se o)) rfl trivial (NA (by omega)) ?_
      refine Runs.go 1 (cs := []) (pc' := 93) (pl' := [some (.ref 23), some (.int (N 63))]) (st' := []) (h' := (MP X c S (putN (315) 63 S (dnB bf)) 6 kp ik od bu le th mk ol tu ib sp so al br tr at_ iw ha se o)) rfl trivial ?_
      exact Runs.retE (cs := []) rfl trivial rfl rfl
def sBf (kn : Nat) (S bf : Nat → Nat) : Nat → Nat := if kn = 6 then putN 315 63 S (dnB bf) else putN (63 * kn) 63 S bf
def sKn (kn : Nat) : Nat := if kn = 6 then 6 else kn + 1
theorem k_save {X : Nat × (Nat → Int32)} {c : CT} {S bf : Nat → Nat} {kn : Nat} {kp : Nat → Nat} {ik : Bool} {od bu : Nat → Nat} {le th : Nat} {mk ol : Nat → Nat} {tu : Nat} {ib : Bool} {sp : Nat → Nat} {so : Nat} {al br tr : Nat → Nat} {at_ : Nat} {iw : Bool} {ha : Int64} {se : Nat → Int32} {o : Nat → Int64} (hkn : kn ≤ 6) : Call 0 mX7_save [.ref 23] (MP X c S bf kn kp ik od bu le th mk ol tu ib sp so al br tr at_ iw ha se o) (.inl none) (MP X c S (sBf kn S bf) (sKn kn) kp ik od bu le th mk ol tu ib sp so al br tr at_ iw ha se o) 0 := by
  by_cases h6 : kn = 6
  · subst h6
    exact k_save_6
  · rw [sBf, sKn, if_neg h6, if_neg h6]
    exact k_save_lt (by omega)
/-- what is left at first, by items -/
def frS (S : Nat → Nat) : Nat → Nat := fun k => dif 15 (S (k + 49))
theorem k_begins {X : Nat × (Nat → Int32)} {c : CT} {S bf : Nat → Nat} {kn : Nat} {kp : Nat → Nat} {ik : Bool} {od bu : Nat → Nat} {le th : Nat} {mk ol : Nat → Nat} {tu : Nat} {ib : Bool} {sp : Nat → Nat} {so : Nat} {al br tr : Nat → Nat} {at_ : Nat} {iw : Bool} {ha : Int64} {se : Nat → Int32} {o : Nat → Int64} (hS : ∀ j, j < 61 → S j < 16) : Call 0 mX7_begins [.ref 23] (MP X c S bf kn kp ik od bu le th mk ol tu ib sp so al br tr at_ iw ha se o) (.inl none) (MP X c S bf kn kp ik od bu le th (fil 12 (frS S) mk) (fil 12 (frS S) ol) tu ib sp so al br tr at_ iw ha se o) 0 := by
  refine Runs.go 2 (cs := []) (pc' := 2) (pl' := [some (.ref 23), some (.int (N 0))]) (st' := []) (h' := (MP X c S bf kn kp ik od bu le th mk ol tu ib sp so al br tr at_ iw ha se o)) rfl trivial ?_
  refine Runs.wk (pl' := [some (.ref 23), some (.int (N 0))]) (st' := []) (h' := (MP X c S bf kn kp ik od bu le th (fil 0 (frS S) mk) (fil 0 (frS S) ol) tu ib sp so al br tr at_ iw ha se o)) ⟨Or.inr rfl, Or.inr rfl, trivial⟩ rfl (by rw [fil_0, fil_0]) ?_
  refine Runs.loopN (fun i1 => [some (.ref 23), some (.int (N i1))]) (fun i1 => (MP X c S bf kn kp ik od bu le th (fil i1 (frS S) mk) (fil i1 (frS S) ol) tu ib sp so al br tr at_ iw ha se o)) (fun i1 => True) 12 trivial (fun i1 hi1 I1 K1 => ?_) (fun I1 => ?_)
  · show Runs _ _ 2 [some (.ref 23), some (.int (N i1))] [] (MP X c S bf kn kp ik od bu le th (fil i1 (frS S) mk) (fil i1 (frS S) ol) tu ib sp so al br tr at_ iw ha se o) _ _ _
    refine Runs.go 3 (cs := []) (pc' := bif decide ((N 12) ≤ (N i1)) then 46 else 8) (pl' := [some (.ref 23), some (.int (N i1))]) (st' := []) (h' := (MP X c S bf kn kp ik od bu le th (fil i1 (frS S) mk) (fil i1 (frS S) ol) tu ib sp so al br tr at_ iw ha se o)) rfl trivial ?_
    refine Runs.brF (decide_eq_false (fun zq9 => absurd ((N_le (a := 12) (b := i1) (by omega) (by omega)).mp zq9) (by omega))) ?_
    refine Runs.topI 9 (cs := []) (pc' := 23) (pl' := [some (.ref 23), some (.int (N i1))]) (v := (N 49) + (N i1)) (v' := N (i1 + 49)) (st' := [.ref 24, .int (N 15), .int (N i1), .ref 29]) (h' := (MP X c S bf kn kp ik od bu le th (fil i1 (frS S) mk) (fil i1 (frS S) ol) tu ib sp so al br tr at_ iw ha se o)) rfl trivial (NA (by omega)) ?_
    refine Runs.topI 1 (cs := [vp_in (N (i1 + 49)) 63]) (pc' := 24) (pl' := [some (.ref 23), some (.int (N i1))]) (v := aN S (N (i1 + 49)).toNatClampNeg) (v' := N (S (i1 + 49))) (st' := [.int (N 15), .int (N i1), .ref 29]) (h' := (MP X c S bf kn kp ik od bu le th (fil i1 (frS S) mk) (fil i1 (frS S) ol) tu ib sp so al br tr at_ iw ha se o)) rfl ⟨(N_in (by omega) (by decide)), trivial⟩ (aN_at (by omega)) ?_
    refine Runs.topI 3 (cs := []) (pc' := 27) (pl' := [some (.ref 23), some (.int (N i1))]) (v := (N 15) &&& ((N (S (i1 + 49))) ^^^ (-1 : Int32))) (v' := N (dif 15 (S (i1 + 49)))) (st' := [.int (N i1), .ref 29]) (h' := (MP X c S bf kn kp ik od bu le th (fil i1 (frS S) mk) (fil i1 (frS S) ol) tu ib sp so al br tr at_ iw ha se o)) rfl trivial (N_dif _ _) ?_
    refine Runs.goH 1 (cs := [vp_in (N i1) 12]) (pc' := 28) (pl' := [some (.ref 23), some (.int (N i1))]) (st' := []) (h1 := (GP X c (aN S) (aN bf) (N kn) (aN kp) (bI ik) (aN od) (aN bu) (N le) (N th) (upd (aN (fil i1 (frS S) mk)) (N i1).toNatClampNeg (N (dif 15 (S (i1 + 49))))) (aN (fil i1 (frS S) ol)) (N tu) (bI ib) (aN sp) (N so) (aN al) (aN br) (aN tr) (N at_) (bI iw) ha se o)) (h' := (MP X c S bf kn kp ik od bu le th (fil (i1 + 1) (frS S) mk) (fil i1 (frS S) ol) tu ib sp so al br tr at_ iw ha se o)) rfl ⟨(N_in (by omega) (by decide)), trivial⟩ (congrArg (fun zq9 => (GP X c (aN S) (aN bf) (N kn) (aN kp) (bI ik) (aN od) (aN bu) (N le) (N th) zq9 (aN (fil i1 (frS S) ol)) (N tu) (bI ib) (aN sp) (N so) (aN al) (aN br) (aN tr) (N at_) (bI iw) ha se o)) ((aN_up (by omega)).trans (congrArg aN (upn_fil rfl)))) ?_
    refine Runs.topI 7 (cs := [vp_in (N i1) 12]) (pc' := 39) (pl' := [some (.ref 23), some (.int (N i1))]) (v := aN (fil (i1 + 1) (frS S) mk) (N i1).toNatClampNeg) (v' := N (dif 15 (S (i1 + 49)))) (st' := [.int (N i1), .ref 30]) (h' := (MP X c S bf kn kp ik od bu le th (fil (i1 + 1) (frS S) mk) (fil i1 (frS S) ol) tu ib sp so al br tr at_ iw ha se o)) rfl ⟨(N_in (by omega) (by decide)), trivial⟩ ((aN_at (by omega)).trans (congrArg N (fil_lt (by omega)))) ?_
    refine Runs.goH 1 (cs := [vp_in (N i1) 12]) (pc' := 40) (pl' := [some (.ref 23), some (.int (N i1))]) (st' := []) (h1 := (GP X c (aN S) (aN bf) (N kn) (aN kp) (bI ik) (aN od) (aN bu) (N le) (N th) (aN (fil (i1 + 1) (frS S) mk)) (upd (aN (fil i1 (frS S) ol)) (N i1).toNatClampNeg (N (dif 15 (S (i1 + 49))))) (N tu) (bI ib) (aN sp) (N so) (aN al) (aN br) (aN tr) (N at_) (bI iw) ha se o)) (h' := (MP X c S bf kn kp ik od bu le th (fil (i1 + 1) (frS S) mk) (fil (i1 + 1) (frS S) ol) tu ib sp so al br tr at_ iw ha se o)) rfl ⟨(N_in (by omega) (by decide)), trivial⟩ (congrArg (fun zq9 => (GP X c (aN S) (aN bf) (N kn) (aN kp) (bI ik) (aN od) (aN bu) (N le) (N th) (aN (fil (i1 + 1) (frS S) mk)) zq9 (N tu) (bI ib) (aN sp) (N so) (aN al) (aN br) (aN tr) (N at_) (bI iw) ha se o)) ((aN_up (by omega)).trans (congrArg aN (upn_fil rfl)))) ?_
    refine Runs.goL 1 (cs := []) (pc' := 43) (pl1 := [some (.ref 23), some (.int (N i1 + N 1))]) (pl' := [some (.ref 23), some (.int (N (i1 + 1)))]) (st' := []) (h' := (MP X c S bf kn kp ik od bu le th (fil (i1 + 1) (frS S) mk) (fil (i1 + 1) (frS S) ol) tu ib sp so al br tr at_ iw ha se o)) rfl trivial (congrArg (fun zq9 => ([some (.ref 23), some (.int zq9)] : PL)) (NA (by omega))) ?_
    refine Runs.go 1 (cs := []) (pc' := 2) (pl' := [some (.ref 23), some (.int (N (i1 + 1)))]) (st' := []) (h' := (MP X c S bf kn kp ik od bu le th (fil (i1 + 1) (frS S) mk) (fil (i1 + 1) (frS S) ol) tu ib sp so al br tr at_ iw ha se o)) rfl trivial ?_
    exact Runs.wk (pl' := [some (.ref 23), some (.int (N (i1 + 1)))]) (st' := []) (h' := (MP X c S bf kn kp ik od bu le th (fil (i1 + 1) (frS S) mk) (fil (i1 + 1) (frS S) ol) tu ib sp so al br tr at_ iw ha se o)) ⟨Or.inr rfl, Or.inr rfl, trivial⟩ rfl rfl (K1 trivial)
  · show Runs _ _ 2 _ [] _ _ _ _
    show Runs _ _ 2 [some (.ref 23), some (.int (N 12))] [] (MP X c S bf kn kp ik od bu le th (fil 12 (frS S) mk) (fil 12 (frS S) ol) tu ib sp so al br tr at_ iw ha se o) _ _ _
    refine Runs.go 3 (cs := []) (pc' := bif decide ((N 12) ≤ (N 12)) then 46 else 8) (pl' := [some (.ref 23), some (.int (N 12))]) (st' := []) (h' := (MP X c S bf kn kp ik od bu le th (fil 12 (frS S) mk) (fil 12 (frS S) ol) tu ib sp so al br tr at_ iw ha se o)) rfl trivial ?_
    refine Runs.brT (decide_eq_true (by decide)) ?_
    exact Runs.retE (cs := []) rfl trivial rfl rfl
def ofB (S : Nat → Nat) (k it : Nat) : Bool := decide (itmI S k 0 = N it) || decide (itmI S k 1 = N it) || decide (itmI S k 2 = N it)
theorem k_isOf {X : Nat × (Nat → Int32)} {c : CT} {S bf : Nat → Nat} {kn : Nat} {kp : Nat → Nat} {ik : Bool} {od bu : Nat → Nat} {le th : Nat} {mk ol : Nat → Nat} {tu : Nat} {ib : Bool} {sp : Nat → Nat} {so : Nat} {al br tr : Nat → Nat} {at_ : Nat} {iw : Bool} {ha : Int64} {se : Nat → Int32} {o : Nat → Int64} {k it : Nat} (hS : ∀ j, j < 61 → S j < 16) (hk : k < 12) : Call 2 mX7_isOf [.ref 23, .int (N k), .int (N it)] (MP X c S bf kn kp ik od bu le th mk ol tu ib sp so al br tr at_ iw ha se o) (.inl (some (.int (bI (ofB S k it))))) (MP X c S bf kn kp ik od bu le th mk ol tu ib sp so al br tr at_ iw ha se o) 0 := by
  refine Runs.go 3 (cs := []) (pc' := 3) (pl' := [some (.ref 23), some (.int (N k)), some (.int (N it))]) (st' := [.int (N 0), .int (N k), .ref 23]) (h' := (MP X c S bf kn kp ik od bu le th mk ol tu ib sp so al br tr at_ iw ha se o)) rfl trivial ?_
  refine Runs.cal (y := mX7_item) (as := [.ref 23, .int (N k), .int (N 0)]) (rest := []) (pc' := 6) (cs := []) (v := some (.int (itmI S k 0))) (h1 := (MP X c S bf kn kp ik od bu le th mk ol tu ib sp so al br tr at_ iw ha se o)) rfl trivial (by decide) (k_item hS (by omega) (by omega)) ?_
  show Runs _ _ 6 _ [.int (itmI S k 0)] _ _ _ _
  refine Runs.go 2 (cs := []) (pc' := bif decide ((itmI S k 0) = (N it)) then 30 else 10) (pl' := [some (.ref 23), some (.int (N k)), some (.int (N it))]) (st' := []) (h' := (MP X c S bf kn kp ik od bu le th mk ol tu ib sp so al br tr at_ iw ha se o)) rfl trivial ?_
  refine Runs.br (fun z1 => ?_) (fun z1 => ?_)
  · replace z1 : (itmI S k 0) = (N it) := Iff.rfl.mp (of_decide_eq_true z1)
    refine Runs.go 2 (cs := []) (pc' := 35) (pl' := [some (.ref 23), some (.int (N k)), some (.int (N it))]) (st' := [.int (N 1)]) (h' := (MP X c S bf kn kp ik od bu le th mk ol tu ib sp so al br tr at_ iw ha se o)) rfl trivial ?_
    refine Runs.retE (cs := [(N 1 : Int32) = 0 ∨ (N 1 : Int32) = 1]) rfl ⟨Or.inr rfl, trivial⟩ (retI (bIT ?_)) rfl
    simp [ofB, z1]
  · replace z1 : ¬ ((itmI S k 0) = (N it)) := mt Iff.rfl.mpr (of_decide_eq_false z1)
    refine Runs.go 3 (cs := []) (pc' := 13) (pl' := [some (.ref 23), some (.int (N k)), some (.int (N it))]) (st' := [.int (N 1), .int (N k), .ref 23]) (h' := (MP X c S bf kn kp ik od bu le th mk ol tu ib sp so al br tr at_ iw ha se o)) rfl trivial ?_
    refine Runs.cal (y := mX7_item) (as := [.ref 23, .int (N k), .int (N 1)]) (rest := []) (pc' := 16) (cs := []) (v := some (.int (itmI S k 1))) (h1 := (MP X c S bf kn kp ik od bu le th mk ol tu ib sp so al br tr at_ iw ha se o)) rfl trivial (by decide) (k_item hS (by omega) (by omega)) ?_
    show Runs _ _ 16 _ [.int (itmI S k 1)] _ _ _ _
    refine Runs.go 2 (cs := []) (pc' := bif decide ((itmI S k 1) = (N it)) then 30 else 20) (pl' := [some (.ref 23), some (.int (N k)), some (.int (N it))]) (st' := []) (h' := (MP X c S bf kn kp ik od bu le th mk ol tu ib sp so al br tr at_ iw ha se o)) rfl trivial ?_
    refine Runs.br (fun z2 => ?_) (fun z2 => ?_)
    · replace z2 : (itmI S k 1) = (N it) := Iff.rfl.mp (of_decide_eq_true z2)
      refine Runs.go 2 (cs := []) (pc' := 35) (pl' := [some (.ref 23), some (.int (N k)), some (.int (N it))]) (st' := [.int (N 1)]) (h' := (MP X c S bf kn kp ik od bu le th mk ol tu ib sp so al br tr at_ iw ha se o)) rfl trivial ?_
      refine Runs.retE (cs := [(N 1 : Int32) = 0 ∨ (N 1 : Int32) = 1]) rfl ⟨Or.inr rfl, trivial⟩ (retI (bIT ?_)) rfl
      first | (exfalso; omega) | (simp [ofB, z1, z2])
    · replace z2 : ¬ ((itmI S k 1) = (N it)) := mt Iff.rfl.mpr (of_decide_eq_false z2)
      refine Runs.go 3 (cs := []) (pc' := 23) (pl' := [some (.ref 23), some (.int (N k)), some (.int (N it))]) (st' := [.int (N 2), .int (N k), .ref 23]) (h' := (MP X c S bf kn kp ik od bu le th mk ol tu ib sp so al br tr at_ iw ha se o)) rfl trivial ?_
      refine Runs.cal (y := mX7_item) (as := [.ref 23, .int (N k), .int (N 2)]) (rest := []) (pc' := 26) (cs := []) (v := some (.int (itmI S k 2))) (h1 := (MP X c S bf kn kp ik od bu le th mk ol tu ib sp so al br tr at_ iw ha se o)) rfl trivial (by decide) (k_item hS (by omega) (by omega)) ?_
      show Runs _ _ 26 _ [.int (itmI S k 2)] _ _ _ _
      refine Runs.go 2 (cs := []) (pc' := bif decide (¬ (itmI S k 2) = (N it)) then 34 else 30) (pl' := [some (.ref 23), some (.int (N k)), some (.int (N it))]) (st' := []) (h' := (MP X c S bf kn kp ik od bu le th mk ol tu ib sp so al br tr at_ iw ha se o)) rfl trivial ?_
      refine Runs.br (fun z3 => ?_) (fun z3 => ?_)
      · replace z3 : ¬ ((itmI S k 2) = (N it)) := mt Iff.rfl.mpr (of_decide_eq_true z3)
        refine Runs.go 1 (cs := []) (pc' := 35) (pl' := [some (.ref 23), some (.int (N k)), some (.int (N it))]) (st' := [.int (N 0)]) (h' := (MP X c S bf kn kp ik od bu le th mk ol tu ib sp so al br tr at_ iw ha se o)) rfl trivial ?_
        refine Runs.retE (cs := [(N 0 : Int32) = 0 ∨ (N 0 : Int32) = 1]) rfl ⟨Or.inl rfl, trivial⟩ (retI (bIF ?_)) rfl
        first | (exfalso; omega) | (simp [ofB, z1, z2, z3])
      · replace z3 : (itmI S k 2) = (N it) := Iff.rfl.mp (Classical.not_not.mp (of_decide_eq_false z3))
        refine Runs.go 2 (cs := []) (pc' := 35) (pl' := [some (.ref 23), some (.int (N k)), some (.int (N it))]) (st' := [.int (N 1)]) (h' := (MP X c S bf kn kp ik od bu le th mk ol tu ib sp so al br tr at_ iw ha se o)) rfl trivial ?_
        refine Runs.retE (cs := [(N 1 : Int32) = 0 ∨ (N 1 : Int32) = 1]) rfl ⟨Or.inr rfl, trivial⟩ (retI (bIT ?_)) rfl
        first | (exfalso; omega) | (simp [ofB, z1, z2, z3])
