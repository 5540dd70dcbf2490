/-! THE CLASS: how it reads a text (gen_f1.py) -/
theorem N_i2b {v : Nat} (h : v < 127) : (N v).toInt8.toInt32 = N v := by
  revert h
  revert v
  decide +kernel
def sgI (v : Nat) : Int32 := if isSg v = true then N (soN v) else -1
theorem j_coder {X : Nat × (Nat → Int32)} {cl : Nat → Nat} {cn cx ma ru : Nat} {sn : SV} {sg : Nat → Option Nat} {sv : Nat → SV} {cd : Nat → Nat} {ln pe pr : Nat} {ba : Nat → Nat} {fo us : Nat} {fr : Bool} {sc : Nat} {hs : Bool} {m : MT} {o : Nat → Int64} : Call 0 mJ0_coder_7d493 [.ref 1002] (KP X cl cn cx ma ru sn sg sv cd ln pe pr ba fo us fr sc hs m o) (.inl (some (.int (N 0)))) (KP X cl cn cx ma ru sn sg sv cd ln pe pr ba fo us fr sc hs m o) 0 := by
  refine Runs.go 2 (cs := []) (pc' := bif decide ((N 1) = 0) then 13 else 6) (pl' := [some (.ref 1002)]) (st' := []) (h' := (KP X cl cn cx ma ru sn sg sv cd ln pe pr ba fo us fr sc hs m o)) rfl trivial ?_
  refine Runs.brF (decide_eq_false (by decide)) ?_
  refine Runs.go 3 (cs := []) (pc' := 14) (pl' := [some (.ref 1002)]) (st' := [.int (N 0)]) (h' := (KP X cl cn cx ma ru sn sg sv cd ln pe pr ba fo us fr sc hs m o)) rfl trivial ?_
  exact Runs.retE (cs := [(N 0 : Int32) = 0]) rfl ⟨rfl, trivial⟩ (retI rfl) rfl
theorem j_isLatin1 {X : Nat × (Nat → Int32)} {cl : Nat → Nat} {cn cx ma ru : Nat} {sn : SV} {sg : Nat → Option Nat} {sv : Nat → SV} {cd : Nat → Nat} {ln pe pr : Nat} {ba : Nat → Nat} {fo us : Nat} {fr : Bool} {sc : Nat} {hs : Bool} {m : MT} {o : Nat → Int64} : Call 0 mJ0_isLatin1_aae02 [.ref 1002] (KP X cl cn cx ma ru sn sg sv cd ln pe pr ba fo us fr sc hs m o) (.inl (some (.int (N 1)))) (KP X cl cn cx ma ru sn sg sv cd ln pe pr ba fo us fr sc hs m o) 0 := by
  refine Runs.go 2 (cs := []) (pc' := bif decide ((N 1) = 0) then 17 else 6) (pl' := [some (.ref 1002)]) (st' := []) (h' := (KP X cl cn cx ma ru sn sg sv cd ln pe pr ba fo us fr sc hs m o)) rfl trivial ?_
  refine Runs.brF (decide_eq_false (by decide)) ?_
  refine Runs.go 3 (cs := []) (pc' := bif decide (¬ (N 0) = 0) then 17 else 13) (pl' := [some (.ref 1002)]) (st' := []) (h' := (KP X cl cn cx ma ru sn sg sv cd ln pe pr ba fo us fr sc hs m o)) rfl trivial ?_
  refine Runs.brF (decide_eq_false (by decide)) ?_
  refine Runs.go 2 (cs := []) (pc' := 18) (pl' := [some (.ref 1002)]) (st' := [.int (N 1)]) (h' := (KP X cl cn cx ma ru sn sg sv cd ln pe pr ba fo us fr sc hs m o)) rfl trivial ?_
  exact Runs.retE (cs := [(N 1 : Int32) = 0 ∨ (N 1 : Int32) = 1]) rfl ⟨Or.inr rfl, trivial⟩ rfl rfl
theorem j_length {X : Nat × (Nat → Int32)} {cl : Nat → Nat} {cn cx ma ru : Nat} {sn : SV} {sg : Nat → Option Nat} {sv : Nat → SV} {cd : Nat → Nat} {ln pe pr : Nat} {ba : Nat → Nat} {fo us : Nat} {fr : Bool} {sc : Nat} {hs : Bool} {m : MT} {o : Nat → Int64} : Call 1 mJ0_length_8abf5 [.ref 1002] (KP X cl cn cx ma ru sn sg sv cd ln pe pr ba fo us fr sc hs m o) (.inl (some (.int (N 7)))) (KP X cl cn cx ma ru sn sg sv cd ln pe pr ba fo us fr sc hs m o) 0 := by
  refine Runs.go 4 (cs := []) (pc' := 6) (pl' := [some (.ref 1002)]) (st' := [.ref 1002, .int (N 7)]) (h' := (KP X cl cn cx ma ru sn sg sv cd ln pe pr ba fo us fr sc hs m o)) rfl trivial ?_
  refine Runs.cal (y := mJ0_coder_7d493) (as := [.ref 1002]) (rest := [.int (N 7)]) (pc' := 9) (cs := []) (v := some (.int (N 0))) (h1 := (KP X cl cn cx ma ru sn sg sv cd ln pe pr ba fo us fr sc hs m o)) rfl trivial (by decide) (j_coder) ?_
  show Runs _ _ 9 _ [.int (N 0), .int (N 7)] _ _ _ _
  refine Runs.topI 1 (cs := []) (pc' := 10) (pl' := [some (.ref 1002)]) (v := (N 7) >>> (N 0 &&& 31)) (v' := N 7) (st' := []) (h' := (KP X cl cn cx ma ru sn sg sv cd ln pe pr ba fo us fr sc hs m o)) rfl trivial (by decide) ?_
  exact Runs.retE (cs := []) rfl trivial (retI rfl) rfl
theorem j_canEncode {X : Nat × (Nat → Int32)} {cl : Nat → Nat} {cn cx ma ru : Nat} {sn : SV} {sg : Nat → Option Nat} {sv : Nat → SV} {cd : Nat → Nat} {ln pe pr : Nat} {ba : Nat → Nat} {fo us : Nat} {fr : Bool} {sc : Nat} {hs : Bool} {m : MT} {o : Nat → Int64} {v : Nat} (hv : v < 127) : Call 0 mJ1_canEncode_9a6ad [.int (N v)] (KP X cl cn cx ma ru sn sg sv cd ln pe pr ba fo us fr sc hs m o) (.inl (some (.int (N 1)))) (KP X cl cn cx ma ru sn sg sv cd ln pe pr ba fo us fr sc hs m o) 0 := by
  refine Runs.go 2 (cs := []) (pc' := bif decide ((N v) < 0) then 15 else 4) (pl' := [some (.int (N v))]) (st' := []) (h' := (KP X cl cn cx ma ru sn sg sv cd ln pe pr ba fo us fr sc hs m o)) rfl trivial ?_
  refine Runs.brF (decide_eq_false (fun zq9 => absurd ((N_lt (a := v) (b := 0) (by omega) (by omega)).mp zq9) (by omega))) ?_
  refine Runs.go 3 (cs := []) (pc' := bif decide ((N 255) < (N v)) then 15 else 11) (pl' := [some (.int (N v))]) (st' := []) (h' := (KP X cl cn cx ma ru sn sg sv cd ln pe pr ba fo us fr sc hs m o)) rfl trivial ?_
  refine Runs.brF (decide_eq_false (fun zq9 => absurd ((N_lt (a := 255) (b := v) (by omega) (by omega)).mp zq9) (by omega))) ?_
  refine Runs.go 2 (cs := []) (pc' := 16) (pl' := [some (.int (N v))]) (st' := [.int (N 1)]) (h' := (KP X cl cn cx ma ru sn sg sv cd ln pe pr ba fo us fr sc hs m o)) rfl trivial ?_
  exact Runs.retE (cs := [(N 1 : Int32) = 0 ∨ (N 1 : Int32) = 1]) rfl ⟨Or.inr rfl, trivial⟩ rfl rfl
theorem j_indexOfChar {X : Nat × (Nat → Int32)} {cl : Nat → Nat} {cn cx ma ru : Nat} {sn : SV} {sg : Nat → Option Nat} {sv : Nat → SV} {cd : Nat → Nat} {ln pe pr : Nat} {ba : Nat → Nat} {fo us : Nat} {fr : Bool} {sc : Nat} {hs : Bool} {m : MT} {o : Nat → Int64} {v : Nat} (hv : v < 127) : Call 0 mJ1_indexOfChar_4cfef [.ref 1003, .int (N v), .int (N 0), .int (N 7)] (KP X cl cn cx ma ru sn sg sv cd ln pe pr ba fo us fr sc hs m o) (.inl (some (.int (sgI v)))) (KP X cl cn cx ma ru sn sg sv cd ln pe pr ba fo us fr sc hs m o) 0 := by
  refine Runs.topI 2 (cs := []) (pc' := 2) (pl' := [some (.ref 1003), some (.int (N v)), some (.int (N 0)), some (.int (N 7)), none, none]) (v := (N v : Int32).toInt8.toInt32) (v' := N v) (st' := []) (h' := (KP X cl cn cx ma ru sn sg sv cd ln pe pr ba fo us fr sc hs m o)) rfl trivial (N_i2b (by omega)) ?_
  refine Runs.go 6 (cs := []) (pc' := bif decide ((N 7) ≤ (N 0)) then 31 else 13) (pl' := [some (.ref 1003), some (.int (N v)), some (.int (N 0)), some (.int (N 7)), some (.int (N v)), some (.int (N 0))]) (st' := []) (h' := (KP X cl cn cx ma ru sn sg sv cd ln pe pr ba fo us fr sc hs m o)) rfl trivial ?_
  refine Runs.brF (decide_eq_false (by decide)) ?_
  refine Runs.topI 3 (cs := [vp_in (N 0) 7]) (pc' := 17) (pl' := [some (.ref 1003), some (.int (N v)), some (.int (N 0)), some (.int (N 7)), some (.int (N v)), some (.int (N 0))]) (v := strB (N 0).toNatClampNeg) (v' := N 61) (st' := []) (h' := (KP X cl cn cx ma ru sn sg sv cd ln pe pr ba fo us fr sc hs m o)) rfl ⟨(N_in (by omega) (by decide)), trivial⟩ (by decide) ?_
  refine Runs.go 2 (cs := []) (pc' := bif decide (¬ (N 61) = (N v)) then 25 else 22) (pl' := [some (.ref 1003), some (.int (N v)), some (.int (N 0)), some (.int (N 7)), some (.int (N v)), some (.int (N 0))]) (st' := []) (h' := (KP X cl cn cx ma ru sn sg sv cd ln pe pr ba fo us fr sc hs m o)) rfl trivial ?_
  refine Runs.br (fun z1 => ?_) (fun z1 => ?_)
  · replace z1 : ¬ (61 = v) := mt (N_eq (a := 61) (b := v) (by omega) (by omega)).mpr (of_decide_eq_true z1)
    refine Runs.goL 1 (cs := []) (pc' := 28) (pl1 := [some (.ref 1003), some (.int (N v)), some (.int (N 0)), some (.int (N 7)), some (.int (N v)), some (.int (N 0 + N 1))]) (pl' := [some (.ref 1003), some (.int (N v)), some (.int (N 0)), some (.int (N 7)), some (.int (N v)), some (.int (N 1))]) (st' := []) (h' := (KP X cl cn cx ma ru sn sg sv cd ln pe pr ba fo us fr sc hs m o)) rfl trivial (congrArg (fun zq9 => ([some (.ref 1003), some (.int (N v)), some (.int (N 0)), some (.int (N 7)), some (.int (N v)), some (.int zq9)] : PL)) (NA (by omega))) ?_
    refine Runs.go 4 (cs := []) (pc' := bif decide ((N 7) ≤ (N 1)) then 31 else 13) (pl' := [some (.ref 1003), some (.int (N v)), some (.int (N 0)), some (.int (N 7)), some (.int (N v)), some (.int (N 1))]) (st' := []) (h' := (KP X cl cn cx ma ru sn sg sv cd ln pe pr ba fo us fr sc hs m o)) rfl trivial ?_
    refine Runs.brF (decide_eq_false (by decide)) ?_
    refine Runs.topI 3 (cs := [vp_in (N 1) 7]) (pc' := 17) (pl' := [some (.ref 1003), some (.int (N v)), some (.int (N 0)), some (.int (N 7)), some (.int (N v)), some (.int (N 1))]) (v := strB (N 1).toNatClampNeg) (v' := N 35) (st' := []) (h' := (KP X cl cn cx ma ru sn sg sv cd ln pe pr ba fo us fr sc hs m o)) rfl ⟨(N_in (by omega) (by decide)), trivial⟩ (by decide) ?_
    refine Runs.go 2 (cs := []) (pc' := bif decide (¬ (N 35) = (N v)) then 25 else 22) (pl' := [some (.ref 1003), some (.int (N v)), some (.int (N 0)), some (.int (N 7)), some (.int (N v)), some (.int (N 1))]) (st' := []) (h' := (KP X cl cn cx ma ru sn sg sv cd ln pe pr ba fo us fr sc hs m o)) rfl trivial ?_
    refine Runs.br (fun z2 => ?_) (fun z2 => ?_)
    · replace z2 : ¬ (35 = v) := mt (N_eq (a := 35) (b := v) (by omega) (by omega)).mpr (of_decide_eq_true z2)
      refine Runs.goL 1 (cs := []) (pc' := 28) (pl1 := [some (.ref 1003), some (.int (N v)), some (.int (N 0)), some (.int (N 7)), some (.int (N v)), some (.int (N 1 + N 1))]) (pl' := [some (.ref 1003), some (.int (N v)), some (.int (N 0)), some (.int (N 7)), some (.int (N v)), some (.int (N 2))]) (st' := []) (h' := (KP X cl cn cx ma ru sn sg sv cd ln pe pr ba fo us fr sc hs m o)) rfl trivial (congrArg (fun zq9 => ([some (.ref 1003), some (.int (N v)), some (.int (N 0)), some (.int (N 7)), some (.int (N v)), some (.int zq9)] : PL)) (NA (by omega))) ?_
      refine Runs.go 4 (cs := []) (pc' := bif decide ((N 7) ≤ (N 2)) then 31 else 13) (pl' := [some (.ref 1003), some (.int (N v)), some (.int (N 0)), some (.int (N 7)), some (.int (N v)), some (.int (N 2))]) (st' := []) (h' := (KP X cl cn cx ma ru sn sg sv cd ln pe pr ba fo us fr sc hs m o)) rfl trivial ?_
      refine Runs.brF (decide_eq_false (by decide)) ?_
      refine Runs.topI 3 (cs := [vp_in (N 2) 7]) (pc' := 17) (pl' := [some (.ref 1003), some (.int (N v)), some (.int (N 0)), some (.int (N 7)), some (.int (N v)), some (.int (N 2))]) (v := strB (N 2).toNatClampNeg) (v' := N 60) (st' := []) (h' := (KP X cl cn cx ma ru sn sg sv cd ln pe pr ba fo us fr sc hs m o)) rfl ⟨(N_in (by omega) (by decide)), trivial⟩ (by decide) ?_
      refine Runs.go 2 (cs := []) (pc' := bif decide (¬ (N 60) = (N v)) then 25 else 22) (pl' := [some (.ref 1003), some (.int (N v)), some (.int (N 0)), some (.int (N 7)), some (.int (N v)), some (.int (N 2))]) (st' := []) (h' := (KP X cl cn cx ma ru sn sg sv cd ln pe pr ba fo us fr sc hs m o)) rfl trivial ?_
      refine Runs.br (fun z3 => ?_) (fun z3 => ?_)
      · replace z3 : ¬ (60 = v) := mt (N_eq (a := 60) (b := v) (by omega) (by omega)).mpr (of_decide_eq_true z3)
        refine Runs.goL 1 (cs := []) (pc' := 28) (pl1 := [some (.ref 1003), some (.int (N v)), some (.int (N 0)), some (.int (N 7)), some (.int (N v)), some (.int (N 2 + N 1))]) (pl' := [some (.ref 1003), some (.int (N v)), some (.int (N 0)), some (.int (N 7)), some (.int (N v)), some (.int (N 3))]) (st' := []) (h' := (KP X cl cn cx ma ru sn sg sv cd ln pe pr ba fo us fr sc hs m o)) rfl trivial (congrArg (fun zq9 => ([some (.ref 1003), some (.int (N v)), some (.int (N 0)), some (.int (N 7)), some (.int (N v)), some (.int zq9)] : PL)) (NA (by omega))) ?_
        refine Runs.go 4 (cs := []) (pc' := bif decide ((N 7) ≤ (N 3)) then 31 else 13) (pl' := [some (.ref 1003), some (.int (N v)), some (.int (N 0)), some (.int (N 7)), some (.int (N v)), some (.int (N 3))]) (st' := []) (h' := (KP X cl cn cx ma ru sn sg sv cd ln pe pr ba fo us fr sc hs m o)) rfl trivial ?_
        refine Runs.brF (decide_eq_false (by decide)) ?_
        refine Runs.topI 3 (cs := [vp_in (N 3) 7]) (pc' := 17) (pl' := [some (.ref 1003), some (.int (N v)), some (.int (N 0)), some (.int (N 7)), some (.int (N v)), some (.int (N 3))]) (v := strB (N 3).toNatClampNeg) (v' := N 126) (st' := []) (h' := (KP X cl cn cx ma ru sn sg sv cd ln pe pr ba fo us fr sc hs m o)) rfl ⟨(N_in (by omega) (by decide)), trivial⟩ (by decide) ?_
        refine Runs.go 2 (cs := []) (pc' := bif decide (¬ (N 126) = (N v)) then 25 else 22) (pl' := [some (.ref 1003), some (.int (N v)), some (.int (N 0)), some (.int (N 7)), some (.int (N v)), some (.int (N 3))]) (st' := []) (h' := (KP X cl cn cx ma ru sn sg sv cd ln pe pr ba fo us fr sc hs m o)) rfl trivial ?_
        refine Runs.br (fun z4 => ?_) (fun z4 => ?_)
        · replace z4 : ¬ (126 = v) := mt (N_eq (a := 126) (b := v) (by omega) (by omega)).mpr (of_decide_eq_true z4)
          refine Runs.goL 1 (cs := []) (pc' := 28) (pl1 := [some (.ref 1003), some (.int (N v)), some (.int (N 0)), some (.int (N 7)), some (.int (N v)), some (.int (N 3 + N 1))]) (pl' := [some (.ref 1003), some (.int (N v)), some (.int (N 0)), some (.int (N 7)), some (.int (N v)), some (.int (N 4))]) (st' := []) (h' := (KP X cl cn cx ma ru sn sg sv cd ln pe pr ba fo us fr sc hs m o)) rfl trivial (congrArg (fun zq9 => ([some (.ref 1003), some (.int (N v)), some (.int (N 0)), some (.int (N 7)), some (.int (N v)), some (.int zq9)] : PL)) (NA (by omega))) ?_
          refine Runs.go 4 (cs := []) (pc' := bif decide ((N 7) ≤ (N 4)) then 31 else 13) (pl' := [some (.ref 1003), some (.int (N v)), some (.int (N 0)), some (.int (N 7)), some (.int (N v)), some (.int (N 4))]) (st' := []) (h' := (KP X cl cn cx ma ru sn sg sv cd ln pe pr ba fo us fr sc hs m o)) rfl trivial ?_
          refine Runs.brF (decide_eq_false (by decide)) ?_
          refine Runs.topI 3 (cs := [vp_in (N 4) 7]) (pc' := 17) (pl' := [some (.ref 1003), some (.int (N v)), some (.int (N 0)), some (.int (N 7)), some (.int (N v)), some (.int (N 4))]) (v := strB (N 4).toNatClampNeg) (v' := N 64) (st' := []) (h' := (KP X cl cn cx ma ru sn sg sv cd ln pe pr ba fo us fr sc hs m o)) rfl ⟨(N_in (by omega) (by decide)), trivial⟩ (by decide) ?_
          refine Runs.go 2 (cs := []) (pc' := bif decide (¬ (N 64) = (N v)) then 25 else 22) (pl' := [some (.ref 1003), some (.int (N v)), some (.int (N 0)), some (.int (N 7)), some (.int (N v)), some (.int (N 4))]) (st' := []) (h' := (KP X cl cn cx ma ru sn sg sv cd ln pe pr ba fo us fr sc hs m o)) rfl trivial ?_
          refine Runs.br (fun z5 => ?_) (fun z5 => ?_)
          · replace z5 : ¬ (64 = v) := mt (N_eq (a := 64) (b := v) (by omega) (by omega)).mpr (of_decide_eq_true z5)
            refine Runs.goL 1 (cs := []) (pc' := 28) (pl1 := [some (.ref 1003), some (.int (N v)), some (.int (N 0)), some (.int (N 7)), some (.int (N v)), some (.int (N 4 + N 1))]) (pl' := [some (.ref 1003), some (.int (N v)), some (.int (N 0)), some (.int (N 7)), some (.int (N v)), some (.int (N 5))]) (st' := []) (h' := (KP X cl cn cx ma ru sn sg sv cd ln pe pr ba fo us fr sc hs m o)) rfl trivial (congrArg (fun zq9 => ([some (.ref 1003), some (.int (N v)), some (.int (N 0)), some (.int (N 7)), some (.int (N v)), some (.int zq9)] : PL)) (NA (by omega))) ?_
            refine Runs.go 4 (cs := []) (pc' := bif decide ((N 7) ≤ (N 5)) then 31 else 13) (pl' := [some (.ref 1003), some (.int (N v)), some (.int (N 0)), some (.int (N 7)), some (.int (N v)), some (.int (N 5))]) (st' := []) (h' := (KP X cl cn cx ma ru sn sg sv cd ln pe pr ba fo us fr sc hs m o)) rfl trivial ?_
            refine Runs.brF (decide_eq_false (by decide)) ?_
            refine Runs.topI 3 (cs := [vp_in (N 5) 7]) (pc' := 17) (pl' := [some (.ref 1003), some (.int (N v)), some (.int (N 0)), some (.int (N 7)), some (.int (N v)), some (.int (N 5))]) (v := strB (N 5).toNatClampNeg) (v' := N 33) (st' := []) (h' := (KP X cl cn cx ma ru sn sg sv cd ln pe pr ba fo us fr sc hs m o)) rfl ⟨(N_in (by omega) (by decide)), trivial⟩ (by decide) ?_
            refine Runs.go 2 (cs := []) (pc' := bif decide (¬ (N 33) = (N v)) then 25 else 22) (pl' := [some (.ref 1003), some (.int (N v)), some (.int (N 0)), some (.int (N 7)), some (.int (N v)), some (.int (N 5))]) (st' := []) (h' := (KP X cl cn cx ma ru sn sg sv cd ln pe pr ba fo us fr sc hs m o)) rfl trivial ?_
            refine Runs.br (fun z6 => ?_) (fun z6 => ?_)
            · replace z6 : ¬ (33 = v) := mt (N_eq (a := 33) (b := v) (by omega) (by omega)).mpr (of_decide_eq_true z6)
              refine Runs.goL 1 (cs := []) (pc' := 28) (pl1 := [some (.ref 1003), some (.int (N v)), some (.int (N 0)), some (.int (N 7)), some (.int (N v)), some (.int (N 5 + N 1))]) (pl' := [some (.ref 1003), some (.int (N v)), some (.int (N 0)), some (.int (N 7)), some (.int (N v)), some (.int (N 6))]) (st' := []) (h' := (KP X cl cn cx ma ru sn sg sv cd ln pe pr ba fo us fr sc hs m o)) rfl trivial (congrArg (fun zq9 => ([some (.ref 1003), some (.int (N v)), some (.int (N 0)), some (.int (N 7)), some (.int (N v)), some (.int zq9)] : PL)) (NA (by omega))) ?_
              refine Runs.go 4 (cs := []) (pc' := bif decide ((N 7) ≤ (N 6)) then 31 else 13) (pl' := [some (.ref 1003), some (.int (N v)), some (.int (N 0)), some (.int (N 7)), some (.int (N v)), some (.int (N 6))]) (st' := []) (h' := (KP X cl cn cx ma ru sn sg sv cd ln pe pr ba fo us fr sc hs m o)) rfl trivial ?_
              refine Runs.brF (decide_eq_false (by decide)) ?_
              refine Runs.topI 3 (cs := [vp_in (N 6) 7]) (pc' := 17) (pl' := [some (.ref 1003), some (.int (N v)), some (.int (N 0)), some (.int (N 7)), some (.int (N v)), some (.int (N 6))]) (v := strB (N 6).toNatClampNeg) (v' := N 124) (st' := []) (h' := (KP X cl cn cx ma ru sn sg sv cd ln pe pr ba fo us fr sc hs m o)) rfl ⟨(N_in (by omega) (by decide)), trivial⟩ (by decide) ?_
              refine Runs.go 2 (cs := []) (pc' := bif decide (¬ (N 124) = (N v)) then 25 else 22) (pl' := [some (.ref 1003), some (.int (N v)), some (.int (N 0)), some (.int (N 7)), some (.int (N v)), some (.int (N 6))]) (st' := []) (h' := (KP X cl cn cx ma ru sn sg sv cd ln pe pr ba fo us fr sc hs m o)) rfl trivial ?_
              refine Runs.br (fun z7 => ?_) (fun z7 => ?_)
              · replace z7 : ¬ (124 = v) := mt (N_eq (a := 124) (b := v) (by omega) (by omega)).mpr (of_decide_eq_true z7)
                refine Runs.goL 1 (cs := []) (pc' := 28) (pl1 := [some (.ref 1003), some (.int (N v)), some (.int (N 0)), some (.int (N 7)), some (.int (N v)), some (.int (N 6 + N 1))]) (pl' := [some (.ref 1003), some (.int (N v)), some (.int (N 0)), some (.int (N 7)), some (.int (N v)), some (.int (N 7))]) (st' := []) (h' := (KP X cl cn cx ma ru sn sg sv cd ln pe pr ba fo us fr sc hs m o)) rfl trivial (congrArg (fun zq9 => ([some (.ref 1003), some (.int (N v)), some (.int (N 0)), some (.int (N 7)), some (.int (N v)), some (.int zq9)] : PL)) (NA (by omega))) ?_
                refine Runs.go 4 (cs := []) (pc' := bif decide ((N 7) ≤ (N 7)) then 31 else 13) (pl' := [some (.ref 1003), some (.int (N v)), some (.int (N 0)), some (.int (N 7)), some (.int (N v)), some (.int (N 7))]) (st' := []) (h' := (KP X cl cn cx ma ru sn sg sv cd ln pe pr ba fo us fr sc hs m o)) rfl trivial ?_
                refine Runs.brT (decide_eq_true (by decide)) ?_
                refine Runs.go 1 (cs := []) (pc' := 32) (pl' := [some (.ref 1003), some (.int (N v)), some (.int (N 0)), some (.int (N 7)), some (.int (N v)), some (.int (N 7))]) (st' := [.int (-1 : Int32)]) (h' := (KP X cl cn cx ma ru sn sg sv cd ln pe pr ba fo us fr sc hs m o)) rfl trivial ?_
                refine Runs.retE (cs := []) rfl trivial (retI ?_) rfl
                have hz : isSg v = false := by
                  unfold isSg
                  simp
                  omega
                exact if_neg (by rw [hz]; decide)
              · replace z7 : 124 = v := (N_eq (a := 124) (b := v) (by omega) (by omega)).mp (Classical.not_not.mp (of_decide_eq_false z7))
                refine Runs.go 1 (cs := []) (pc' := 24) (pl' := [some (.ref 1003), some (.int (N v)), some (.int (N 0)), some (.int (N 7)), some (.int (N v)), some (.int (N 6))]) (st' := [.int (N 6)]) (h' := (KP X cl cn cx ma ru sn sg sv cd ln pe pr ba fo us fr sc hs m o)) rfl trivial ?_
                refine Runs.retE (cs := []) rfl trivial (retI ?_) rfl
                rw [← z7]; rfl
            · replace z6 : 33 = v := (N_eq (a := 33) (b := v) (by omega) (by omega)).mp (Classical.not_not.mp (of_decide_eq_false z6))
              refine Runs.go 1 (cs := []) (pc' := 24) (pl' := [some (.ref 1003), some (.int (N v)), some (.int (N 0)), some (.int (N 7)), some (.int (N v)), some (.int (N 5))]) (st' := [.int (N 5)]) (h' := (KP X cl cn cx ma ru sn sg sv cd ln pe pr ba fo us fr sc hs m o)) rfl trivial ?_
              refine Runs.retE (cs := []) rfl trivial (retI ?_) rfl
              rw [← z6]; rfl
          · replace z5 : 64 = v := (N_eq (a := 64) (b := v) (by omega) (by omega)).mp (Classical.not_not.mp (of_decide_eq_false z5))
            refine Runs.go 1 (cs := []) (pc' := 24) (pl' := [some (.ref 1003), some (.int (N v)), some (.int (N 0)), some (.int (N 7)), some (.int (N v)), some (.int (N 4))]) (st' := [.int (N 4)]) (h' := (KP X cl cn cx ma ru sn sg sv cd ln pe pr ba fo us fr sc hs m o)) rfl trivial ?_
            refine Runs.retE (cs := []) rfl trivial (retI ?_) rfl
            rw [← z5]; rfl
        · replace z4 : 126 = v := (N_eq (a := 126) (b := v) (by omega) (by omega)).mp (Classical.not_not.mp (of_decide_eq_false z4))
          refine Runs.go 1 (cs := []) (pc' := 24) (pl' := [some (.ref 1003), some (.int (N v)), some (.int (N 0)), some (.int (N 7)), some (.int (N v)), some (.int (N 3))]) (st' := [.int (N 3)]) (h' := (KP X cl cn cx ma ru sn sg sv cd ln pe pr ba fo us fr sc hs m o)) rfl trivial ?_
          refine Runs.retE (cs := []) rfl trivial (retI ?_) rfl
          rw [← z4]; rfl
      · replace z3 : 60 = v := (N_eq (a := 60) (b := v) (by omega) (by omega)).mp (Classical.not_not.mp (of_decide_eq_false z3))
        refine Runs.go 1 (cs := []) (pc' := 24) (pl' := [some (.ref 1003), some (.int (N v)), some (.int (N 0)), some (.int (N 7)), some (.int (N v)), some (.int (N 2))]) (st' := [.int (N 2)]) (h' := (KP X cl cn cx ma ru sn sg sv cd ln pe pr ba fo us fr sc hs m o)) rfl trivial ?_
        refine Runs.retE (cs := []) rfl trivial (retI ?_) rfl
        rw [← z3]; rfl
    · replace z2 : 35 = v := (N_eq (a := 35) (b := v) (by omega) (by omega)).mp (Classical.not_not.mp (of_decide_eq_false z2))
      refine Runs.go 1 (cs := []) (pc' := 24) (pl' := [some (.ref 1003), some (.int (N v)), some (.int (N 0)), some (.int (N 7)), some (.int (N v)), some (.int (N 1))]) (st' := [.int (N 1)]) (h' := (KP X cl cn cx ma ru sn sg sv cd ln pe pr ba fo us fr sc hs m o)) rfl trivial ?_
      refine Runs.retE (cs := []) rfl trivial (retI ?_) rfl
      rw [← z2]; rfl
  · replace z1 : 61 = v := (N_eq (a := 61) (b := v) (by omega) (by omega)).mp (Classical.not_not.mp (of_decide_eq_false z1))
    refine Runs.go 1 (cs := []) (pc' := 24) (pl' := [some (.ref 1003), some (.int (N v)), some (.int (N 0)), some (.int (N 7)), some (.int (N v)), some (.int (N 0))]) (st' := [.int (N 0)]) (h' := (KP X cl cn cx ma ru sn sg sv cd ln pe pr ba fo us fr sc hs m o)) rfl trivial ?_
    refine Runs.retE (cs := []) rfl trivial (retI ?_) rfl
    rw [← z1]; rfl
theorem j_indexOf3 {X : Nat × (Nat → Int32)} {cl : Nat → Nat} {cn cx ma ru : Nat} {sn : SV} {sg : Nat → Option Nat} {sv : Nat → SV} {cd : Nat → Nat} {ln pe pr : Nat} {ba : Nat → Nat} {fo us : Nat} {fr : Bool} {sc : Nat} {hs : Bool} {m : MT} {o : Nat → Int64} {v : Nat} (hv : v < 127) : Call 1 mJ1_indexOf_4cfef [.ref 1003, .int (N v), .int (N 0), .int (N 7)] (KP X cl cn cx ma ru sn sg sv cd ln pe pr ba fo us fr sc hs m o) (.inl (some (.int (sgI v)))) (KP X cl cn cx ma ru sn sg sv cd ln pe pr ba fo us fr sc hs m o) 0 := by
  refine Runs.go 1 (cs := []) (pc' := 1) (pl' := [some (.ref 1003), some (.int (N v)), some (.int (N 0)), some (.int (N 7))]) (st' := [.int (N v)]) (h' := (KP X cl cn cx ma ru sn sg sv cd ln pe pr ba fo us fr sc hs m o)) rfl trivial ?_
  refine Runs.cal (y := mJ1_canEncode_9a6ad) (as := [.int (N v)]) (rest := []) (pc' := 4) (cs := []) (v := some (.int (N 1))) (h1 := (KP X cl cn cx ma ru sn sg sv cd ln pe pr ba fo us fr sc hs m o)) rfl trivial (by decide) (j_canEncode (by omega)) ?_
  show Runs _ _ 4 _ [.int (N 1)] _ _ _ _
  refine Runs.go 1 (cs := []) (pc' := bif decide (¬ (N 1) = 0) then 9 else 7) (pl' := [some (.ref 1003), some (.int (N v)), some (.int (N 0)), some (.int (N 7))]) (st' := []) (h' := (KP X cl cn cx ma ru sn sg sv cd ln pe pr ba fo us fr sc hs m o)) rfl trivial ?_
  refine Runs.brT (decide_eq_true (by decide)) ?_
  refine Runs.topI 3 (cs := [catS [] ≤ 8]) (pc' := 14) (pl' := [some (.ref 1003), some (.int (N v)), some (.int (N 0)), some (.int (N 7))]) (v := if N 0 < N 0 then N 0 else N 0) (v' := N 0) (st' := []) (h' := (KP X cl cn cx ma ru sn sg sv cd ln pe pr ba fo us fr sc hs m o)) rfl ⟨(by decide), trivial⟩ (by decide) ?_
  refine Runs.topI 5 (cs := [catS [] ≤ 8]) (pc' := 21) (pl' := [some (.ref 1003), some (.int (N v)), some (.int (N 0)), some (.int (N 7))]) (v := if N 7 < N 7 then N 7 else N 7) (v' := N 7) (st' := []) (h' := (KP X cl cn cx ma ru sn sg sv cd ln pe pr ba fo us fr sc hs m o)) rfl ⟨(by decide), trivial⟩ (by decide) ?_
  refine Runs.go 4 (cs := []) (pc' := bif decide ((N 0) < (N 7)) then 29 else 27) (pl' := [some (.ref 1003), some (.int (N v)), some (.int (N 0)), some (.int (N 7))]) (st' := []) (h' := (KP X cl cn cx ma ru sn sg sv cd ln pe pr ba fo us fr sc hs m o)) rfl trivial ?_
  refine Runs.brT (decide_eq_true (by decide)) ?_
  refine Runs.go 4 (cs := []) (pc' := 33) (pl' := [some (.ref 1003), some (.int (N v)), some (.int (N 0)), some (.int (N 7))]) (st' := [.int (N 7), .int (N 0), .int (N v), .ref 1003]) (h' := (KP X cl cn cx ma ru sn sg sv cd ln pe pr ba fo us fr sc hs m o)) rfl trivial ?_
  refine Runs.cal (y := mJ1_indexOfChar_4cfef) (as := [.ref 1003, .int (N v), .int (N 0), .int (N 7)]) (rest := []) (pc' := 36) (cs := []) (v := some (.int (sgI v))) (h1 := (KP X cl cn cx ma ru sn sg sv cd ln pe pr ba fo us fr sc hs m o)) rfl trivial (by decide) (j_indexOfChar hv) ?_
  show Runs _ _ 36 _ [.int (sgI v)] _ _ _ _
  exact Runs.retE (cs := []) rfl trivial (retI rfl) rfl
theorem j_indexOf2 {X : Nat × (Nat → Int32)} {cl : Nat → Nat} {cn cx ma ru : Nat} {sn : SV} {sg : Nat → Option Nat} {sv : Nat → SV} {cd : Nat → Nat} {ln pe pr : Nat} {ba : Nat → Nat} {fo us : Nat} {fr : Bool} {sc : Nat} {hs : Bool} {m : MT} {o : Nat → Int64} {v : Nat} (hv : v < 127) : Call 2 mJ0_indexOf_7cf53 [.ref 1002, .int (N v), .int (N 0)] (KP X cl cn cx ma ru sn sg sv cd ln pe pr ba fo us fr sc hs m o) (.inl (some (.int (sgI v)))) (KP X cl cn cx ma ru sn sg sv cd ln pe pr ba fo us fr sc hs m o) 0 := by
  refine Runs.go 1 (cs := []) (pc' := 1) (pl' := [some (.ref 1002), some (.int (N v)), some (.int (N 0))]) (st' := [.ref 1002]) (h' := (KP X cl cn cx ma ru sn sg sv cd ln pe pr ba fo us fr sc hs m o)) rfl trivial ?_
  refine Runs.cal (y := mJ0_isLatin1_aae02) (as := [.ref 1002]) (rest := []) (pc' := 4) (cs := []) (v := some (.int (N 1))) (h1 := (KP X cl cn cx ma ru sn sg sv cd ln pe pr ba fo us fr sc hs m o)) rfl trivial (by decide) (j_isLatin1) ?_
  show Runs _ _ 4 _ [.int (N 1)] _ _ _ _
  refine Runs.go 1 (cs := []) (pc' := bif decide ((N 1) = 0) then 23 else 7) (pl' := [some (.ref 1002), some (.int (N v)), some (.int (N 0))]) (st' := []) (h' := (KP X cl cn cx ma ru sn sg sv cd ln pe pr ba fo us fr sc hs m o)) rfl trivial ?_
  refine Runs.brF (decide_eq_false (by decide)) ?_
  refine Runs.go 5 (cs := []) (pc' := 14) (pl' := [some (.ref 1002), some (.int (N v)), some (.int (N 0))]) (st' := [.ref 1002, .int (N 0), .int (N v), .ref 1003]) (h' := (KP X cl cn cx ma ru sn sg sv cd ln pe pr ba fo us fr sc hs m o)) rfl trivial ?_
  refine Runs.cal (y := mJ0_length_8abf5) (as := [.ref 1002]) (rest := [.int (N 0), .int (N v), .ref 1003]) (pc' := 17) (cs := []) (v := some (.int (N 7))) (h1 := (KP X cl cn cx ma ru sn sg sv cd ln pe pr ba fo us fr sc hs m o)) rfl trivial (by decide) (j_length) ?_
  show Runs _ _ 17 _ [.int (N 7), .int (N 0), .int (N v), .ref 1003] _ _ _ _
  refine Runs.cal (y := mJ1_indexOf_4cfef) (as := [.ref 1003, .int (N v), .int (N 0), .int (N 7)]) (rest := []) (pc' := 20) (cs := []) (v := some (.int (sgI v))) (h1 := (KP X cl cn cx ma ru sn sg sv cd ln pe pr ba fo us fr sc hs m o)) rfl trivial (by decide) (j_indexOf3 hv) ?_
  show Runs _ _ 20 _ [.int (sgI v)] _ _ _ _
  refine Runs.go 1 (cs := []) (pc' := 36) (pl' := [some (.ref 1002), some (.int (N v)), some (.int (N 0))]) (st' := [.int (sgI v)]) (h' := (KP X cl cn cx ma ru sn sg sv cd ln pe pr ba fo us fr sc hs m o)) rfl trivial ?_
  exact Runs.retE (cs := []) rfl trivial (retI rfl) rfl
theorem j_indexOf {X : Nat × (Nat → Int32)} {cl : Nat → Nat} {cn cx ma ru : Nat} {sn : SV} {sg : Nat → Option Nat} {sv : Nat → SV} {cd : Nat → Nat} {ln pe pr : Nat} {ba : Nat → Nat} {fo us : Nat} {fr : Bool} {sc : Nat} {hs : Bool} {m : MT} {o : Nat → Int64} {v : Nat} (hv : v < 127) : Call 3 mJ0_indexOf_0f7a4 [.ref 1002, .int (N v)] (KP X cl cn cx ma ru sn sg sv cd ln pe pr ba fo us fr sc hs m o) (.inl (some (.int (sgI v)))) (KP X cl cn cx ma ru sn sg sv cd ln pe pr ba fo us fr sc hs m o) 0 := by
  refine Runs.go 3 (cs := []) (pc' := 3) (pl' := [some (.ref 1002), some (.int (N v))]) (st' := [.int (N 0), .int (N v), .ref 1002]) (h' := (KP X cl cn cx ma ru sn sg sv cd ln pe pr ba fo us fr sc hs m o)) rfl trivial ?_
  refine Runs.cal (y := mJ0_indexOf_7cf53) (as := [.ref 1002, .int (N v), .int (N 0)]) (rest := []) (pc' := 6) (cs := []) (v := some (.int (sgI v))) (h1 := (KP X cl cn cx ma ru sn sg sv cd ln pe pr ba fo us fr sc hs m o)) rfl trivial (by decide) (j_indexOf2 hv) ?_
  show Runs _ _ 6 _ [.int (sgI v)] _ _ _ _
  exact Runs.retE (cs := []) rfl trivial (retI rfl) rfl
theorem t_isItem {v : Nat} {h : PH} (hv : v < 127) : Call 0 mX5_isItem [.int (N v)] h (.inl (some (.int (bI (isLt v))))) h 0 := by
  refine Runs.go 3 (cs := []) (pc' := bif decide ((N v) < (N 65)) then 16 else 6) (pl' := [some (.int (N v))]) (st' := []) (h' := h) rfl trivial ?_
  refine Runs.br (fun z1 => ?_) (fun z1 => ?_)
  · replace z1 : v < 65 := (N_lt (a := v) (b := 65) (by omega) (by omega)).mp (of_decide_eq_true z1)
    refine Runs.go 1 (cs := []) (pc' := 17) (pl' := [some (.int (N v))]) (st' := [.int (N 0)]) (h' := h) rfl trivial ?_
    exact Runs.retE (cs := [(N 0 : Int32) = 0 ∨ (N 0 : Int32) = 1]) rfl ⟨Or.inl rfl, trivial⟩ (retI (bIF (by unfold isLt; simp; omega))) rfl
  · replace z1 : ¬ (v < 65) := mt (N_lt (a := v) (b := 65) (by omega) (by omega)).mpr (of_decide_eq_false z1)
    refine Runs.go 3 (cs := []) (pc' := bif decide ((N 77) ≤ (N v)) then 16 else 12) (pl' := [some (.int (N v))]) (st' := []) (h' := h) rfl trivial ?_
    refine Runs.br (fun z2 => ?_) (fun z2 => ?_)
    · replace z2 : 77 ≤ v := (N_le (a := 77) (b := v) (by omega) (by omega)).mp (of_decide_eq_true z2)
      refine Runs.go 1 (cs := []) (pc' := 17) (pl' := [some (.int (N v))]) (st' := [.int (N 0)]) (h' := h) rfl trivial ?_
      exact Runs.retE (cs := [(N 0 : Int32) = 0 ∨ (N 0 : Int32) = 1]) rfl ⟨Or.inl rfl, trivial⟩ (retI (bIF (by unfold isLt; simp; omega))) rfl
    · replace z2 : ¬ (77 ≤ v) := mt (N_le (a := 77) (b := v) (by omega) (by omega)).mpr (of_decide_eq_false z2)
      refine Runs.go 2 (cs := []) (pc' := 17) (pl' := [some (.int (N v))]) (st' := [.int (N 1)]) (h' := h) rfl trivial ?_
      exact Runs.retE (cs := [(N 1 : Int32) = 0 ∨ (N 1 : Int32) = 1]) rfl ⟨Or.inr rfl, trivial⟩ (retI (bIT (by unfold isLt; simp; omega))) rfl
theorem t_isCrossAt {X : Nat × (Nat → Int32)} {cl : Nat → Nat} {cn cx ma ru : Nat} {sn : SV} {sg : Nat → Option Nat} {sv : Nat → SV} {cd : Nat → Nat} {ln pe pr : Nat} {ba : Nat → Nat} {fo us : Nat} {fr : Bool} {sc : Nat} {hs : Bool} {m : MT} {o : Nat → Int64} {s : Nat} (hq : s < 60) (hB : BF cd ln) (hD : ∀ i, i < 60 → cd i < 127) : Call 0 mX5_isCrossAt [.ref 6, .int (N s)] (KP X cl cn cx ma ru sn sg sv cd ln pe pr ba fo us fr sc hs m o) (.inl (some (.int (bI (decide (cd s = 120)))))) (KP X cl cn cx ma ru sn sg sv cd ln pe pr ba fo us fr sc hs m o) 0 := by
  have hle := hB.1
  have hC : ∀ i, i < 60 → cd i < 127 := hD
  refine Runs.topI 4 (cs := [vp_in (N s) 60]) (pc' := 6) (pl' := [some (.ref 6), some (.int (N s))]) (v := aN cd (N s).toNatClampNeg) (v' := N (cd s)) (st' := []) (h' := (KP X cl cn cx ma ru sn sg sv cd ln pe pr ba fo us fr sc hs m o)) rfl ⟨(N_in (by omega) (by decide)), trivial⟩ (aN_at (by omega)) ?_
  have b1 := hC (s) (by omega)
  refine Runs.go 2 (cs := []) (pc' := bif decide (¬ (N (cd s)) = (N 120)) then 15 else 11) (pl' := [some (.ref 6), some (.int (N s))]) (st' := []) (h' := (KP X cl cn cx ma ru sn sg sv cd ln pe pr ba fo us fr sc hs m o)) rfl trivial ?_
  refine Runs.br (fun z2 => ?_) (fun z2 => ?_)
  · replace z2 : ¬ (cd s = 120) := mt (N_eq (a := cd s) (b := 120) (by omega) (by omega)).mpr (of_decide_eq_true z2)
    refine Runs.go 1 (cs := []) (pc' := 16) (pl' := [some (.ref 6), some (.int (N s))]) (st' := [.int (N 0)]) (h' := (KP X cl cn cx ma ru sn sg sv cd ln pe pr ba fo us fr sc hs m o)) rfl trivial ?_
    exact Runs.retE (cs := [(N 0 : Int32) = 0 ∨ (N 0 : Int32) = 1]) rfl ⟨Or.inl rfl, trivial⟩ (retI (bIF (decide_eq_false z2))) rfl
  · replace z2 : cd s = 120 := (N_eq (a := cd s) (b := 120) (by omega) (by omega)).mp (Classical.not_not.mp (of_decide_eq_false z2))
    refine Runs.go 2 (cs := []) (pc' := 16) (pl' := [some (.ref 6), some (.int (N s))]) (st' := [.int (N 1)]) (h' := (KP X cl cn cx ma ru sn sg sv cd ln pe pr ba fo us fr sc hs m o)) rfl trivial ?_
    exact Runs.retE (cs := [(N 1 : Int32) = 0 ∨ (N 1 : Int32) = 1]) rfl ⟨Or.inr rfl, trivial⟩ (retI (bIT (decide_eq_true z2))) rfl
theorem t_signAt {X : Nat × (Nat → Int32)} {cl : Nat → Nat} {cn cx ma ru : Nat} {sn : SV} {sg : Nat → Option Nat} {sv : Nat → SV} {cd : Nat → Nat} {ln pe pr : Nat} {ba : Nat → Nat} {fo us : Nat} {fr : Bool} {sc : Nat} {hs : Bool} {m : MT} {o : Nat → Int64} {s : Nat} (hq : s < 60) (hB : BF cd ln) (hD : ∀ i, i < 60 → cd i < 127) : Call 4 mX5_signAt [.ref 6, .int (N s)] (KP X cl cn cx ma ru sn sg sv cd ln pe pr ba fo us fr sc hs m o) (.inl (some (.int (sgI (cd s))))) (KP X cl cn cx ma ru sn sg sv cd ln pe pr ba fo us fr sc hs m o) 0 := by
  have hle := hB.1
  have hC : ∀ i, i < 60 → cd i < 127 := hD
  refine Runs.topI 5 (cs := [vp_in (N s) 60]) (pc' := 8) (pl' := [some (.ref 6), some (.int (N s))]) (v := aN cd (N s).toNatClampNeg) (v' := N (cd s)) (st' := [.ref 1002]) (h' := (KP X cl cn cx ma ru sn sg sv cd ln pe pr ba fo us fr sc hs m o)) rfl ⟨(N_in (by omega) (by decide)), trivial⟩ (aN_at (by omega)) ?_
  have b1 := hC (s) (by omega)
  refine Runs.topI 1 (cs := []) (pc' := 9) (pl' := [some (.ref 6), some (.int (N s))]) (v := ((N (cd s) : Int32).toUInt32 % 65536).toInt32) (v' := N (cd s)) (st' := [.ref 1002]) (h' := (KP X cl cn cx ma ru sn sg sv cd ln pe pr ba fo us fr sc hs m o)) rfl trivial (N_i2c (by omega)) ?_
  refine Runs.cal (y := mJ0_indexOf_0f7a4) (as := [.ref 1002, .int (N (cd s))]) (rest := []) (pc' := 12) (cs := []) (v := some (.int (sgI (cd s)))) (h1 := (KP X cl cn cx ma ru sn sg sv cd ln pe pr ba fo us fr sc hs m o)) rfl trivial (by decide) (j_indexOf (by omega)) ?_
  show Runs _ _ 12 _ [.int (sgI (cd s))] _ _ _ _
  exact Runs.retE (cs := []) rfl trivial (retI rfl) rfl
theorem t_partLength {X : Nat × (Nat → Int32)} {cl : Nat → Nat} {cn cx ma ru : Nat} {sn : SV} {sg : Nat → Option Nat} {sv : Nat → SV} {cd : Nat → Nat} {ln pe pr : Nat} {ba : Nat → Nat} {fo us : Nat} {fr : Bool} {sc : Nat} {hs : Bool} {m : MT} {o : Nat → Int64} {s : Nat} (hq : s ≤ 60) (hB : BF cd ln) (hD : ∀ i, i < 60 → cd i < 127) : Call 0 mX5_partLength [.ref 6, .int (N s)] (KP X cl cn cx ma ru sn sg sv cd ln pe pr ba fo us fr sc hs m o) (.inl (some (.int (N (plN cd ln s))))) (KP X cl cn cx ma ru sn sg sv cd ln pe pr ba fo us fr sc hs m o) 0 := by
  have hle := hB.1
  have hC : ∀ i, i < 60 → cd i < 127 := hD
  refine Runs.topI 3 (cs := []) (pc' := 3) (pl' := [some (.ref 6), some (.int (N s))]) (v := (N s) + (N 1)) (v' := N (s + 1)) (st' := []) (h' := (KP X cl cn cx ma ru sn sg sv cd ln pe pr ba fo us fr sc hs m o)) rfl trivial (NA (by omega)) ?_
  refine Runs.go 3 (cs := []) (pc' := bif decide ((N ln) ≤ (N (s + 1))) then 27 else 10) (pl' := [some (.ref 6), some (.int (N s))]) (st' := []) (h' := (KP X cl cn cx ma ru sn sg sv cd ln pe pr ba fo us fr sc hs m o)) rfl trivial ?_
  refine Runs.br (fun z1 => ?_) (fun z1 => ?_)
  · replace z1 : ln ≤ s + 1 := (N_le (a := ln) (b := s + 1) (by omega) (by omega)).mp (of_decide_eq_true z1)
    refine Runs.go 1 (cs := []) (pc' := 28) (pl' := [some (.ref 6), some (.int (N s))]) (st' := [.int (N 3)]) (h' := (KP X cl cn cx ma ru sn sg sv cd ln pe pr ba fo us fr sc hs m o)) rfl trivial ?_
    exact Runs.retE (cs := []) rfl trivial (retI (congrArg N (if_neg (fun zq => by have := zq.1; have := zq.2; omega)))) rfl
  · replace z1 : ¬ (ln ≤ s + 1) := mt (N_le (a := ln) (b := s + 1) (by omega) (by omega)).mpr (of_decide_eq_false z1)
    refine Runs.topI 5 (cs := []) (pc' := 17) (pl' := [some (.ref 6), some (.int (N s))]) (v := (N s) + (N 1)) (v' := N (s + 1)) (st' := [.ref 7]) (h' := (KP X cl cn cx ma ru sn sg sv cd ln pe pr ba fo us fr sc hs m o)) rfl trivial (NA (by omega)) ?_
    refine Runs.topI 1 (cs := [vp_in (N (s + 1)) 60]) (pc' := 18) (pl' := [some (.ref 6), some (.int (N s))]) (v := aN cd (N (s + 1)).toNatClampNeg) (v' := N (cd (s + 1))) (st' := []) (h' := (KP X cl cn cx ma ru sn sg sv cd ln pe pr ba fo us fr sc hs m o)) rfl ⟨(N_in (by omega) (by decide)), trivial⟩ (aN_at (by omega)) ?_
    have b2 := hC (s + 1) (by omega)
    refine Runs.go 2 (cs := []) (pc' := bif decide (¬ (N (cd (s + 1))) = (N 124)) then 27 else 23) (pl' := [some (.ref 6), some (.int (N s))]) (st' := []) (h' := (KP X cl cn cx ma ru sn sg sv cd ln pe pr ba fo us fr sc hs m o)) rfl trivial ?_
    refine Runs.br (fun z3 => ?_) (fun z3 => ?_)
    · replace z3 : ¬ (cd (s + 1) = 124) := mt (N_eq (a := cd (s + 1)) (b := 124) (by omega) (by omega)).mpr (of_decide_eq_true z3)
      refine Runs.go 1 (cs := []) (pc' := 28) (pl' := [some (.ref 6), some (.int (N s))]) (st' := [.int (N 3)]) (h' := (KP X cl cn cx ma ru sn sg sv cd ln pe pr ba fo us fr sc hs m o)) rfl trivial ?_
      exact Runs.retE (cs := []) rfl trivial (retI (congrArg N (if_neg (fun zq => by have := zq.1; have := zq.2; omega)))) rfl
    · replace z3 : cd (s + 1) = 124 := (N_eq (a := cd (s + 1)) (b := 124) (by omega) (by omega)).mp (Classical.not_not.mp (of_decide_eq_false z3))
      refine Runs.go 2 (cs := []) (pc' := 28) (pl' := [some (.ref 6), some (.int (N s))]) (st' := [.int (N 4)]) (h' := (KP X cl cn cx ma ru sn sg sv cd ln pe pr ba fo us fr sc hs m o)) rfl trivial ?_
      exact Runs.retE (cs := []) rfl trivial (retI (congrArg N (if_pos ⟨by omega, z3⟩))) rfl
theorem sgI_4 : ∀ v, v < 127 → (sgI v = N 4 ↔ v = 64) := by decide +kernel
theorem sgI_5 : ∀ v, v < 127 → (sgI v = N 5 ↔ v = 33) := by decide +kernel
theorem sgI_6 : ∀ v, v < 127 → (sgI v = N 6 ↔ v = 124) := by decide +kernel
theorem sgI_m : ∀ v, v < 127 → (sgI v = -1 ↔ isSg v = false) := by decide +kernel
theorem t_endsWithPlace {X : Nat × (Nat → Int32)} {cl : Nat → Nat} {cn cx ma ru : Nat} {sn : SV} {sg : Nat → Option Nat} {sv : Nat → SV} {cd : Nat → Nat} {ln pe pr : Nat} {ba : Nat → Nat} {fo us : Nat} {fr : Bool} {sc : Nat} {hs : Bool} {m : MT} {o : Nat → Int64} {s : Nat} (hq : s + 1 < 60) (hB : BF cd ln) (hD : ∀ i, i < 60 → cd i < 127) : Call 5 mX5_endsWithPlace [.ref 6, .int (N s)] (KP X cl cn cx ma ru sn sg sv cd ln pe pr ba fo us fr sc hs m o) (.inl (some (.int (bI (enP cd s))))) (KP X cl cn cx ma ru sn sg sv cd ln pe pr ba fo us fr sc hs m o) 0 := by
  have hle := hB.1
  have hC : ∀ i, i < 60 → cd i < 127 := hD
  refine Runs.topI 4 (cs := []) (pc' := 4) (pl' := [some (.ref 6), some (.int (N s)), none]) (v := (N s) + (N 1)) (v' := N (s + 1)) (st' := [.ref 6]) (h' := (KP X cl cn cx ma ru sn sg sv cd ln pe pr ba fo us fr sc hs m o)) rfl trivial (NA (by omega)) ?_
  refine Runs.cal (y := mX5_signAt) (as := [.ref 6, .int (N (s + 1))]) (rest := []) (pc' := 7) (cs := []) (v := some (.int (sgI (cd (s + 1))))) (h1 := (KP X cl cn cx ma ru sn sg sv cd ln pe pr ba fo us fr sc hs m o)) rfl trivial (by decide) (t_signAt (by omega) hB hD) ?_
  show Runs _ _ 7 _ [.int (sgI (cd (s + 1)))] _ _ _ _
  refine Runs.go 3 (cs := []) (pc' := 10) (pl' := [some (.ref 6), some (.int (N s)), some (.int (sgI (cd (s + 1))))]) (st' := [.int (N s), .ref 6]) (h' := (KP X cl cn cx ma ru sn sg sv cd ln pe pr ba fo us fr sc hs m o)) rfl trivial ?_
  refine Runs.cal (y := mX5_isCrossAt) (as := [.ref 6, .int (N s)]) (rest := []) (pc' := 13) (cs := []) (v := some (.int (bI (decide (cd s = 120))))) (h1 := (KP X cl cn cx ma ru sn sg sv cd ln pe pr ba fo us fr sc hs m o)) rfl trivial (by decide) (t_isCrossAt (by omega) hB hD) ?_
  show Runs _ _ 13 _ [.int (bI (decide (cd s = 120)))] _ _ _ _
  refine Runs.go 1 (cs := []) (pc' := bif decide (¬ (bI (decide (cd s = 120))) = 0) then 26 else 16) (pl' := [some (.ref 6), some (.int (N s)), some (.int (sgI (cd (s + 1))))]) (st' := []) (h' := (KP X cl cn cx ma ru sn sg sv cd ln pe pr ba fo us fr sc hs m o)) rfl trivial ?_
  refine Runs.br (fun z1 => ?_) (fun z1 => ?_)
  · replace z1 : ¬ ((decide (cd s = 120)) = false) := mt (bI_0 _).mpr (of_decide_eq_true z1)
    refine Runs.go 2 (cs := []) (pc' := 31) (pl' := [some (.ref 6), some (.int (N s)), some (.int (sgI (cd (s + 1))))]) (st' := [.int (N 1)]) (h' := (KP X cl cn cx ma ru sn sg sv cd ln pe pr ba fo us fr sc hs m o)) rfl trivial ?_
    exact Runs.retE (cs := [(N 1 : Int32) = 0 ∨ (N 1 : Int32) = 1]) rfl ⟨Or.inr rfl, trivial⟩ (retI (bIT (by unfold enP; simp [sgI_4 _ (hD (s + 1) (by omega)), sgI_5 _ (hD (s + 1) (by omega))] at z1; simp [z1]))) rfl
  · replace z1 : (decide (cd s = 120)) = false := (bI_0 _).mp (Classical.not_not.mp (of_decide_eq_false z1))
    refine Runs.go 3 (cs := []) (pc' := bif decide ((sgI (cd (s + 1))) = (N 4)) then 26 else 21) (pl' := [some (.ref 6), some (.int (N s)), some (.int (sgI (cd (s + 1))))]) (st' := []) (h' := (KP X cl cn cx ma ru sn sg sv cd ln pe pr ba fo us fr sc hs m o)) rfl trivial ?_
    refine Runs.br (fun z2 => ?_) (fun z2 => ?_)
    · replace z2 : (sgI (cd (s + 1))) = (N 4) := Iff.rfl.mp (of_decide_eq_true z2)
      refine Runs.go 2 (cs := []) (pc' := 31) (pl' := [some (.ref 6), some (.int (N s)), some (.int (sgI (cd (s + 1))))]) (st' := [.int (N 1)]) (h' := (KP X cl cn cx ma ru sn sg sv cd ln pe pr ba fo us fr sc hs m o)) rfl trivial ?_
      exact Runs.retE (cs := [(N 1 : Int32) = 0 ∨ (N 1 : Int32) = 1]) rfl ⟨Or.inr rfl, trivial⟩ (retI (bIT (by unfold enP; simp [sgI_4 _ (hD (s + 1) (by omega)), sgI_5 _ (hD (s + 1) (by omega))] at z1 z2; simp [z1, z2]))) rfl
    · replace z2 : ¬ ((sgI (cd (s + 1))) = (N 4)) := mt Iff.rfl.mpr (of_decide_eq_false z2)
      refine Runs.go 3 (cs := []) (pc' := bif decide (¬ (sgI (cd (s + 1))) = (N 5)) then 30 else 26) (pl' := [some (.ref 6), some (.int (N s)), some (.int (sgI (cd (s + 1))))]) (st' := []) (h' := (KP X cl cn cx ma ru sn sg sv cd ln pe pr ba fo us fr sc hs m o)) rfl trivial ?_
      refine Runs.br (fun z3 => ?_) (fun z3 => ?_)
      · replace z3 : ¬ ((sgI (cd (s + 1))) = (N 5)) := mt Iff.rfl.mpr (of_decide_eq_true z3)
        refine Runs.go 1 (cs := []) (pc' := 31) (pl' := [some (.ref 6), some (.int (N s)), some (.int (sgI (cd (s + 1))))]) (st' := [.int (N 0)]) (h' := (KP X cl cn cx ma ru sn sg sv cd ln pe pr ba fo us fr sc hs m o)) rfl trivial ?_
        exact Runs.retE (cs := [(N 0 : Int32) = 0 ∨ (N 0 : Int32) = 1]) rfl ⟨Or.inl rfl, trivial⟩ (retI (bIF (by unfold enP; simp [sgI_4 _ (hD (s + 1) (by omega)), sgI_5 _ (hD (s + 1) (by omega))] at z1 z2 z3; simp [z1, z2, z3]))) rfl
      · replace z3 : (sgI (cd (s + 1))) = (N 5) := Iff.rfl.mp (Classical.not_not.mp (of_decide_eq_false z3))
        refine Runs.go 2 (cs := []) (pc' := 31) (pl' := [some (.ref 6), some (.int (N s)), some (.int (sgI (cd (s + 1))))]) (st' := [.int (N 1)]) (h' := (KP X cl cn cx ma ru sn sg sv cd ln pe pr ba fo us fr sc hs m o)) rfl trivial ?_
        exact Runs.retE (cs := [(N 1 : Int32) = 0 ∨ (N 1 : Int32) = 1]) rfl ⟨Or.inr rfl, trivial⟩ (retI (bIT (by unfold enP; simp [sgI_4 _ (hD (s + 1) (by omega)), sgI_5 _ (hD (s + 1) (by omega))] at z1 z2 z3; simp [z1, z2, z3]))) rfl
