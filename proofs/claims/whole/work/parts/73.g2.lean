/-! THE CLASS: a part of a text, done (gen_g2.py) -/
theorem t_crossAt {X : Nat × (Nat → Int32)} {cl : Nat → Nat} {cn cx ma ru : Nat} {sn : SV} {sg : Nat → Option Nat} {sv : Nat → SV} {cd : Nat → Nat} {ln pe pr : Nat} {ba : Nat → Nat} {fo us : Nat} {fr : Bool} {sc : Nat} {hs : Bool} {m : MT} {o : Nat → Int64} {s : Nat} {i p : Nat} (hB : BF cd ln) (hD : ∀ i, i < 60 → cd i < 127) (hn : s + 2 < ln) (hi : i < 12) (hp : p < 4) (h0 : cd s = 120) (h1 : cd (s + 1) = 65 + i) (h2 : cd (s + 2) = 48 + p) : Call 1 mX5_crossAt [.ref 6, .int (N s)] (KP X cl cn cx ma ru sn sg sv cd ln pe pr ba fo us fr sc hs m o) (.inl (some (.long (L (pk (sgl i (2 ^ p))))))) (KP X cl cn cx ma ru sn sg sv cd ln pe pr ba fo us fr sc hs m o) 0 := by
  have hle := hB.1
  refine Runs.topI 5 (cs := []) (pc' := 7) (pl' := [some (.ref 6), some (.int (N s))]) (v := (N s) + (N 1)) (v' := N (s + 1)) (st' := [.ref 7]) (h' := (KP X cl cn cx ma ru sn sg sv cd ln pe pr ba fo us fr sc hs m o)) rfl trivial (NA (by omega)) ?_
  refine Runs.topI 1 (cs := [vp_in (N (s + 1)) 60]) (pc' := 8) (pl' := [some (.ref 6), some (.int (N s))]) (v := aN cd (N (s + 1)).toNatClampNeg) (v' := N (i + 65)) (st' := []) (h' := (KP X cl cn cx ma ru sn sg sv cd ln pe pr ba fo us fr sc hs m o)) rfl ⟨(N_in (by omega) (by decide)), trivial⟩ ((aN_at (by omega)).trans (congrArg N (h1.trans (Nat.add_comm _ _)))) ?_
  refine Runs.topI 2 (cs := []) (pc' := 11) (pl' := [some (.ref 6), some (.int (N s))]) (v := (N (i + 65)) - (N 65)) (v' := N i) (st' := []) (h' := (KP X cl cn cx ma ru sn sg sv cd ln pe pr ba fo us fr sc hs m o)) rfl trivial (NS (by omega)) ?_
  refine Runs.topI 5 (cs := []) (pc' := 18) (pl' := [some (.ref 6), some (.int (N s))]) (v := (N s) + (N 2)) (v' := N (s + 2)) (st' := [.ref 7, .int (N i)]) (h' := (KP X cl cn cx ma ru sn sg sv cd ln pe pr ba fo us fr sc hs m o)) rfl trivial (NA (by omega)) ?_
  refine Runs.topI 1 (cs := [vp_in (N (s + 2)) 60]) (pc' := 19) (pl' := [some (.ref 6), some (.int (N s))]) (v := aN cd (N (s + 2)).toNatClampNeg) (v' := N (p + 48)) (st' := [.int (N i)]) (h' := (KP X cl cn cx ma ru sn sg sv cd ln pe pr ba fo us fr sc hs m o)) rfl ⟨(N_in (by omega) (by decide)), trivial⟩ ((aN_at (by omega)).trans (congrArg N (h2.trans (Nat.add_comm _ _)))) ?_
  refine Runs.topI 2 (cs := []) (pc' := 22) (pl' := [some (.ref 6), some (.int (N s))]) (v := (N (p + 48)) - (N 48)) (v' := N p) (st' := [.int (N i)]) (h' := (KP X cl cn cx ma ru sn sg sv cd ln pe pr ba fo us fr sc hs m o)) rfl trivial (NS (by omega)) ?_
  refine Runs.cal (y := mX1_spot) (as := [.int (N i), .int (N p)]) (rest := []) (pc' := 25) (cs := []) (v := some (.long (L (2 ^ (4 * i + p))))) (h1 := (KP X cl cn cx ma ru sn sg sv cd ln pe pr ba fo us fr sc hs m o)) rfl trivial (by decide) (c_spot (by omega) (by omega)) ?_
  show Runs _ _ 25 _ [.long (L (2 ^ (4 * i + p)))] _ _ _ _
  rw [show L (2 ^ (4 * i + p)) = L (pk (sgl i (2 ^ p))) from congrArg L (spot_pk (by omega) (by omega))]
  exact Runs.retE (cs := []) rfl trivial (retJ rfl) rfl
theorem t_clueAt0 {X : Nat × (Nat → Int32)} {cl : Nat → Nat} {cn cx ma ru : Nat} {sn : SV} {sg : Nat → Option Nat} {sv : Nat → SV} {cd : Nat → Nat} {ln pe pr : Nat} {ba : Nat → Nat} {fo us : Nat} {fr : Bool} {sc : Nat} {hs : Bool} {m : MT} {o : Nat → Int64} {s : Nat} {i j : Nat} (hB : BF cd ln) (hD : ∀ i, i < 60 → cd i < 127) (hn : s + 2 < ln) (hi : i < 12) (hj : j < 12) (h2 : cd (s + 2) = 65 + j) (h0 : cd s = 65 + i) (h1 : cd (s + 1) = 61) : Call 5 mX5_clueAt [.ref 6, .int (N s)] (KP X cl cn cx ma ru sn sg sv cd ln pe pr ba fo us fr sc hs m o) (.inl (some (.int (N (encC 0 i j 15 15))))) (KP X cl cn cx ma ru sn sg sv cd ln pe pr ba fo us fr sc hs m o) 0 := by
  have hle := hB.1
  refine Runs.topI 4 (cs := []) (pc' := 4) (pl' := [some (.ref 6), some (.int (N s)), none, none, none]) (v := (N s) + (N 1)) (v' := N (s + 1)) (st' := [.ref 6]) (h' := (KP X cl cn cx ma ru sn sg sv cd ln pe pr ba fo us fr sc hs m o)) rfl trivial (NA (by omega)) ?_
  refine Runs.cal (y := mX5_signAt) (as := [.ref 6, .int (N (s + 1))]) (rest := []) (pc' := 7) (cs := []) (v := some (.int (sgI (cd (s + 1))))) (h1 := (KP X cl cn cx ma ru sn sg sv cd ln pe pr ba fo us fr sc hs m o)) rfl trivial (by decide) (t_signAt (by omega) hB hD) ?_
  show Runs _ _ 7 _ [.int (sgI (cd (s + 1)))] _ _ _ _
  rw [show sgI (cd (s + 1)) = N 0 by rw [h1]; rfl]
  refine Runs.topI 5 (cs := [vp_in (N s) 60]) (pc' := 14) (pl' := [some (.ref 6), some (.int (N s)), some (.int (N 0)), none, none]) (v := aN cd (N s).toNatClampNeg) (v' := N (i + 65)) (st' := []) (h' := (KP X cl cn cx ma ru sn sg sv cd ln pe pr ba fo us fr sc hs m o)) rfl ⟨(N_in (by omega) (by decide)), trivial⟩ ((aN_at (by omega)).trans (congrArg N (h0.trans (Nat.add_comm _ _)))) ?_
  refine Runs.topI 2 (cs := []) (pc' := 17) (pl' := [some (.ref 6), some (.int (N s)), some (.int (N 0)), none, none]) (v := (N (i + 65)) - (N 65)) (v' := N i) (st' := []) (h' := (KP X cl cn cx ma ru sn sg sv cd ln pe pr ba fo us fr sc hs m o)) rfl trivial (NS (by omega)) ?_
  refine Runs.go 4 (cs := []) (pc' := bif decide ((N 0) = (N 4)) then 28 else 23) (pl' := [some (.ref 6), some (.int (N s)), some (.int (N 0)), some (.int (N i)), none]) (st' := []) (h' := (KP X cl cn cx ma ru sn sg sv cd ln pe pr ba fo us fr sc hs m o)) rfl trivial ?_
  refine Runs.brF (decide_eq_false (by decide)) ?_
  refine Runs.go 3 (cs := []) (pc' := bif decide (¬ (N 0) = (N 5)) then 49 else 28) (pl' := [some (.ref 6), some (.int (N s)), some (.int (N 0)), some (.int (N i)), none]) (st' := []) (h' := (KP X cl cn cx ma ru sn sg sv cd ln pe pr ba fo us fr sc hs m o)) rfl trivial ?_
  refine Runs.brT (decide_eq_true (by decide)) ?_
  refine Runs.go 3 (cs := []) (pc' := bif decide (¬ (N 0) = (N 6)) then 69 else 55) (pl' := [some (.ref 6), some (.int (N s)), some (.int (N 0)), some (.int (N i)), none]) (st' := []) (h' := (KP X cl cn cx ma ru sn sg sv cd ln pe pr ba fo us fr sc hs m o)) rfl trivial ?_
  refine Runs.brT (decide_eq_true (by decide)) ?_
  refine Runs.topI 9 (cs := []) (pc' := 82) (pl' := [some (.ref 6), some (.int (N s)), some (.int (N 0)), some (.int (N i)), some (.int (N 15))]) (v := (N s) + (N 2)) (v' := N (s + 2)) (st' := [.ref 7, .int (N i), .int (N 0)]) (h' := (KP X cl cn cx ma ru sn sg sv cd ln pe pr ba fo us fr sc hs m o)) rfl trivial (NA (by omega)) ?_
  refine Runs.topI 1 (cs := [vp_in (N (s + 2)) 60]) (pc' := 83) (pl' := [some (.ref 6), some (.int (N s)), some (.int (N 0)), some (.int (N i)), some (.int (N 15))]) (v := aN cd (N (s + 2)).toNatClampNeg) (v' := N (j + 65)) (st' := [.int (N i), .int (N 0)]) (h' := (KP X cl cn cx ma ru sn sg sv cd ln pe pr ba fo us fr sc hs m o)) rfl ⟨(N_in (by omega) (by decide)), trivial⟩ ((aN_at (by omega)).trans (congrArg N (h2.trans (Nat.add_comm _ _)))) ?_
  refine Runs.topI 2 (cs := []) (pc' := 86) (pl' := [some (.ref 6), some (.int (N s)), some (.int (N 0)), some (.int (N i)), some (.int (N 15))]) (v := (N (j + 65)) - (N 65)) (v' := N j) (st' := [.int (N i), .int (N 0)]) (h' := (KP X cl cn cx ma ru sn sg sv cd ln pe pr ba fo us fr sc hs m o)) rfl trivial (NS (by omega)) ?_
  refine Runs.go 2 (cs := []) (pc' := 90) (pl' := [some (.ref 6), some (.int (N s)), some (.int (N 0)), some (.int (N i)), some (.int (N 15))]) (st' := [.int (N 15), .int (N 15), .int (N j), .int (N i), .int (N 0)]) (h' := (KP X cl cn cx ma ru sn sg sv cd ln pe pr ba fo us fr sc hs m o)) rfl trivial ?_
  refine Runs.cal (y := mX0_of) (as := [.int (N 0), .int (N i), .int (N j), .int (N 15), .int (N 15)]) (rest := []) (pc' := 93) (cs := []) (v := some (.int (N (encC 0 i j 15 15)))) (h1 := (KP X cl cn cx ma ru sn sg sv cd ln pe pr ba fo us fr sc hs m o)) rfl trivial (by decide) (c_of (by omega) (by omega) (by omega) (by omega)) ?_
  show Runs _ _ 93 _ [.int (N (encC 0 i j 15 15))] _ _ _ _
  exact Runs.retE (cs := []) rfl trivial (retI rfl) rfl
theorem c_doPart0a {X : Nat × (Nat → Int32)} {cl : Nat → Nat} {cn cx ma ru : Nat} {sn : SV} {sg : Nat → Option Nat} {sv : Nat → SV} {cd : Nat → Nat} {ln pe pr : Nat} {ba : Nat → Nat} {fo us : Nat} {fr : Bool} {sc : Nat} {hs : Bool} {m : MT} {o : Nat → Int64} {s : Nat} {i j : Nat} (hB : BF cd ln) (hD : ∀ i, i < 60 → cd i < 127) (hn : s + 2 < ln) (hi : i < 12) (hj : j < 12) (h2 : cd (s + 2) = 65 + j) (h0 : cd s = 65 + i) (h1 : cd (s + 1) = 61) (h12 : cn < 12) : Call 6 mX6_doPart [.ref 0, .int (N s)] (KP X cl cn cx ma ru sn sg sv cd ln pe pr ba fo us fr sc hs m o) (.inl (some (.int (N 1)))) (KP X (upn cl cn (encC 0 i j 15 15)) (cn + 1) cx ma ru sn sg sv cd ln pe pr ba fo us fr sc hs m o) 0 := by
  have hle := hB.1
  refine Runs.go 3 (cs := []) (pc' := 5) (pl' := [some (.ref 0), some (.int (N s))]) (st' := [.int (N s), .ref 6]) (h' := (KP X cl cn cx ma ru sn sg sv cd ln pe pr ba fo us fr sc hs m o)) rfl trivial ?_
  refine Runs.cal (y := mX5_isCrossAt) (as := [.ref 6, .int (N s)]) (rest := []) (pc' := 8) (cs := []) (v := some (.int (bI (decide (cd s = 120))))) (h1 := (KP X cl cn cx ma ru sn sg sv cd ln pe pr ba fo us fr sc hs m o)) rfl trivial (by decide) (t_isCrossAt (by omega) hB hD) ?_
  show Runs _ _ 8 _ [.int (bI (decide (cd s = 120)))] _ _ _ _
  refine Runs.go 1 (cs := []) (pc' := bif decide ((bI (decide (cd s = 120))) = 0) then 35 else 11) (pl' := [some (.ref 0), some (.int (N s))]) (st' := []) (h' := (KP X cl cn cx ma ru sn sg sv cd ln pe pr ba fo us fr sc hs m o)) rfl trivial ?_
  refine Runs.brT (decide_eq_true ((bI_0 _).mpr (decide_eq_false (by omega)))) ?_
  refine Runs.go 5 (cs := []) (pc' := bif decide ((N cn) < (N 12)) then 49 else 47) (pl' := [some (.ref 0), some (.int (N s))]) (st' := []) (h' := (KP X cl cn cx ma ru sn sg sv cd ln pe pr ba fo us fr sc hs m o)) rfl trivial ?_
  refine Runs.brT (decide_eq_true ((N_lt (a := cn) (b := 12) (by omega) (by omega)).mpr (by omega))) ?_
  refine Runs.go 5 (cs := []) (pc' := 58) (pl' := [some (.ref 0), some (.int (N s))]) (st' := [.int (N s), .ref 6, .ref 1]) (h' := (KP X cl cn cx ma ru sn sg sv cd ln pe pr ba fo us fr sc hs m o)) rfl trivial ?_
  refine Runs.cal (y := mX5_clueAt) (as := [.ref 6, .int (N s)]) (rest := [.ref 1]) (pc' := 61) (cs := []) (v := some (.int (N (encC 0 i j 15 15)))) (h1 := (KP X cl cn cx ma ru sn sg sv cd ln pe pr ba fo us fr sc hs m o)) rfl trivial (by decide) (t_clueAt0 hB hD hn hi hj h2 h0 h1) ?_
  show Runs _ _ 61 _ [.int (N (encC 0 i j 15 15)), .ref 1] _ _ _ _
  refine Runs.cal (y := mX3_addClue) (as := [.ref 1, .int (N (encC 0 i j 15 15))]) (rest := []) (pc' := 64) (cs := []) (v := none) (h1 := (KP X (upn cl cn (encC 0 i j 15 15)) (cn + 1) cx ma ru sn sg sv cd ln pe pr ba fo us fr sc hs m o)) rfl trivial (by decide) (c_addClueS (by omega)) ?_
  show Runs _ _ 64 _ [] _ _ _ _
  refine Runs.go 1 (cs := []) (pc' := 65) (pl' := [some (.ref 0), some (.int (N s))]) (st' := [.int (N 1)]) (h' := (KP X (upn cl cn (encC 0 i j 15 15)) (cn + 1) cx ma ru sn sg sv cd ln pe pr ba fo us fr sc hs m o)) rfl trivial ?_
  exact Runs.retE (cs := [(N 1 : Int32) = 0 ∨ (N 1 : Int32) = 1]) rfl ⟨Or.inr rfl, trivial⟩ rfl rfl
theorem c_doPart0b {X : Nat × (Nat → Int32)} {cl : Nat → Nat} {cn cx ma ru : Nat} {sn : SV} {sg : Nat → Option Nat} {sv : Nat → SV} {cd : Nat → Nat} {ln pe pr : Nat} {ba : Nat → Nat} {fo us : Nat} {fr : Bool} {sc : Nat} {hs : Bool} {m : MT} {o : Nat → Int64} {s : Nat} {i j : Nat} (hB : BF cd ln) (hD : ∀ i, i < 60 → cd i < 127) (hn : s + 2 < ln) (hi : i < 12) (hj : j < 12) (h2 : cd (s + 2) = 65 + j) (h0 : cd s = 65 + i) (h1 : cd (s + 1) = 61) (h12 : cn = 12) : Call 6 mX6_doPart [.ref 0, .int (N s)] (KP X cl cn cx ma ru sn sg sv cd ln pe pr ba fo us fr sc hs m o) (.inl (some (.int (N 0)))) (KP X cl cn cx ma ru sn sg sv cd ln pe pr ba fo us fr sc hs m o) 0 := by
  have hle := hB.1
  refine Runs.go 3 (cs := []) (pc' := 5) (pl' := [some (.ref 0), some (.int (N s))]) (st' := [.int (N s), .ref 6]) (h' := (KP X cl cn cx ma ru sn sg sv cd ln pe pr ba fo us fr sc hs m o)) rfl trivial ?_
  refine Runs.cal (y := mX5_isCrossAt) (as := [.ref 6, .int (N s)]) (rest := []) (pc' := 8) (cs := []) (v := some (.int (bI (decide (cd s = 120))))) (h1 := (KP X cl cn cx ma ru sn sg sv cd ln pe pr ba fo us fr sc hs m o)) rfl trivial (by decide) (t_isCrossAt (by omega) hB hD) ?_
  show Runs _ _ 8 _ [.int (bI (decide (cd s = 120)))] _ _ _ _
  refine Runs.go 1 (cs := []) (pc' := bif decide ((bI (decide (cd s = 120))) = 0) then 35 else 11) (pl' := [some (.ref 0), some (.int (N s))]) (st' := []) (h' := (KP X cl cn cx ma ru sn sg sv cd ln pe pr ba fo us fr sc hs m o)) rfl trivial ?_
  refine Runs.brT (decide_eq_true ((bI_0 _).mpr (decide_eq_false (by omega)))) ?_
  refine Runs.go 5 (cs := []) (pc' := bif decide ((N cn) < (N 12)) then 49 else 47) (pl' := [some (.ref 0), some (.int (N s))]) (st' := []) (h' := (KP X cl cn cx ma ru sn sg sv cd ln pe pr ba fo us fr sc hs m o)) rfl trivial ?_
  refine Runs.brF (decide_eq_false (fun zq9 => absurd ((N_lt (a := cn) (b := 12) (by omega) (by omega)).mp zq9) (by omega))) ?_
  refine Runs.go 1 (cs := []) (pc' := 48) (pl' := [some (.ref 0), some (.int (N s))]) (st' := [.int (N 0)]) (h' := (KP X cl cn cx ma ru sn sg sv cd ln pe pr ba fo us fr sc hs m o)) rfl trivial ?_
  exact Runs.retE (cs := [(N 0 : Int32) = 0 ∨ (N 0 : Int32) = 1]) rfl ⟨Or.inl rfl, trivial⟩ rfl rfl
theorem t_clueAt1 {X : Nat × (Nat → Int32)} {cl : Nat → Nat} {cn cx ma ru : Nat} {sn : SV} {sg : Nat → Option Nat} {sv : Nat → SV} {cd : Nat → Nat} {ln pe pr : Nat} {ba : Nat → Nat} {fo us : Nat} {fr : Bool} {sc : Nat} {hs : Bool} {m : MT} {o : Nat → Int64} {s : Nat} {i j : Nat} (hB : BF cd ln) (hD : ∀ i, i < 60 → cd i < 127) (hn : s + 2 < ln) (hi : i < 12) (hj : j < 12) (h2 : cd (s + 2) = 65 + j) (h0 : cd s = 65 + i) (h1 : cd (s + 1) = 35) : Call 5 mX5_clueAt [.ref 6, .int (N s)] (KP X cl cn cx ma ru sn sg sv cd ln pe pr ba fo us fr sc hs m o) (.inl (some (.int (N (encC 1 i j 15 15))))) (KP X cl cn cx ma ru sn sg sv cd ln pe pr ba fo us fr sc hs m o) 0 := by
  have hle := hB.1
  refine Runs.topI 4 (cs := []) (pc' := 4) (pl' := [some (.ref 6), some (.int (N s)), none, none, none]) (v := (N s) + (N 1)) (v' := N (s + 1)) (st' := [.ref 6]) (h' := (KP X cl cn cx ma ru sn sg sv cd ln pe pr ba fo us fr sc hs m o)) rfl trivial (NA (by omega)) ?_
  refine Runs.cal (y := mX5_signAt) (as := [.ref 6, .int (N (s + 1))]) (rest := []) (pc' := 7) (cs := []) (v := some (.int (sgI (cd (s + 1))))) (h1 := (KP X cl cn cx ma ru sn sg sv cd ln pe pr ba fo us fr sc hs m o)) rfl trivial (by decide) (t_signAt (by omega) hB hD) ?_
  show Runs _ _ 7 _ [.int (sgI (cd (s + 1)))] _ _ _ _
  rw [show sgI (cd (s + 1)) = N 1 by rw [h1]; rfl]
  refine Runs.topI 5 (cs := [vp_in (N s) 60]) (pc' := 14) (pl' := [some (.ref 6), some (.int (N s)), some (.int (N 1)), none, none]) (v := aN cd (N s).toNatClampNeg) (v' := N (i + 65)) (st' := []) (h' := (KP X cl cn cx ma ru sn sg sv cd ln pe pr ba fo us fr sc hs m o)) rfl ⟨(N_in (by omega) (by decide)), trivial⟩ ((aN_at (by omega)).trans (congrArg N (h0.trans (Nat.add_comm _ _)))) ?_
  refine Runs.topI 2 (cs := []) (pc' := 17) (pl' := [some (.ref 6), some (.int (N s)), some (.int (N 1)), none, none]) (v := (N (i + 65)) - (N 65)) (v' := N i) (st' := []) (h' := (KP X cl cn cx ma ru sn sg sv cd ln pe pr ba fo us fr sc hs m o)) rfl trivial (NS (by omega)) ?_
  refine Runs.go 4 (cs := []) (pc' := bif decide ((N 1) = (N 4)) then 28 else 23) (pl' := [some (.ref 6), some (.int (N s)), some (.int (N 1)), some (.int (N i)), none]) (st' := []) (h' := (KP X cl cn cx ma ru sn sg sv cd ln pe pr ba fo us fr sc hs m o)) rfl trivial ?_
  refine Runs.brF (decide_eq_false (by decide)) ?_
  refine Runs.go 3 (cs := []) (pc' := bif decide (¬ (N 1) = (N 5)) then 49 else 28) (pl' := [some (.ref 6), some (.int (N s)), some (.int (N 1)), some (.int (N i)), none]) (st' := []) (h' := (KP X cl cn cx ma ru sn sg sv cd ln pe pr ba fo us fr sc hs m o)) rfl trivial ?_
  refine Runs.brT (decide_eq_true (by decide)) ?_
  refine Runs.go 3 (cs := []) (pc' := bif decide (¬ (N 1) = (N 6)) then 69 else 55) (pl' := [some (.ref 6), some (.int (N s)), some (.int (N 1)), some (.int (N i)), none]) (st' := []) (h' := (KP X cl cn cx ma ru sn sg sv cd ln pe pr ba fo us fr sc hs m o)) rfl trivial ?_
  refine Runs.brT (decide_eq_true (by decide)) ?_
  refine Runs.topI 9 (cs := []) (pc' := 82) (pl' := [some (.ref 6), some (.int (N s)), some (.int (N 1)), some (.int (N i)), some (.int (N 15))]) (v := (N s) + (N 2)) (v' := N (s + 2)) (st' := [.ref 7, .int (N i), .int (N 1)]) (h' := (KP X cl cn cx ma ru sn sg sv cd ln pe pr ba fo us fr sc hs m o)) rfl trivial (NA (by omega)) ?_
  refine Runs.topI 1 (cs := [vp_in (N (s + 2)) 60]) (pc' := 83) (pl' := [some (.ref 6), some (.int (N s)), some (.int (N 1)), some (.int (N i)), some (.int (N 15))]) (v := aN cd (N (s + 2)).toNatClampNeg) (v' := N (j + 65)) (st' := [.int (N i), .int (N 1)]) (h' := (KP X cl cn cx ma ru sn sg sv cd ln pe pr ba fo us fr sc hs m o)) rfl ⟨(N_in (by omega) (by decide)), trivial⟩ ((aN_at (by omega)).trans (congrArg N (h2.trans (Nat.add_comm _ _)))) ?_
  refine Runs.topI 2 (cs := []) (pc' := 86) (pl' := [some (.ref 6), some (.int (N s)), some (.int (N 1)), some (.int (N i)), some (.int (N 15))]) (v := (N (j + 65)) - (N 65)) (v' := N j) (st' := [.int (N i), .int (N 1)]) (h' := (KP X cl cn cx ma ru sn sg sv cd ln pe pr ba fo us fr sc hs m o)) rfl trivial (NS (by omega)) ?_
  refine Runs.go 2 (cs := []) (pc' := 90) (pl' := [some (.ref 6), some (.int (N s)), some (.int (N 1)), some (.int (N i)), some (.int (N 15))]) (st' := [.int (N 15), .int (N 15), .int (N j), .int (N i), .int (N 1)]) (h' := (KP X cl cn cx ma ru sn sg sv cd ln pe pr ba fo us fr sc hs m o)) rfl trivial ?_
  refine Runs.cal (y := mX0_of) (as := [.int (N 1), .int (N i), .int (N j), .int (N 15), .int (N 15)]) (rest := []) (pc' := 93) (cs := []) (v := some (.int (N (encC 1 i j 15 15)))) (h1 := (KP X cl cn cx ma ru sn sg sv cd ln pe pr ba fo us fr sc hs m o)) rfl trivial (by decide) (c_of (by omega) (by omega) (by omega) (by omega)) ?_
  show Runs _ _ 93 _ [.int (N (encC 1 i j 15 15))] _ _ _ _
  exact Runs.retE (cs := []) rfl trivial (retI rfl) rfl
theorem c_doPart1a {X : Nat × (Nat → Int32)} {cl : Nat → Nat} {cn cx ma ru : Nat} {sn : SV} {sg : Nat → Option Nat} {sv : Nat → SV} {cd : Nat → Nat} {ln pe pr : Nat} {ba : Nat → Nat} {fo us : Nat} {fr : Bool} {sc : Nat} {hs : Bool} {m : MT} {o : Nat → Int64} {s : Nat} {i j : Nat} (hB : BF cd ln) (hD : ∀ i, i < 60 → cd i < 127) (hn : s + 2 < ln) (hi : i < 12) (hj : j < 12) (h2 : cd (s + 2) = 65 + j) (h0 : cd s = 65 + i) (h1 : cd (s + 1) = 35) (h12 : cn < 12) : Call 6 mX6_doPart [.ref 0, .int (N s)] (KP X cl cn cx ma ru sn sg sv cd ln pe pr ba fo us fr sc hs m o) (.inl (some (.int (N 1)))) (KP X (upn cl cn (encC 1 i j 15 15)) (cn + 1) cx ma ru sn sg sv cd ln pe pr ba fo us fr sc hs m o) 0 := by
  have hle := hB.1
  refine Runs.go 3 (cs := []) (pc' := 5) (pl' := [some (.ref 0), some (.int (N s))]) (st' := [.int (N s), .ref 6]) (h' := (KP X cl cn cx ma ru sn sg sv cd ln pe pr ba fo us fr sc hs m o)) rfl trivial ?_
  refine Runs.cal (y := mX5_isCrossAt) (as := [.ref 6, .int (N s)]) (rest := []) (pc' := 8) (cs := []) (v := some (.int (bI (decide (cd s = 120))))) (h1 := (KP X cl cn cx ma ru sn sg sv cd ln pe pr ba fo us fr sc hs m o)) rfl trivial (by decide) (t_isCrossAt (by omega) hB hD) ?_
  show Runs _ _ 8 _ [.int (bI (decide (cd s = 120)))] _ _ _ _
  refine Runs.go 1 (cs := []) (pc' := bif decide ((bI (decide (cd s = 120))) = 0) then 35 else 11) (pl' := [some (.ref 0), some (.int (N s))]) (st' := []) (h' := (KP X cl cn cx ma ru sn sg sv cd ln pe pr ba fo us fr sc hs m o)) rfl trivial ?_
  refine Runs.brT (decide_eq_true ((bI_0 _).mpr (decide_eq_false (by omega)))) ?_
  refine Runs.go 5 (cs := []) (pc' := bif decide ((N cn) < (N 12)) then 49 else 47) (pl' := [some (.ref 0), some (.int (N s))]) (st' := []) (h' := (KP X cl cn cx ma ru sn sg sv cd ln pe pr ba fo us fr sc hs m o)) rfl trivial ?_
  refine Runs.brT (decide_eq_true ((N_lt (a := cn) (b := 12) (by omega) (by omega)).mpr (by omega))) ?_
  refine Runs.go 5 (cs := []) (pc' := 58) (pl' := [some (.ref 0), some (.int (N s))]) (st' := [.int (N s), .ref 6, .ref 1]) (h' := (KP X cl cn cx ma ru sn sg sv cd ln pe pr ba fo us fr sc hs m o)) rfl trivial ?_
  refine Runs.cal (y := mX5_clueAt) (as := [.ref 6, .int (N s)]) (rest := [.ref 1]) (pc' := 61) (cs := []) (v := some (.int (N (encC 1 i j 15 15)))) (h1 := (KP X cl cn cx ma ru sn sg sv cd ln pe pr ba fo us fr sc hs m o)) rfl trivial (by decide) (t_clueAt1 hB hD hn hi hj h2 h0 h1) ?_
  show Runs _ _ 61 _ [.int (N (encC 1 i j 15 15)), .ref 1] _ _ _ _
  refine Runs.cal (y := mX3_addClue) (as := [.ref 1, .int (N (encC 1 i j 15 15))]) (rest := []) (pc' := 64) (cs := []) (v := none) (h1 := (KP X (upn cl cn (encC 1 i j 15 15)) (cn + 1) cx ma ru sn sg sv cd ln pe pr ba fo us fr sc hs m o)) rfl trivial (by decide) (c_addClueS (by omega)) ?_
  show Runs _ _ 64 _ [] _ _ _ _
  refine Runs.go 1 (cs := []) (pc' := 65) (pl' := [some (.ref 0), some (.int (N s))]) (st' := [.int (N 1)]) (h' := (KP X (upn cl cn (encC 1 i j 15 15)) (cn + 1) cx ma ru sn sg sv cd ln pe pr ba fo us fr sc hs m o)) rfl trivial ?_
  exact Runs.retE (cs := [(N 1 : Int32) = 0 ∨ (N 1 : Int32) = 1]) rfl ⟨Or.inr rfl, trivial⟩ rfl rfl
theorem c_doPart1b {X : Nat × (Nat → Int32)} {cl : Nat → Nat} {cn cx ma ru : Nat} {sn : SV} {sg : Nat → Option Nat} {sv : Nat → SV} {cd : Nat → Nat} {ln pe pr : Nat} {ba : Nat → Nat} {fo us : Nat} {fr : Bool} {sc : Nat} {hs : Bool} {m : MT} {o : Nat → Int64} {s : Nat} {i j : Nat} (hB : BF cd ln) (hD : ∀ i, i < 60 → cd i < 127) (hn : s + 2 < ln) (hi : i < 12) (hj : j < 12) (h2 : cd (s + 2) = 65 + j) (h0 : cd s = 65 + i) (h1 : cd (s + 1) = 35) (h12 : cn = 12) : Call 6 mX6_doPart [.ref 0, .int (N s)] (KP X cl cn cx ma ru sn sg sv cd ln pe pr ba fo us fr sc hs m o) (.inl (some (.int (N 0)))) (KP X cl cn cx ma ru sn sg sv cd ln pe pr ba fo us fr sc hs m o) 0 := by
  have hle := hB.1
  refine Runs.go 3 (cs := []) (pc' := 5) (pl' := [some (.ref 0), some (.int (N s))]) (st' := [.int (N s), .ref 6]) (h' := (KP X cl cn cx ma ru sn sg sv cd ln pe pr ba fo us fr sc hs m o)) rfl trivial ?_
  refine Runs.cal (y := mX5_isCrossAt) (as := [.ref 6, .int (N s)]) (rest := []) (pc' := 8) (cs := []) (v := some (.int (bI (decide (cd s = 120))))) (h1 := (KP X cl cn cx ma ru sn sg sv cd ln pe pr ba fo us fr sc hs m o)) rfl trivial (by decide) (t_isCrossAt (by omega) hB hD) ?_
  show Runs _ _ 8 _ [.int (bI (decide (cd s = 120)))] _ _ _ _
  refine Runs.go 1 (cs := []) (pc' := bif decide ((bI (decide (cd s = 120))) = 0) then 35 else 11) (pl' := [some (.ref 0), some (.int (N s))]) (st' := []) (h' := (KP X cl cn cx ma ru sn sg sv cd ln pe pr ba fo us fr sc hs m o)) rfl trivial ?_
  refine Runs.brT (decide_eq_true ((bI_0 _).mpr (decide_eq_false (by omega)))) ?_
  refine Runs.go 5 (cs := []) (pc' := bif decide ((N cn) < (N 12)) then 49 else 47) (pl' := [some (.ref 0), some (.int (N s))]) (st' := []) (h' := (KP X cl cn cx ma ru sn sg sv cd ln pe pr ba fo us fr sc hs m o)) rfl trivial ?_
  refine Runs.brF (decide_eq_false (fun zq9 => absurd ((N_lt (a := cn) (b := 12) (by omega) (by omega)).mp zq9) (by omega))) ?_
  refine Runs.go 1 (cs := []) (pc' := 48) (pl' := [some (.ref 0), some (.int (N s))]) (st' := [.int (N 0)]) (h' := (KP X cl cn cx ma ru sn sg sv cd ln pe pr ba fo us fr sc hs m o)) rfl trivial ?_
  exact Runs.retE (cs := [(N 0 : Int32) = 0 ∨ (N 0 : Int32) = 1]) rfl ⟨Or.inl rfl, trivial⟩ rfl rfl
theorem t_clueAt2 {X : Nat × (Nat → Int32)} {cl : Nat → Nat} {cn cx ma ru : Nat} {sn : SV} {sg : Nat → Option Nat} {sv : Nat → SV} {cd : Nat → Nat} {ln pe pr : Nat} {ba : Nat → Nat} {fo us : Nat} {fr : Bool} {sc : Nat} {hs : Bool} {m : MT} {o : Nat → Int64} {s : Nat} {i j : Nat} (hB : BF cd ln) (hD : ∀ i, i < 60 → cd i < 127) (hn : s + 2 < ln) (hi : i < 12) (hj : j < 12) (h2 : cd (s + 2) = 65 + j) (h0 : cd s = 65 + i) (h1 : cd (s + 1) = 60) : Call 5 mX5_clueAt [.ref 6, .int (N s)] (KP X cl cn cx ma ru sn sg sv cd ln pe pr ba fo us fr sc hs m o) (.inl (some (.int (N (encC 2 i j 15 15))))) (KP X cl cn cx ma ru sn sg sv cd ln pe pr ba fo us fr sc hs m o) 0 := by
  have hle := hB.1
  refine Runs.topI 4 (cs := []) (pc' := 4) (pl' := [some (.ref 6), some (.int (N s)), none, none, none]) (v := (N s) + (N 1)) (v' := N (s + 1)) (st' := [.ref 6]) (h' := (KP X cl cn cx ma ru sn sg sv cd ln pe pr ba fo us fr sc hs m o)) rfl trivial (NA (by omega)) ?_
  refine Runs.cal (y := mX5_signAt) (as := [.ref 6, .int (N (s + 1))]) (rest := []) (pc' := 7) (cs := []) (v := some (.int (sgI (cd (s + 1))))) (h1 := (KP X cl cn cx ma ru sn sg sv cd ln pe pr ba fo us fr sc hs m o)) rfl trivial (by decide) (t_signAt (by omega) hB hD) ?_
  show Runs _ _ 7 _ [.int (sgI (cd (s + 1)))] _ _ _ _
  rw [show sgI (cd (s + 1)) = N 2 by rw [h1]; rfl]
  refine Runs.topI 5 (cs := [vp_in (N s) 60]) (pc' := 14) (pl' := [some (.ref 6), some (.int (N s)), some (.int (N 2)), none, none]) (v := aN cd (N s).toNatClampNeg) (v' := N (i + 65)) (st' := []) (h' := (KP X cl cn cx ma ru sn sg sv cd ln pe pr ba fo us fr sc hs m o)) rfl ⟨(N_in (by omega) (by decide)), trivial⟩ ((aN_at (by omega)).trans (congrArg N (h0.trans (Nat.add_comm _ _)))) ?_
  refine Runs.topI 2 (cs := []) (pc' := 17) (pl' := [some (.ref 6), some (.int (N s)), some (.int (N 2)), none, none]) (v := (N (i + 65)) - (N 65)) (v' := N i) (st' := []) (h' := (KP X cl cn cx ma ru sn sg sv cd ln pe pr ba fo us fr sc hs m o)) rfl trivial (NS (by omega)) ?_
  refine Runs.go 4 (cs := []) (pc' := bif decide ((N 2) = (N 4)) then 28 else 23) (pl' := [some (.ref 6), some (.int (N s)), some (.int (N 2)), some (.int (N i)), none]) (st' := []) (h' := (KP X cl cn cx ma ru sn sg sv cd ln pe pr ba fo us fr sc hs m o)) rfl trivial ?_
  refine Runs.brF (decide_eq_false (by decide)) ?_
  refine Runs.go 3 (cs := []) (pc' := bif decide (¬ (N 2) = (N 5)) then 49 else 28) (pl' := [some (.ref 6), some (.int (N s)), some (.int (N 2)), some (.int (N i)), none]) (st' := []) (h' := (KP X cl cn cx ma ru sn sg sv cd ln pe pr ba fo us fr sc hs m o)) rfl trivial ?_
  refine Runs.brT (decide_eq_true (by decide)) ?_
  refine Runs.go 3 (cs := []) (pc' := bif decide (¬ (N 2) = (N 6)) then 69 else 55) (pl' := [some (.ref 6), some (.int (N s)), some (.int (N 2)), some (.int (N i)), none]) (st' := []) (h' := (KP X cl cn cx ma ru sn sg sv cd ln pe pr ba fo us fr sc hs m o)) rfl trivial ?_
  refine Runs.brT (decide_eq_true (by decide)) ?_
  refine Runs.topI 9 (cs := []) (pc' := 82) (pl' := [some (.ref 6), some (.int (N s)), some (.int (N 2)), some (.int (N i)), some (.int (N 15))]) (v := (N s) + (N 2)) (v' := N (s + 2)) (st' := [.ref 7, .int (N i), .int (N 2)]) (h' := (KP X cl cn cx ma ru sn sg sv cd ln pe pr ba fo us fr sc hs m o)) rfl trivial (NA (by omega)) ?_
  refine Runs.topI 1 (cs := [vp_in (N (s + 2)) 60]) (pc' := 83) (pl' := [some (.ref 6), some (.int (N s)), some (.int (N 2)), some (.int (N i)), some (.int (N 15))]) (v := aN cd (N (s + 2)).toNatClampNeg) (v' := N (j + 65)) (st' := [.int (N i), .int (N 2)]) (h' := (KP X cl cn cx ma ru sn sg sv cd ln pe pr ba fo us fr sc hs m o)) rfl ⟨(N_in (by omega) (by decide)), trivial⟩ ((aN_at (by omega)).trans (congrArg N (h2.trans (Nat.add_comm _ _)))) ?_
  refine Runs.topI 2 (cs := []) (pc' := 86) (pl' := [some (.ref 6), some (.int (N s)), some (.int (N 2)), some (.int (N i)), some (.int (N 15))]) (v := (N (j + 65)) - (N 65)) (v' := N j) (st' := [.int (N i), .int (N 2)]) (h' := (KP X cl cn cx ma ru sn sg sv cd ln pe pr ba fo us fr sc hs m o)) rfl trivial (NS (by omega)) ?_
  refine Runs.go 2 (cs := []) (pc' := 90) (pl' := [some (.ref 6), some (.int (N s)), some (.int (N 2)), some (.int (N i)), some (.int (N 15))]) (st' := [.int (N 15), .int (N 15), .int (N j), .int (N i), .int (N 2)]) (h' := (KP X cl cn cx ma ru sn sg sv cd ln pe pr ba fo us fr sc hs m o)) rfl trivial ?_
  refine Runs.cal (y := mX0_of) (as := [.int (N 2), .int (N i), .int (N j), .int (N 15), .int (N 15)]) (rest := []) (pc' := 93) (cs := []) (v := some (.int (N (encC 2 i j 15 15)))) (h1 := (KP X cl cn cx ma ru sn sg sv cd ln pe pr ba fo us fr sc hs m o)) rfl trivial (by decide) (c_of (by omega) (by omega) (by omega) (by omega)) ?_
  show Runs _ _ 93 _ [.int (N (encC 2 i j 15 15))] _ _ _ _
  exact Runs.retE (cs := []) rfl trivial (retI rfl) rfl
theorem c_doPart2a {X : Nat × (Nat → Int32)} {cl : Nat → Nat} {cn cx ma ru : Nat} {sn : SV} {sg : Nat → Option Nat} {sv : Nat → SV} {cd : Nat → Nat} {ln pe pr : Nat} {ba : Nat → Nat} {fo us : Nat} {fr : Bool} {sc : Nat} {hs : Bool} {m : MT} {o : Nat → Int64} {s : Nat} {i j : Nat} (hB : BF cd ln) (hD : ∀ i, i < 60 → cd i < 127) (hn : s + 2 < ln) (hi : i < 12) (hj : j < 12) (h2 : cd (s + 2) = 65 + j) (h0 : cd s = 65 + i) (h1 : cd (s + 1) = 60) (h12 : cn < 12) : Call 6 mX6_doPart [.ref 0, .int (N s)] (KP X cl cn cx ma ru sn sg sv cd ln pe pr ba fo us fr sc hs m o) (.inl (some (.int (N 1)))) (KP X (upn cl cn (encC 2 i j 15 15)) (cn + 1) cx ma ru sn sg sv cd ln pe pr ba fo us fr sc hs m o) 0 := by
  have hle := hB.1
  refine Runs.go 3 (cs := []) (pc' := 5) (pl' := [some (.ref 0), some (.int (N s))]) (st' := [.int (N s), .ref 6]) (h' := (KP X cl cn cx ma ru sn sg sv cd ln pe pr ba fo us fr sc hs m o)) rfl trivial ?_
  refine Runs.cal (y := mX5_isCrossAt) (as := [.ref 6, .int (N s)]) (rest := []) (pc' := 8) (cs := []) (v := some (.int (bI (decide (cd s = 120))))) (h1 := (KP X cl cn cx ma ru sn sg sv cd ln pe pr ba fo us fr sc hs m o)) rfl trivial (by decide) (t_isCrossAt (by omega) hB hD) ?_
  show Runs _ _ 8 _ [.int (bI (decide (cd s = 120)))] _ _ _ _
  refine Runs.go 1 (cs := []) (pc' := bif decide ((bI (decide (cd s = 120))) = 0) then 35 else 11) (pl' := [some (.ref 0), some (.int (N s))]) (st' := []) (h' := (KP X cl cn cx ma ru sn sg sv cd ln pe pr ba fo us fr sc hs m o)) rfl trivial ?_
  refine Runs.brT (decide_eq_true ((bI_0 _).mpr (decide_eq_false (by omega)))) ?_
  refine Runs.go 5 (cs := []) (pc' := bif decide ((N cn) < (N 12)) then 49 else 47) (pl' := [some (.ref 0), some (.int (N s))]) (st' := []) (h' := (KP X cl cn cx ma ru sn sg sv cd ln pe pr ba fo us fr sc hs m o)) rfl trivial ?_
  refine Runs.brT (decide_eq_true ((N_lt (a := cn) (b := 12) (by omega) (by omega)).mpr (by omega))) ?_
  refine Runs.go 5 (cs := []) (pc' := 58) (pl' := [some (.ref 0), some (.int (N s))]) (st' := [.int (N s), .ref 6, .ref 1]) (h' := (KP X cl cn cx ma ru sn sg sv cd ln pe pr ba fo us fr sc hs m o)) rfl trivial ?_
  refine Runs.cal (y := mX5_clueAt) (as := [.ref 6, .int (N s)]) (rest := [.ref 1]) (pc' := 61) (cs := []) (v := some (.int (N (encC 2 i j 15 15)))) (h1 := (KP X cl cn cx ma ru sn sg sv cd ln pe pr ba fo us fr sc hs m o)) rfl trivial (by decide) (t_clueAt2 hB hD hn hi hj h2 h0 h1) ?_
  show Runs _ _ 61 _ [.int (N (encC 2 i j 15 15)), .ref 1] _ _ _ _
  refine Runs.cal (y := mX3_addClue) (as := [.ref 1, .int (N (encC 2 i j 15 15))]) (rest := []) (pc' := 64) (cs := []) (v := none) (h1 := (KP X (upn cl cn (encC 2 i j 15 15)) (cn + 1) cx ma ru sn sg sv cd ln pe pr ba fo us fr sc hs m o)) rfl trivial (by decide) (c_addClueS (by omega)) ?_
  show Runs _ _ 64 _ [] _ _ _ _
  refine Runs.go 1 (cs := []) (pc' := 65) (pl' := [some (.ref 0), some (.int (N s))]) (st' := [.int (N 1)]) (h' := (KP X (upn cl cn (encC 2 i j 15 15)) (cn + 1) cx ma ru sn sg sv cd ln pe pr ba fo us fr sc hs m o)) rfl trivial ?_
  exact Runs.retE (cs := [(N 1 : Int32) = 0 ∨ (N 1 : Int32) = 1]) rfl ⟨Or.inr rfl, trivial⟩ rfl rfl
theorem c_doPart2b {X : Nat × (Nat → Int32)} {cl : Nat → Nat} {cn cx ma ru : Nat} {sn : SV} {sg : Nat → Option Nat} {sv : Nat → SV} {cd : Nat → Nat} {ln pe pr : Nat} {ba : Nat → Nat} {fo us : Nat} {fr : Bool} {sc : Nat} {hs : Bool} {m : MT} {o : Nat → Int64} {s : Nat} {i j : Nat} (hB : BF cd ln) (hD : ∀ i, i < 60 → cd i < 127) (hn : s + 2 < ln) (hi : i < 12) (hj : j < 12) (h2 : cd (s + 2) = 65 + j) (h0 : cd s = 65 + i) (h1 : cd (s + 1) = 60) (h12 : cn = 12) : Call 6 mX6_doPart [.ref 0, .int (N s)] (KP X cl cn cx ma ru sn sg sv cd ln pe pr ba fo us fr sc hs m o) (.inl (some (.int (N 0)))) (KP X cl cn cx ma ru sn sg sv cd ln pe pr ba fo us fr sc hs m o) 0 := by
  have hle := hB.1
  refine Runs.go 3 (cs := []) (pc' := 5) (pl' := [some (.ref 0), some (.int (N s))]) (st' := [.int (N s), .ref 6]) (h' := (KP X cl cn cx ma ru sn sg sv cd ln pe pr ba fo us fr sc hs m o)) rfl trivial ?_
  refine Runs.cal (y := mX5_isCrossAt) (as := [.ref 6, .int (N s)]) (rest := []) (pc' := 8) (cs := []) (v := some (.int (bI (decide (cd s = 120))))) (h1 := (KP X cl cn cx ma ru sn sg sv cd ln pe pr ba fo us fr sc hs m o)) rfl trivial (by decide) (t_isCrossAt (by omega) hB hD) ?_
  show Runs _ _ 8 _ [.int (bI (decide (cd s = 120)))] _ _ _ _
  refine Runs.go 1 (cs := []) (pc' := bif decide ((bI (decide (cd s = 120))) = 0) then 35 else 11) (pl' := [some (.ref 0), some (.int (N s))]) (st' := []) (h' := (KP X cl cn cx ma ru sn sg sv cd ln pe pr ba fo us fr sc hs m o)) rfl trivial ?_
  refine Runs.brT (decide_eq_true ((bI_0 _).mpr (decide_eq_false (by omega)))) ?_
  refine Runs.go 5 (cs := []) (pc' := bif decide ((N cn) < (N 12)) then 49 else 47) (pl' := [some (.ref 0), some (.int (N s))]) (st' := []) (h' := (KP X cl cn cx ma ru sn sg sv cd ln pe pr ba fo us fr sc hs m o)) rfl trivial ?_
  refine Runs.brF (decide_eq_false (fun zq9 => absurd ((N_lt (a := cn) (b := 12) (by omega) (by omega)).mp zq9) (by omega))) ?_
  refine Runs.go 1 (cs := []) (pc' := 48) (pl' := [some (.ref 0), some (.int (N s))]) (st' := [.int (N 0)]) (h' := (KP X cl cn cx ma ru sn sg sv cd ln pe pr ba fo us fr sc hs m o)) rfl trivial ?_
  exact Runs.retE (cs := [(N 0 : Int32) = 0 ∨ (N 0 : Int32) = 1]) rfl ⟨Or.inl rfl, trivial⟩ rfl rfl
theorem t_clueAt3 {X : Nat × (Nat → Int32)} {cl : Nat → Nat} {cn cx ma ru : Nat} {sn : SV} {sg : Nat → Option Nat} {sv : Nat → SV} {cd : Nat → Nat} {ln pe pr : Nat} {ba : Nat → Nat} {fo us : Nat} {fr : Bool} {sc : Nat} {hs : Bool} {m : MT} {o : Nat → Int64} {s : Nat} {i j : Nat} (hB : BF cd ln) (hD : ∀ i, i < 60 → cd i < 127) (hn : s + 2 < ln) (hi : i < 12) (hj : j < 12) (h2 : cd (s + 2) = 65 + j) (h0 : cd s = 65 + i) (h1 : cd (s + 1) = 126) : Call 5 mX5_clueAt [.ref 6, .int (N s)] (KP X cl cn cx ma ru sn sg sv cd ln pe pr ba fo us fr sc hs m o) (.inl (some (.int (N (encC 3 i j 15 15))))) (KP X cl cn cx ma ru sn sg sv cd ln pe pr ba fo us fr sc hs m o) 0 := by
  have hle := hB.1
  refine Runs.topI 4 (cs := []) (pc' := 4) (pl' := [some (.ref 6), some (.int (N s)), none, none, none]) (v := (N s) + (N 1)) (v' := N (s + 1)) (st' := [.ref 6]) (h' := (KP X cl cn cx ma ru sn sg sv cd ln pe pr ba fo us fr sc hs m o)) rfl trivial (NA (by omega)) ?_
  refine Runs.cal (y := mX5_signAt) (as := [.ref 6, .int (N (s + 1))]) (rest := []) (pc' := 7) (cs := []) (v := some (.int (sgI (cd (s + 1))))) (h1 := (KP X cl cn cx ma ru sn sg sv cd ln pe pr ba fo us fr sc hs m o)) rfl trivial (by decide) (t_signAt (by omega) hB hD) ?_
  show Runs _ _ 7 _ [.int (sgI (cd (s + 1)))] _ _ _ _
  rw [show sgI (cd (s + 1)) = N 3 by rw [h1]; rfl]
  refine Runs.topI 5 (cs := [vp_in (N s) 60]) (pc' := 14) (pl' := [some (.ref 6), some (.int (N s)), some (.int (N 3)), none, none]) (v := aN cd (N s).toNatClampNeg) (v' := N (i + 65)) (st' := []) (h' := (KP X cl cn cx ma ru sn sg sv cd ln pe pr ba fo us fr sc hs m o)) rfl ⟨(N_in (by omega) (by decide)), trivial⟩ ((aN_at (by omega)).trans (congrArg N (h0.trans (Nat.add_comm _ _)))) ?_
  refine Runs.topI 2 (cs := []) (pc' := 17) (pl' := [some (.ref 6), some (.int (N s)), some (.int (N 3)), none, none]) (v := (N (i + 65)) - (N 65)) (v' := N i) (st' := []) (h' := (KP X cl cn cx ma ru sn sg sv cd ln pe pr ba fo us fr sc hs m o)) rfl trivial (NS (by omega)) ?_
  refine Runs.go 4 (cs := []) (pc' := bif decide ((N 3) = (N 4)) then 28 else 23) (pl' := [some (.ref 6), some (.int (N s)), some (.int (N 3)), some (.int (N i)), none]) (st' := []) (h' := (KP X cl cn cx ma ru sn sg sv cd ln pe pr ba fo us fr sc hs m o)) rfl trivial ?_
  refine Runs.brF (decide_eq_false (by decide)) ?_
  refine Runs.go 3 (cs := []) (pc' := bif decide (¬ (N 3) = (N 5)) then 49 else 28) (pl' := [some (.ref 6), some (.int (N s)), some (.int (N 3)), some (.int (N i)), none]) (st' := []) (h' := (KP X cl cn cx ma ru sn sg sv cd ln pe pr ba fo us fr sc hs m o)) rfl trivial ?_
  refine Runs.brT (decide_eq_true (by decide)) ?_
  refine Runs.go 3 (cs := []) (pc' := bif decide (¬ (N 3) = (N 6)) then 69 else 55) (pl' := [some (.ref 6), some (.int (N s)), some (.int (N 3)), some (.int (N i)), none]) (st' := []) (h' := (KP X cl cn cx ma ru sn sg sv cd ln pe pr ba fo us fr sc hs m o)) rfl trivial ?_
  refine Runs.brT (decide_eq_true (by decide)) ?_
  refine Runs.topI 9 (cs := []) (pc' := 82) (pl' := [some (.ref 6), some (.int (N s)), some (.int (N 3)), some (.int (N i)), some (.int (N 15))]) (v := (N s) + (N 2)) (v' := N (s + 2)) (st' := [.ref 7, .int (N i), .int (N 3)]) (h' := (KP X cl cn cx ma ru sn sg sv cd ln pe pr ba fo us fr sc hs m o)) rfl trivial (NA (by omega)) ?_
  refine Runs.topI 1 (cs := [vp_in (N (s + 2)) 60]) (pc' := 83) (pl' := [some (.ref 6), some (.int (N s)), some (.int (N 3)), some (.int (N i)), some (.int (N 15))]) (v := aN cd (N (s + 2)).toNatClampNeg) (v' := N (j + 65)) (st' := [.int (N i), .int (N 3)]) (h' := (KP X cl cn cx ma ru sn sg sv cd ln pe pr ba fo us fr sc hs m o)) rfl ⟨(N_in (by omega) (by decide)), trivial⟩ ((aN_at (by omega)).trans (congrArg N (h2.trans (Nat.add_comm _ _)))) ?_
  refine Runs.topI 2 (cs := []) (pc' := 86) (pl' := [some (.ref 6), some (.int (N s)), some (.int (N 3)), some (.int (N i)), some (.int (N 15))]) (v := (N (j + 65)) - (N 65)) (v' := N j) (st' := [.int (N i), .int (N 3)]) (h' := (KP X cl cn cx ma ru sn sg sv cd ln pe pr ba fo us fr sc hs m o)) rfl trivial (NS (by omega)) ?_
  refine Runs.go 2 (cs := []) (pc' := 90) (pl' := [some (.ref 6), some (.int (N s)), some (.int (N 3)), some (.int (N i)), some (.int (N 15))]) (st' := [.int (N 15), .int (N 15), .int (N j), .int (N i), .int (N 3)]) (h' := (KP X cl cn cx ma ru sn sg sv cd ln pe pr ba fo us fr sc hs m o)) rfl trivial ?_
  refine Runs.cal (y := mX0_of) (as := [.int (N 3), .int (N i), .int (N j), .int (N 15), .int (N 15)]) (rest := []) (pc' := 93) (cs := []) (v := some (.int (N (encC 3 i j 15 15)))) (h1 := (KP X cl cn cx ma ru sn sg sv cd ln pe pr ba fo us fr sc hs m o)) rfl trivial (by decide) (c_of (by omega) (by omega) (by omega) (by omega)) ?_
  show Runs _ _ 93 _ [.int (N (encC 3 i j 15 15))] _ _ _ _
  exact Runs.retE (cs := []) rfl trivial (retI rfl) rfl
theorem c_doPart3a {X : Nat × (Nat → Int32)} {cl : Nat → Nat} {cn cx ma ru : Nat} {sn : SV} {sg : Nat → Option Nat} {sv : Nat → SV} {cd : Nat → Nat} {ln pe pr : Nat} {ba : Nat → Nat} {fo us : Nat} {fr : Bool} {sc : Nat} {hs : Bool} {m : MT} {o : Nat → Int64} {s : Nat} {i j : Nat} (hB : BF cd ln) (hD : ∀ i, i < 60 → cd i < 127) (hn : s + 2 < ln) (hi : i < 12) (hj : j < 12) (h2 : cd (s + 2) = 65 + j) (h0 : cd s = 65 + i) (h1 : cd (s + 1) = 126) (h12 : cn < 12) : Call 6 mX6_doPart [.ref 0, .int (N s)] (KP X cl cn cx ma ru sn sg sv cd ln pe pr ba fo us fr sc hs m o) (.inl (some (.int (N 1)))) (KP X (upn cl cn (encC 3 i j 15 15)) (cn + 1) cx ma ru sn sg sv cd ln pe pr ba fo us fr sc hs m o) 0 := by
  have hle := hB.1
  refine Runs.go 3 (cs := []) (pc' := 5) (pl' := [some (.ref 0), some (.int (N s))]) (st' := [.int (N s), .ref 6]) (h' := (KP X cl cn cx ma ru sn sg sv cd ln pe pr ba fo us fr sc hs m o)) rfl trivial ?_
  refine Runs.cal (y := mX5_isCrossAt) (as := [.ref 6, .int (N s)]) (rest := []) (pc' := 8) (cs := []) (v := some (.int (bI (decide (cd s = 120))))) (h1 := (KP X cl cn cx ma ru sn sg sv cd ln pe pr ba fo us fr sc hs m o)) rfl trivial (by decide) (t_isCrossAt (by omega) hB hD) ?_
  show Runs _ _ 8 _ [.int (bI (decide (cd s = 120)))] _ _ _ _
  refine Runs.go 1 (cs := []) (pc' := bif decide ((bI (decide (cd s = 120))) = 0) then 35 else 11) (pl' := [some (.ref 0), some (.int (N s))]) (st' := []) (h' := (KP X cl cn cx ma ru sn sg sv cd ln pe pr ba fo us fr sc hs m o)) rfl trivial ?_
  refine Runs.brT (decide_eq_true ((bI_0 _).mpr (decide_eq_false (by omega)))) ?_
  refine Runs.go 5 (cs := []) (pc' := bif decide ((N cn) < (N 12)) then 49 else 47) (pl' := [some (.ref 0), some (.int (N s))]) (st' := []) (h' := (KP X cl cn cx ma ru sn sg sv cd ln pe pr ba fo us fr sc hs m o)) rfl trivial ?_
  refine Runs.brT (decide_eq_true ((N_lt (a := cn) (b := 12) (by omega) (by omega)).mpr (by omega))) ?_
  refine Runs.go 5 (cs := []) (pc' := 58) (pl' := [some (.ref 0), some (.int (N s))]) (st' := [.int (N s), .ref 6, .ref 1]) (h' := (KP X cl cn cx ma ru sn sg sv cd ln pe pr ba fo us fr sc hs m o)) rfl trivial ?_
  refine Runs.cal (y := mX5_clueAt) (as := [.ref 6, .int (N s)]) (rest := [.ref 1]) (pc' := 61) (cs := []) (v := some (.int (N (encC 3 i j 15 15)))) (h1 := (KP X cl cn cx ma ru sn sg sv cd ln pe pr ba fo us fr sc hs m o)) rfl trivial (by decide) (t_clueAt3 hB hD hn hi hj h2 h0 h1) ?_
  show Runs _ _ 61 _ [.int (N (encC 3 i j 15 15)), .ref 1] _ _ _ _
  refine Runs.cal (y := mX3_addClue) (as := [.ref 1, .int (N (encC 3 i j 15 15))]) (rest := []) (pc' := 64) (cs := []) (v := none) (h1 := (KP X (upn cl cn (encC 3 i j 15 15)) (cn + 1) cx ma ru sn sg sv cd ln pe pr ba fo us fr sc hs m o)) rfl trivial (by decide) (c_addClueS (by omega)) ?_
  show Runs _ _ 64 _ [] _ _ _ _
  refine Runs.go 1 (cs := []) (pc' := 65) (pl' := [some (.ref 0), some (.int (N s))]) (st' := [.int (N 1)]) (h' := (KP X (upn cl cn (encC 3 i j 15 15)) (cn + 1) cx ma ru sn sg sv cd ln pe pr ba fo us fr sc hs m o)) rfl trivial ?_
  exact Runs.retE (cs := [(N 1 : Int32) = 0 ∨ (N 1 : Int32) = 1]) rfl ⟨Or.inr rfl, trivial⟩ rfl rfl
theorem c_doPart3b {X : Nat × (Nat → Int32)} {cl : Nat → Nat} {cn cx ma ru : Nat} {sn : SV} {sg : Nat → Option Nat} {sv : Nat → SV} {cd : Nat → Nat} {ln pe pr : Nat} {ba : Nat → Nat} {fo us : Nat} {fr : Bool} {sc : Nat} {hs : Bool} {m : MT} {o : Nat → Int64} {s : Nat} {i j : Nat} (hB : BF cd ln) (hD : ∀ i, i < 60 → cd i < 127) (hn : s + 2 < ln) (hi : i < 12) (hj : j < 12) (h2 : cd (s + 2) = 65 + j) (h0 : cd s = 65 + i) (h1 : cd (s + 1) = 126) (h12 : cn = 12) : Call 6 mX6_doPart [.ref 0, .int (N s)] (KP X cl cn cx ma ru sn sg sv cd ln pe pr ba fo us fr sc hs m o) (.inl (some (.int (N 0)))) (KP X cl cn cx ma ru sn sg sv cd ln pe pr ba fo us fr sc hs m o) 0 := by
  have hle := hB.1
  refine Runs.go 3 (cs := []) (pc' := 5) (pl' := [some (.ref 0), some (.int (N s))]) (st' := [.int (N s), .ref 6]) (h' := (KP X cl cn cx ma ru sn sg sv cd ln pe pr ba fo us fr sc hs m o)) rfl trivial ?_
  refine Runs.cal (y := mX5_isCrossAt) (as := [.ref 6, .int (N s)]) (rest := []) (pc' := 8) (cs := []) (v := some (.int (bI (decide (cd s = 120))))) (h1 := (KP X cl cn cx ma ru sn sg sv cd ln pe pr ba fo us fr sc hs m o)) rfl trivial (by decide) (t_isCrossAt (by omega) hB hD) ?_
  show Runs _ _ 8 _ [.int (bI (decide (cd s = 120)))] _ _ _ _
  refine Runs.go 1 (cs := []) (pc' := bif decide ((bI (decide (cd s = 120))) = 0) then 35 else 11) (pl' := [some (.ref 0), some (.int (N s))]) (st' := []) (h' := (KP X cl cn cx ma ru sn sg sv cd ln pe pr ba fo us fr sc hs m o)) rfl trivial ?_
  refine Runs.brT (decide_eq_true ((bI_0 _).mpr (decide_eq_false (by omega)))) ?_
  refine Runs.go 5 (cs := []) (pc' := bif decide ((N cn) < (N 12)) then 49 else 47) (pl' := [some (.ref 0), some (.int (N s))]) (st' := []) (h' := (KP X cl cn cx ma ru sn sg sv cd ln pe pr ba fo us fr sc hs m o)) rfl trivial ?_
  refine Runs.brF (decide_eq_false (fun zq9 => absurd ((N_lt (a := cn) (b := 12) (by omega) (by omega)).mp zq9) (by omega))) ?_
  refine Runs.go 1 (cs := []) (pc' := 48) (pl' := [some (.ref 0), some (.int (N s))]) (st' := [.int (N 0)]) (h' := (KP X cl cn cx ma ru sn sg sv cd ln pe pr ba fo us fr sc hs m o)) rfl trivial ?_
  exact Runs.retE (cs := [(N 0 : Int32) = 0 ∨ (N 0 : Int32) = 1]) rfl ⟨Or.inl rfl, trivial⟩ rfl rfl
theorem t_clueAt4 {X : Nat × (Nat → Int32)} {cl : Nat → Nat} {cn cx ma ru : Nat} {sn : SV} {sg : Nat → Option Nat} {sv : Nat → SV} {cd : Nat → Nat} {ln pe pr : Nat} {ba : Nat → Nat} {fo us : Nat} {fr : Bool} {sc : Nat} {hs : Bool} {m : MT} {o : Nat → Int64} {s : Nat} {i p : Nat} (hB : BF cd ln) (hD : ∀ i, i < 60 → cd i < 127) (hn : s + 2 < ln) (hi : i < 12) (hp : p < 4) (h2 : cd (s + 2) = 48 + p) (h0 : cd s = 65 + i) (h1 : cd (s + 1) = 64) : Call 5 mX5_clueAt [.ref 6, .int (N s)] (KP X cl cn cx ma ru sn sg sv cd ln pe pr ba fo us fr sc hs m o) (.inl (some (.int (N (encC 4 i 15 15 p))))) (KP X cl cn cx ma ru sn sg sv cd ln pe pr ba fo us fr sc hs m o) 0 := by
  have hle := hB.1
  refine Runs.topI 4 (cs := []) (pc' := 4) (pl' := [some (.ref 6), some (.int (N s)), none, none, none]) (v := (N s) + (N 1)) (v' := N (s + 1)) (st' := [.ref 6]) (h' := (KP X cl cn cx ma ru sn sg sv cd ln pe pr ba fo us fr sc hs m o)) rfl trivial (NA (by omega)) ?_
  refine Runs.cal (y := mX5_signAt) (as := [.ref 6, .int (N (s + 1))]) (rest := []) (pc' := 7) (cs := []) (v := some (.int (sgI (cd (s + 1))))) (h1 := (KP X cl cn cx ma ru sn sg sv cd ln pe pr ba fo us fr sc hs m o)) rfl trivial (by decide) (t_signAt (by omega) hB hD) ?_
  show Runs _ _ 7 _ [.int (sgI (cd (s + 1)))] _ _ _ _
  rw [show sgI (cd (s + 1)) = N 4 by rw [h1]; rfl]
  refine Runs.topI 5 (cs := [vp_in (N s) 60]) (pc' := 14) (pl' := [some (.ref 6), some (.int (N s)), some (.int (N 4)), none, none]) (v := aN cd (N s).toNatClampNeg) (v' := N (i + 65)) (st' := []) (h' := (KP X cl cn cx ma ru sn sg sv cd ln pe pr ba fo us fr sc hs m o)) rfl ⟨(N_in (by omega) (by decide)), trivial⟩ ((aN_at (by omega)).trans (congrArg N (h0.trans (Nat.add_comm _ _)))) ?_
  refine Runs.topI 2 (cs := []) (pc' := 17) (pl' := [some (.ref 6), some (.int (N s)), some (.int (N 4)), none, none]) (v := (N (i + 65)) - (N 65)) (v' := N i) (st' := []) (h' := (KP X cl cn cx ma ru sn sg sv cd ln pe pr ba fo us fr sc hs m o)) rfl trivial (NS (by omega)) ?_
  refine Runs.go 4 (cs := []) (pc' := bif decide ((N 4) = (N 4)) then 28 else 23) (pl' := [some (.ref 6), some (.int (N s)), some (.int (N 4)), some (.int (N i)), none]) (st' := []) (h' := (KP X cl cn cx ma ru sn sg sv cd ln pe pr ba fo us fr sc hs m o)) rfl trivial ?_
  refine Runs.brT (decide_eq_true (by decide)) ?_
  refine Runs.topI 9 (cs := []) (pc' := 41) (pl' := [some (.ref 6), some (.int (N s)), some (.int (N 4)), some (.int (N i)), none]) (v := (N s) + (N 2)) (v' := N (s + 2)) (st' := [.ref 7, .int (N 15), .int (N 15), .int (N i), .int (N 4)]) (h' := (KP X cl cn cx ma ru sn sg sv cd ln pe pr ba fo us fr sc hs m o)) rfl trivial (NA (by omega)) ?_
  refine Runs.topI 1 (cs := [vp_in (N (s + 2)) 60]) (pc' := 42) (pl' := [some (.ref 6), some (.int (N s)), some (.int (N 4)), some (.int (N i)), none]) (v := aN cd (N (s + 2)).toNatClampNeg) (v' := N (p + 48)) (st' := [.int (N 15), .int (N 15), .int (N i), .int (N 4)]) (h' := (KP X cl cn cx ma ru sn sg sv cd ln pe pr ba fo us fr sc hs m o)) rfl ⟨(N_in (by omega) (by decide)), trivial⟩ ((aN_at (by omega)).trans (congrArg N (h2.trans (Nat.add_comm _ _)))) ?_
  refine Runs.topI 2 (cs := []) (pc' := 45) (pl' := [some (.ref 6), some (.int (N s)), some (.int (N 4)), some (.int (N i)), none]) (v := (N (p + 48)) - (N 48)) (v' := N p) (st' := [.int (N 15), .int (N 15), .int (N i), .int (N 4)]) (h' := (KP X cl cn cx ma ru sn sg sv cd ln pe pr ba fo us fr sc hs m o)) rfl trivial (NS (by omega)) ?_
  refine Runs.cal (y := mX0_of) (as := [.int (N 4), .int (N i), .int (N 15), .int (N 15), .int (N p)]) (rest := []) (pc' := 48) (cs := []) (v := some (.int (N (encC 4 i 15 15 p)))) (h1 := (KP X cl cn cx ma ru sn sg sv cd ln pe pr ba fo us fr sc hs m o)) rfl trivial (by decide) (c_of (by omega) (by omega) (by omega) (by omega)) ?_
  show Runs _ _ 48 _ [.int (N (encC 4 i 15 15 p))] _ _ _ _
  exact Runs.retE (cs := []) rfl trivial (retI rfl) rfl
theorem c_doPart4a {X : Nat × (Nat → Int32)} {cl : Nat → Nat} {cn cx ma ru : Nat} {sn : SV} {sg : Nat → Option Nat} {sv : Nat → SV} {cd : Nat → Nat} {ln pe pr : Nat} {ba : Nat → Nat} {fo us : Nat} {fr : Bool} {sc : Nat} {hs : Bool} {m : MT} {o : Nat → Int64} {s : Nat} {i p : Nat} (hB : BF cd ln) (hD : ∀ i, i < 60 → cd i < 127) (hn : s + 2 < ln) (hi : i < 12) (hp : p < 4) (h2 : cd (s + 2) = 48 + p) (h0 : cd s = 65 + i) (h1 : cd (s + 1) = 64) (h12 : cn < 12) : Call 6 mX6_doPart [.ref 0, .int (N s)] (KP X cl cn cx ma ru sn sg sv cd ln pe pr ba fo us fr sc hs m o) (.inl (some (.int (N 1)))) (KP X (upn cl cn (encC 4 i 15 15 p)) (cn + 1) cx ma ru sn sg sv cd ln pe pr ba fo us fr sc hs m o) 0 := by
  have hle := hB.1
  refine Runs.go 3 (cs := []) (pc' := 5) (pl' := [some (.ref 0), some (.int (N s))]) (st' := [.int (N s), .ref 6]) (h' := (KP X cl cn cx ma ru sn sg sv cd ln pe pr ba fo us fr sc hs m o)) rfl trivial ?_
  refine Runs.cal (y := mX5_isCrossAt) (as := [.ref 6, .int (N s)]) (rest := []) (pc' := 8) (cs := []) (v := some (.int (bI (decide (cd s = 120))))) (h1 := (KP X cl cn cx ma ru sn sg sv cd ln pe pr ba fo us fr sc hs m o)) rfl trivial (by decide) (t_isCrossAt (by omega) hB hD) ?_
  show Runs _ _ 8 _ [.int (bI (decide (cd s = 120)))] _ _ _ _
  refine Runs.go 1 (cs := []) (pc' := bif decide ((bI (decide (cd s = 120))) = 0) then 35 else 11) (pl' := [some (.ref 0), some (.int (N s))]) (st' := []) (h' := (KP X cl cn cx ma ru sn sg sv cd ln pe pr ba fo us fr sc hs m o)) rfl trivial ?_
  refine Runs.brT (decide_eq_true ((bI_0 _).mpr (decide_eq_false (by omega)))) ?_
  refine Runs.go 5 (cs := []) (pc' := bif decide ((N cn) < (N 12)) then 49 else 47) (pl' := [some (.ref 0), some (.int (N s))]) (st' := []) (h' := (KP X cl cn cx ma ru sn sg sv cd ln pe pr ba fo us fr sc hs m o)) rfl trivial ?_
  refine Runs.brT (decide_eq_true ((N_lt (a := cn) (b := 12) (by omega) (by omega)).mpr (by omega))) ?_
  refine Runs.go 5 (cs := []) (pc' := 58) (pl' := [some (.ref 0), some (.int (N s))]) (st' := [.int (N s), .ref 6, .ref 1]) (h' := (KP X cl cn cx ma ru sn sg sv cd ln pe pr ba fo us fr sc hs m o)) rfl trivial ?_
  refine Runs.cal (y := mX5_clueAt) (as := [.ref 6, .int (N s)]) (rest := [.ref 1]) (pc' := 61) (cs := []) (v := some (.int (N (encC 4 i 15 15 p)))) (h1 := (KP X cl cn cx ma ru sn sg sv cd ln pe pr ba fo us fr sc hs m o)) rfl trivial (by decide) (t_clueAt4 hB hD hn hi hp h2 h0 h1) ?_
  show Runs _ _ 61 _ [.int (N (encC 4 i 15 15 p)), .ref 1] _ _ _ _
  refine Runs.cal (y := mX3_addClue) (as := [.ref 1, .int (N (encC 4 i 15 15 p))]) (rest := []) (pc' := 64) (cs := []) (v := none) (h1 := (KP X (upn cl cn (encC 4 i 15 15 p)) (cn + 1) cx ma ru sn sg sv cd ln pe pr ba fo us fr sc hs m o)) rfl trivial (by decide) (c_addClueS (by omega)) ?_
  show Runs _ _ 64 _ [] _ _ _ _
  refine Runs.go 1 (cs := []) (pc' := 65) (pl' := [some (.ref 0), some (.int (N s))]) (st' := [.int (N 1)]) (h' := (KP X (upn cl cn (encC 4 i 15 15 p)) (cn + 1) cx ma ru sn sg sv cd ln pe pr ba fo us fr sc hs m o)) rfl trivial ?_
  exact Runs.retE (cs := [(N 1 : Int32) = 0 ∨ (N 1 : Int32) = 1]) rfl ⟨Or.inr rfl, trivial⟩ rfl rfl
theorem c_doPart4b {X : Nat × (Nat → Int32)} {cl : Nat → Nat} {cn cx ma ru : Nat} {sn : SV} {sg : Nat → Option Nat} {sv : Nat → SV} {cd : Nat → Nat} {ln pe pr : Nat} {ba : Nat → Nat} {fo us : Nat} {fr : Bool} {sc : Nat} {hs : Bool} {m : MT} {o : Nat → Int64} {s : Nat} {i p : Nat} (hB : BF cd ln) (hD : ∀ i, i < 60 → cd i < 127) (hn : s + 2 < ln) (hi : i < 12) (hp : p < 4) (h2 : cd (s + 2) = 48 + p) (h0 : cd s = 65 + i) (h1 : cd (s + 1) = 64) (h12 : cn = 12) : Call 6 mX6_doPart [.ref 0, .int (N s)] (KP X cl cn cx ma ru sn sg sv cd ln pe pr ba fo us fr sc hs m o) (.inl (some (.int (N 0)))) (KP X cl cn cx ma ru sn sg sv cd ln pe pr ba fo us fr sc hs m o) 0 := by
  have hle := hB.1
  refine Runs.go 3 (cs := []) (pc' := 5) (pl' := [some (.ref 0), some (.int (N s))]) (st' := [.int (N s), .ref 6]) (h' := (KP X cl cn cx ma ru sn sg sv cd ln pe pr ba fo us fr sc hs m o)) rfl trivial ?_
  refine Runs.cal (y := mX5_isCrossAt) (as := [.ref 6, .int (N s)]) (rest := []) (pc' := 8) (cs := []) (v := some (.int (bI (decide (cd s = 120))))) (h1 := (KP X cl cn cx ma ru sn sg sv cd ln pe pr ba fo us fr sc hs m o)) rfl trivial (by decide) (t_isCrossAt (by omega) hB hD) ?_
  show Runs _ _ 8 _ [.int (bI (decide (cd s = 120)))] _ _ _ _
  refine Runs.go 1 (cs := []) (pc' := bif decide ((bI (decide (cd s = 120))) = 0) then 35 else 11) (pl' := [some (.ref 0), some (.int (N s))]) (st' := []) (h' := (KP X cl cn cx ma ru sn sg sv cd ln pe pr ba fo us fr sc hs m o)) rfl trivial ?_
  refine Runs.brT (decide_eq_true ((bI_0 _).mpr (decide_eq_false (by omega)))) ?_
  refine Runs.go 5 (cs := []) (pc' := bif decide ((N cn) < (N 12)) then 49 else 47) (pl' := [some (.ref 0), some (.int (N s))]) (st' := []) (h' := (KP X cl cn cx ma ru sn sg sv cd ln pe pr ba fo us fr sc hs m o)) rfl trivial ?_
  refine Runs.brF (decide_eq_false (fun zq9 => absurd ((N_lt (a := cn) (b := 12) (by omega) (by omega)).mp zq9) (by omega))) ?_
  refine Runs.go 1 (cs := []) (pc' := 48) (pl' := [some (.ref 0), some (.int (N s))]) (st' := [.int (N 0)]) (h' := (KP X cl cn cx ma ru sn sg sv cd ln pe pr ba fo us fr sc hs m o)) rfl trivial ?_
  exact Runs.retE (cs := [(N 0 : Int32) = 0 ∨ (N 0 : Int32) = 1]) rfl ⟨Or.inl rfl, trivial⟩ rfl rfl
theorem t_clueAt5 {X : Nat × (Nat → Int32)} {cl : Nat → Nat} {cn cx ma ru : Nat} {sn : SV} {sg : Nat → Option Nat} {sv : Nat → SV} {cd : Nat → Nat} {ln pe pr : Nat} {ba : Nat → Nat} {fo us : Nat} {fr : Bool} {sc : Nat} {hs : Bool} {m : MT} {o : Nat → Int64} {s : Nat} {i p : Nat} (hB : BF cd ln) (hD : ∀ i, i < 60 → cd i < 127) (hn : s + 2 < ln) (hi : i < 12) (hp : p < 4) (h2 : cd (s + 2) = 48 + p) (h0 : cd s = 65 + i) (h1 : cd (s + 1) = 33) : Call 5 mX5_clueAt [.ref 6, .int (N s)] (KP X cl cn cx ma ru sn sg sv cd ln pe pr ba fo us fr sc hs m o) (.inl (some (.int (N (encC 5 i 15 15 p))))) (KP X cl cn cx ma ru sn sg sv cd ln pe pr ba fo us fr sc hs m o) 0 := by
  have hle := hB.1
  refine Runs.topI 4 (cs := []) (pc' := 4) (pl' := [some (.ref 6), some (.int (N s)), none, none, none]) (v := (N s) + (N 1)) (v' := N (s + 1)) (st' := [.ref 6]) (h' := (KP X cl cn cx ma ru sn sg sv cd ln pe pr ba fo us fr sc hs m o)) rfl trivial (NA (by omega)) ?_
  refine Runs.cal (y := mX5_signAt) (as := [.ref 6, .int (N (s + 1))]) (rest := []) (pc' := 7) (cs := []) (v := some (.int (sgI (cd (s + 1))))) (h1 := (KP X cl cn cx ma ru sn sg sv cd ln pe pr ba fo us fr sc hs m o)) rfl trivial (by decide) (t_signAt (by omega) hB hD) ?_
  show Runs _ _ 7 _ [.int (sgI (cd (s + 1)))] _ _ _ _
  rw [show sgI (cd (s + 1)) = N 5 by rw [h1]; rfl]
  refine Runs.topI 5 (cs := [vp_in (N s) 60]) (pc' := 14) (pl' := [some (.ref 6), some (.int (N s)), some (.int (N 5)), none, none]) (v := aN cd (N s).toNatClampNeg) (v' := N (i + 65)) (st' := []) (h' := (KP X cl cn cx ma ru sn sg sv cd ln pe pr ba fo us fr sc hs m o)) rfl ⟨(N_in (by omega) (by decide)), trivial⟩ ((aN_at (by omega)).trans (congrArg N (h0.trans (Nat.add_comm _ _)))) ?_
  refine Runs.topI 2 (cs := []) (pc' := 17) (pl' := [some (.ref 6), some (.int (N s)), some (.int (N 5)), none, none]) (v := (N (i + 65)) - (N 65)) (v' := N i) (st' := []) (h' := (KP X cl cn cx ma ru sn sg sv cd ln pe pr ba fo us fr sc hs m o)) rfl trivial (NS (by omega)) ?_
  refine Runs.go 4 (cs := []) (pc' := bif decide ((N 5) = (N 4)) then 28 else 23) (pl' := [some (.ref 6), some (.int (N s)), some (.int (N 5)), some (.int (N i)), none]) (st' := []) (h' := (KP X cl cn cx ma ru sn sg sv cd ln pe pr ba fo us fr sc hs m o)) rfl trivial ?_
  refine Runs.brF (decide_eq_false (by decide)) ?_
  refine Runs.go 3 (cs := []) (pc' := bif decide (¬ (N 5) = (N 5)) then 49 else 28) (pl' := [some (.ref 6), some (.int (N s)), some (.int (N 5)), some (.int (N i)), none]) (st' := []) (h' := (KP X cl cn cx ma ru sn sg sv cd ln pe pr ba fo us fr sc hs m o)) rfl trivial ?_
  refine Runs.brF (decide_eq_false (by decide)) ?_
  refine Runs.topI 9 (cs := []) (pc' := 41) (pl' := [some (.ref 6), some (.int (N s)), some (.int (N 5)), some (.int (N i)), none]) (v := (N s) + (N 2)) (v' := N (s + 2)) (st' := [.ref 7, .int (N 15), .int (N 15), .int (N i), .int (N 5)]) (h' := (KP X cl cn cx ma ru sn sg sv cd ln pe pr ba fo us fr sc hs m o)) rfl trivial (NA (by omega)) ?_
  refine Runs.topI 1 (cs := [vp_in (N (s + 2)) 60]) (pc' := 42) (pl' := [some (.ref 6), some (.int (N s)), some (.int (N 5)), some (.int (N i)), none]) (v := aN cd (N (s + 2)).toNatClampNeg) (v' := N (p + 48)) (st' := [.int (N 15), .int (N 15), .int (N i), .int (N 5)]) (h' := (KP X cl cn cx ma ru sn sg sv cd ln pe pr ba fo us fr sc hs m o)) rfl ⟨(N_in (by omega) (by decide)), trivial⟩ ((aN_at (by omega)).trans (congrArg N (h2.trans (Nat.add_comm _ _)))) ?_
  refine Runs.topI 2 (cs := []) (pc' := 45) (pl' := [some (.ref 6), some (.int (N s)), some (.int (N 5)), some (.int (N i)), none]) (v := (N (p + 48)) - (N 48)) (v' := N p) (st' := [.int (N 15), .int (N 15), .int (N i), .int (N 5)]) (h' := (KP X cl cn cx ma ru sn sg sv cd ln pe pr ba fo us fr sc hs m o)) rfl trivial (NS (by omega)) ?_
  refine Runs.cal (y := mX0_of) (as := [.int (N 5), .int (N i), .int (N 15), .int (N 15), .int (N p)]) (rest := []) (pc' := 48) (cs := []) (v := some (.int (N (encC 5 i 15 15 p)))) (h1 := (KP X cl cn cx ma ru sn sg sv cd ln pe pr ba fo us fr sc hs m o)) rfl trivial (by decide) (c_of (by omega) (by omega) (by omega) (by omega)) ?_
  show Runs _ _ 48 _ [.int (N (encC 5 i 15 15 p))] _ _ _ _
  exact Runs.retE (cs := []) rfl trivial (retI rfl) rfl
theorem c_doPart5a {X : Nat × (Nat → Int32)} {cl : Nat → Nat} {cn cx ma ru : Nat} {sn : SV} {sg : Nat → Option Nat} {sv : Nat → SV} {cd : Nat → Nat} {ln pe pr : Nat} {ba : Nat → Nat} {fo us : Nat} {fr : Bool} {sc : Nat} {hs : Bool} {m : MT} {o : Nat → Int64} {s : Nat} {i p : Nat} (hB : BF cd ln) (hD : ∀ i, i < 60 → cd i < 127) (hn : s + 2 < ln) (hi : i < 12) (hp : p < 4) (h2 : cd (s + 2) = 48 + p) (h0 : cd s = 65 + i) (h1 : cd (s + 1) = 33) (h12 : cn < 12) : Call 6 mX6_doPart [.ref 0, .int (N s)] (KP X cl cn cx ma ru sn sg sv cd ln pe pr ba fo us fr sc hs m o) (.inl (some (.int (N 1)))) (KP X (upn cl cn (encC 5 i 15 15 p)) (cn + 1) cx ma ru sn sg sv cd ln pe pr ba fo us fr sc hs m o) 0 := by
  have hle := hB.1
  refine Runs.go 3 (cs := []) (pc' := 5) (pl' := [some (.ref 0), some (.int (N s))]) (st' := [.int (N s), .ref 6]) (h' := (KP X cl cn cx ma ru sn sg sv cd ln pe pr ba fo us fr sc hs m o)) rfl trivial ?_
  refine Runs.cal (y := mX5_isCrossAt) (as := [.ref 6, .int (N s)]) (rest := []) (pc' := 8) (cs := []) (v := some (.int (bI (decide (cd s = 120))))) (h1 := (KP X cl cn cx ma ru sn sg sv cd ln pe pr ba fo us fr sc hs m o)) rfl trivial (by decide) (t_isCrossAt (by omega) hB hD) ?_
  show Runs _ _ 8 _ [.int (bI (decide (cd s = 120)))] _ _ _ _
  refine Runs.go 1 (cs := []) (pc' := bif decide ((bI (decide (cd s = 120))) = 0) then 35 else 11) (pl' := [some (.ref 0), some (.int (N s))]) (st' := []) (h' := (KP X cl cn cx ma ru sn sg sv cd ln pe pr ba fo us fr sc hs m o)) rfl trivial ?_
  refine Runs.brT (decide_eq_true ((bI_0 _).mpr (decide_eq_false (by omega)))) ?_
  refine Runs.go 5 (cs := []) (pc' := bif decide ((N cn) < (N 12)) then 49 else 47) (pl' := [some (.ref 0), some (.int (N s))]) (st' := []) (h' := (KP X cl cn cx ma ru sn sg sv cd ln pe pr ba fo us fr sc hs m o)) rfl trivial ?_
  refine Runs.brT (decide_eq_true ((N_lt (a := cn) (b := 12) (by omega) (by omega)).mpr (by omega))) ?_
  refine Runs.go 5 (cs := []) (pc' := 58) (pl' := [some (.ref 0), some (.int (N s))]) (st' := [.int (N s), .ref 6, .ref 1]) (h' := (KP X cl cn cx ma ru sn sg sv cd ln pe pr ba fo us fr sc hs m o)) rfl trivial ?_
  refine Runs.cal (y := mX5_clueAt) (as := [.ref 6, .int (N s)]) (rest := [.ref 1]) (pc' := 61) (cs := []) (v := some (.int (N (encC 5 i 15 15 p)))) (h1 := (KP X cl cn cx ma ru sn sg sv cd ln pe pr ba fo us fr sc hs m o)) rfl trivial (by decide) (t_clueAt5 hB hD hn hi hp h2 h0 h1) ?_
  show Runs _ _ 61 _ [.int (N (encC 5 i 15 15 p)), .ref 1] _ _ _ _
  refine Runs.cal (y := mX3_addClue) (as := [.ref 1, .int (N (encC 5 i 15 15 p))]) (rest := []) (pc' := 64) (cs := []) (v := none) (h1 := (KP X (upn cl cn (encC 5 i 15 15 p)) (cn + 1) cx ma ru sn sg sv cd ln pe pr ba fo us fr sc hs m o)) rfl trivial (by decide) (c_addClueS (by omega)) ?_
  show Runs _ _ 64 _ [] _ _ _ _
  refine Runs.go 1 (cs := []) (pc' := 65) (pl' := [some (.ref 0), some (.int (N s))]) (st' := [.int (N 1)]) (h' := (KP X (upn cl cn (encC 5 i 15 15 p)) (cn + 1) cx ma ru sn sg sv cd ln pe pr ba fo us fr sc hs m o)) rfl trivial ?_
  exact Runs.retE (cs := [(N 1 : Int32) = 0 ∨ (N 1 : Int32) = 1]) rfl ⟨Or.inr rfl, trivial⟩ rfl rfl
theorem c_doPart5b {X : Nat × (Nat → Int32)} {cl : Nat → Nat} {cn cx ma ru : Nat} {sn : SV} {sg : Nat → Option Nat} {sv : Nat → SV} {cd : Nat → Nat} {ln pe pr : Nat} {ba : Nat → Nat} {fo us : Nat} {fr : Bool} {sc : Nat} {hs : Bool} {m : MT} {o : Nat → Int64} {s : Nat} {i p : Nat} (hB : BF cd ln) (hD : ∀ i, i < 60 → cd i < 127) (hn : s + 2 < ln) (hi : i < 12) (hp : p < 4) (h2 : cd (s + 2) = 48 + p) (h0 : cd s = 65 + i) (h1 : cd (s + 1) = 33) (h12 : cn = 12) : Call 6 mX6_doPart [.ref 0, .int (N s)] (KP X cl cn cx ma ru sn sg sv cd ln pe pr ba fo us fr sc hs m o) (.inl (some (.int (N 0)))) (KP X cl cn cx ma ru sn sg sv cd ln pe pr ba fo us fr sc hs m o) 0 := by
  have hle := hB.1
  refine Runs.go 3 (cs := []) (pc' := 5) (pl' := [some (.ref 0), some (.int (N s))]) (st' := [.int (N s), .ref 6]) (h' := (KP X cl cn cx ma ru sn sg sv cd ln pe pr ba fo us fr sc hs m o)) rfl trivial ?_
  refine Runs.cal (y := mX5_isCrossAt) (as := [.ref 6, .int (N s)]) (rest := []) (pc' := 8) (cs := []) (v := some (.int (bI (decide (cd s = 120))))) (h1 := (KP X cl cn cx ma ru sn sg sv cd ln pe pr ba fo us fr sc hs m o)) rfl trivial (by decide) (t_isCrossAt (by omega) hB hD) ?_
  show Runs _ _ 8 _ [.int (bI (decide (cd s = 120)))] _ _ _ _
  refine Runs.go 1 (cs := []) (pc' := bif decide ((bI (decide (cd s = 120))) = 0) then 35 else 11) (pl' := [some (.ref 0), some (.int (N s))]) (st' := []) (h' := (KP X cl cn cx ma ru sn sg sv cd ln pe pr ba fo us fr sc hs m o)) rfl trivial ?_
  refine Runs.brT (decide_eq_true ((bI_0 _).mpr (decide_eq_false (by omega)))) ?_
  refine Runs.go 5 (cs := []) (pc' := bif decide ((N cn) < (N 12)) then 49 else 47) (pl' := [some (.ref 0), some (.int (N s))]) (st' := []) (h' := (KP X cl cn cx ma ru sn sg sv cd ln pe pr ba fo us fr sc hs m o)) rfl trivial ?_
  refine Runs.brF (decide_eq_false (fun zq9 => absurd ((N_lt (a := cn) (b := 12) (by omega) (by omega)).mp zq9) (by omega))) ?_
  refine Runs.go 1 (cs := []) (pc' := 48) (pl' := [some (.ref 0), some (.int (N s))]) (st' := [.int (N 0)]) (h' := (KP X cl cn cx ma ru sn sg sv cd ln pe pr ba fo us fr sc hs m o)) rfl trivial ?_
  exact Runs.retE (cs := [(N 0 : Int32) = 0 ∨ (N 0 : Int32) = 1]) rfl ⟨Or.inl rfl, trivial⟩ rfl rfl
theorem t_clueAt6 {X : Nat × (Nat → Int32)} {cl : Nat → Nat} {cn cx ma ru : Nat} {sn : SV} {sg : Nat → Option Nat} {sv : Nat → SV} {cd : Nat → Nat} {ln pe pr : Nat} {ba : Nat → Nat} {fo us : Nat} {fr : Bool} {sc : Nat} {hs : Bool} {m : MT} {o : Nat → Int64} {s : Nat} {i j k : Nat} (hB : BF cd ln) (hD : ∀ i, i < 60 → cd i < 127) (hn : s + 3 < ln) (hi : i < 12) (hj : j < 12) (hk : k < 12) (h2 : cd (s + 2) = 65 + j) (h3 : cd (s + 3) = 65 + k) (h0 : cd s = 65 + i) (h1 : cd (s + 1) = 124) : Call 5 mX5_clueAt [.ref 6, .int (N s)] (KP X cl cn cx ma ru sn sg sv cd ln pe pr ba fo us fr sc hs m o) (.inl (some (.int (N (encC 6 i j k 15))))) (KP X cl cn cx ma ru sn sg sv cd ln pe pr ba fo us fr sc hs m o) 0 := by
  have hle := hB.1
  refine Runs.topI 4 (cs := []) (pc' := 4) (pl' := [some (.ref 6), some (.int (N s)), none, none, none]) (v := (N s) + (N 1)) (v' := N (s + 1)) (st' := [.ref 6]) (h' := (KP X cl cn cx ma ru sn sg sv cd ln pe pr ba fo us fr sc hs m o)) rfl trivial (NA (by omega)) ?_
  refine Runs.cal (y := mX5_signAt) (as := [.ref 6, .int (N (s + 1))]) (rest := []) (pc' := 7) (cs := []) (v := some (.int (sgI (cd (s + 1))))) (h1 := (KP X cl cn cx ma ru sn sg sv cd ln pe pr ba fo us fr sc hs m o)) rfl trivial (by decide) (t_signAt (by omega) hB hD) ?_
  show Runs _ _ 7 _ [.int (sgI (cd (s + 1)))] _ _ _ _
  rw [show sgI (cd (s + 1)) = N 6 by rw [h1]; rfl]
  refine Runs.topI 5 (cs := [vp_in (N s) 60]) (pc' := 14) (pl' := [some (.ref 6), some (.int (N s)), some (.int (N 6)), none, none]) (v := aN cd (N s).toNatClampNeg) (v' := N (i + 65)) (st' := []) (h' := (KP X cl cn cx ma ru sn sg sv cd ln pe pr ba fo us fr sc hs m o)) rfl ⟨(N_in (by omega) (by decide)), trivial⟩ ((aN_at (by omega)).trans (congrArg N (h0.trans (Nat.add_comm _ _)))) ?_
  refine Runs.topI 2 (cs := []) (pc' := 17) (pl' := [some (.ref 6), some (.int (N s)), some (.int (N 6)), none, none]) (v := (N (i + 65)) - (N 65)) (v' := N i) (st' := []) (h' := (KP X cl cn cx ma ru sn sg sv cd ln pe pr ba fo us fr sc hs m o)) rfl trivial (NS (by omega)) ?_
  refine Runs.go 4 (cs := []) (pc' := bif decide ((N 6) = (N 4)) then 28 else 23) (pl' := [some (.ref 6), some (.int (N s)), some (.int (N 6)), some (.int (N i)), none]) (st' := []) (h' := (KP X cl cn cx ma ru sn sg sv cd ln pe pr ba fo us fr sc hs m o)) rfl trivial ?_
  refine Runs.brF (decide_eq_false (by decide)) ?_
  refine Runs.go 3 (cs := []) (pc' := bif decide (¬ (N 6) = (N 5)) then 49 else 28) (pl' := [some (.ref 6), some (.int (N s)), some (.int (N 6)), some (.int (N i)), none]) (st' := []) (h' := (KP X cl cn cx ma ru sn sg sv cd ln pe pr ba fo us fr sc hs m o)) rfl trivial ?_
  refine Runs.brT (decide_eq_true (by decide)) ?_
  refine Runs.go 3 (cs := []) (pc' := bif decide (¬ (N 6) = (N 6)) then 69 else 55) (pl' := [some (.ref 6), some (.int (N s)), some (.int (N 6)), some (.int (N i)), none]) (st' := []) (h' := (KP X cl cn cx ma ru sn sg sv cd ln pe pr ba fo us fr sc hs m o)) rfl trivial ?_
  refine Runs.brF (decide_eq_false (by decide)) ?_
  refine Runs.topI 5 (cs := []) (pc' := 62) (pl' := [some (.ref 6), some (.int (N s)), some (.int (N 6)), some (.int (N i)), none]) (v := (N s) + (N 3)) (v' := N (s + 3)) (st' := [.ref 7]) (h' := (KP X cl cn cx ma ru sn sg sv cd ln pe pr ba fo us fr sc hs m o)) rfl trivial (NA (by omega)) ?_
  refine Runs.topI 1 (cs := [vp_in (N (s + 3)) 60]) (pc' := 63) (pl' := [some (.ref 6), some (.int (N s)), some (.int (N 6)), some (.int (N i)), none]) (v := aN cd (N (s + 3)).toNatClampNeg) (v' := N (k + 65)) (st' := []) (h' := (KP X cl cn cx ma ru sn sg sv cd ln pe pr ba fo us fr sc hs m o)) rfl ⟨(N_in (by omega) (by decide)), trivial⟩ ((aN_at (by omega)).trans (congrArg N (h3.trans (Nat.add_comm _ _)))) ?_
  refine Runs.topI 2 (cs := []) (pc' := 66) (pl' := [some (.ref 6), some (.int (N s)), some (.int (N 6)), some (.int (N i)), none]) (v := (N (k + 65)) - (N 65)) (v' := N k) (st' := []) (h' := (KP X cl cn cx ma ru sn sg sv cd ln pe pr ba fo us fr sc hs m o)) rfl trivial (NS (by omega)) ?_
  refine Runs.topI 9 (cs := []) (pc' := 82) (pl' := [some (.ref 6), some (.int (N s)), some (.int (N 6)), some (.int (N i)), some (.int (N k))]) (v := (N s) + (N 2)) (v' := N (s + 2)) (st' := [.ref 7, .int (N i), .int (N 6)]) (h' := (KP X cl cn cx ma ru sn sg sv cd ln pe pr ba fo us fr sc hs m o)) rfl trivial (NA (by omega)) ?_
  refine Runs.topI 1 (cs := [vp_in (N (s + 2)) 60]) (pc' := 83) (pl' := [some (.ref 6), some (.int (N s)), some (.int (N 6)), some (.int (N i)), some (.int (N k))]) (v := aN cd (N (s + 2)).toNatClampNeg) (v' := N (j + 65)) (st' := [.int (N i), .int (N 6)]) (h' := (KP X cl cn cx ma ru sn sg sv cd ln pe pr ba fo us fr sc hs m o)) rfl ⟨(N_in (by omega) (by decide)), trivial⟩ ((aN_at (by omega)).trans (congrArg N (h2.trans (Nat.add_comm _ _)))) ?_
  refine Runs.topI 2 (cs := []) (pc' := 86) (pl' := [some (.ref 6), some (.int (N s)), some (.int (N 6)), some (.int (N i)), some (.int (N k))]) (v := (N (j + 65)) - (N 65)) (v' := N j) (st' := [.int (N i), .int (N 6)]) (h' := (KP X cl cn cx ma ru sn sg sv cd ln pe pr ba fo us fr sc hs m o)) rfl trivial (NS (by omega)) ?_
  refine Runs.go 2 (cs := []) (pc' := 90) (pl' := [some (.ref 6), some (.int (N s)), some (.int (N 6)), some (.int (N i)), some (.int (N k))]) (st' := [.int (N 15), .int (N k), .int (N j), .int (N i), .int (N 6)]) (h' := (KP X cl cn cx ma ru sn sg sv cd ln pe pr ba fo us fr sc hs m o)) rfl trivial ?_
  refine Runs.cal (y := mX0_of) (as := [.int (N 6), .int (N i), .int (N j), .int (N k), .int (N 15)]) (rest := []) (pc' := 93) (cs := []) (v := some (.int (N (encC 6 i j k 15)))) (h1 := (KP X cl cn cx ma ru sn sg sv cd ln pe pr ba fo us fr sc hs m o)) rfl trivial (by decide) (c_of (by omega) (by omega) (by omega) (by omega)) ?_
  show Runs _ _ 93 _ [.int (N (encC 6 i j k 15))] _ _ _ _
  exact Runs.retE (cs := []) rfl trivial (retI rfl) rfl
theorem c_doPart6a {X : Nat × (Nat → Int32)} {cl : Nat → Nat} {cn cx ma ru : Nat} {sn : SV} {sg : Nat → Option Nat} {sv : Nat → SV} {cd : Nat → Nat} {ln pe pr : Nat} {ba : Nat → Nat} {fo us : Nat} {fr : Bool} {sc : Nat} {hs : Bool} {m : MT} {o : Nat → Int64} {s : Nat} {i j k : Nat} (hB : BF cd ln) (hD : ∀ i, i < 60 → cd i < 127) (hn : s + 3 < ln) (hi : i < 12) (hj : j < 12) (hk : k < 12) (h2 : cd (s + 2) = 65 + j) (h3 : cd (s + 3) = 65 + k) (h0 : cd s = 65 + i) (h1 : cd (s + 1) = 124) (h12 : cn < 12) : Call 6 mX6_doPart [.ref 0, .int (N s)] (KP X cl cn cx ma ru sn sg sv cd ln pe pr ba fo us fr sc hs m o) (.inl (some (.int (N 1)))) (KP X (upn cl cn (encC 6 i j k 15)) (cn + 1) cx ma ru sn sg sv cd ln pe pr ba fo us fr sc hs m o) 0 := by
  have hle := hB.1
  refine Runs.go 3 (cs := []) (pc' := 5) (pl' := [some (.ref 0), some (.int (N s))]) (st' := [.int (N s), .ref 6]) (h' := (KP X cl cn cx ma ru sn sg sv cd ln pe pr ba fo us fr sc hs m o)) rfl trivial ?_
  refine Runs.cal (y := mX5_isCrossAt) (as := [.ref 6, .int (N s)]) (rest := []) (pc' := 8) (cs := []) (v := some (.int (bI (decide (cd s = 120))))) (h1 := (KP X cl cn cx ma ru sn sg sv cd ln pe pr ba fo us fr sc hs m o)) rfl trivial (by decide) (t_isCrossAt (by omega) hB hD) ?_
  show Runs _ _ 8 _ [.int (bI (decide (cd s = 120)))] _ _ _ _
  refine Runs.go 1 (cs := []) (pc' := bif decide ((bI (decide (cd s = 120))) = 0) then 35 else 11) (pl' := [some (.ref 0), some (.int (N s))]) (st' := []) (h' := (KP X cl cn cx ma ru sn sg sv cd ln pe pr ba fo us fr sc hs m o)) rfl trivial ?_
  refine Runs.brT (decide_eq_true ((bI_0 _).mpr (decide_eq_false (by omega)))) ?_
  refine Runs.go 5 (cs := []) (pc' := bif decide ((N cn) < (N 12)) then 49 else 47) (pl' := [some (.ref 0), some (.int (N s))]) (st' := []) (h' := (KP X cl cn cx ma ru sn sg sv cd ln pe pr ba fo us fr sc hs m o)) rfl trivial ?_
  refine Runs.brT (decide_eq_true ((N_lt (a := cn) (b := 12) (by omega) (by omega)).mpr (by omega))) ?_
  refine Runs.go 5 (cs := []) (pc' := 58) (pl' := [some (.ref 0), some (.int (N s))]) (st' := [.int (N s), .ref 6, .ref 1]) (h' := (KP X cl cn cx ma ru sn sg sv cd ln pe pr ba fo us fr sc hs m o)) rfl trivial ?_
  refine Runs.cal (y := mX5_clueAt) (as := [.ref 6, .int (N s)]) (rest := [.ref 1]) (pc' := 61) (cs := []) (v := some (.int (N (encC 6 i j k 15)))) (h1 := (KP X cl cn cx ma ru sn sg sv cd ln pe pr ba fo us fr sc hs m o)) rfl trivial (by decide) (t_clueAt6 hB hD hn hi hj hk h2 h3 h0 h1) ?_
  show Runs _ _ 61 _ [.int (N (encC 6 i j k 15)), .ref 1] _ _ _ _
  refine Runs.cal (y := mX3_addClue) (as := [.ref 1, .int (N (encC 6 i j k 15))]) (rest := []) (pc' := 64) (cs := []) (v := none) (h1 := (KP X (upn cl cn (encC 6 i j k 15)) (cn + 1) cx ma ru sn sg sv cd ln pe pr ba fo us fr sc hs m o)) rfl trivial (by decide) (c_addClueS (by omega)) ?_
  show Runs _ _ 64 _ [] _ _ _ _
  refine Runs.go 1 (cs := []) (pc' := 65) (pl' := [some (.ref 0), some (.int (N s))]) (st' := [.int (N 1)]) (h' := (KP X (upn cl cn (encC 6 i j k 15)) (cn + 1) cx ma ru sn sg sv cd ln pe pr ba fo us fr sc hs m o)) rfl trivial ?_
  exact Runs.retE (cs := [(N 1 : Int32) = 0 ∨ (N 1 : Int32) = 1]) rfl ⟨Or.inr rfl, trivial⟩ rfl rfl
theorem c_doPart6b {X : Nat × (Nat → Int32)} {cl : Nat → Nat} {cn cx ma ru : Nat} {sn : SV} {sg : Nat → Option Nat} {sv : Nat → SV} {cd : Nat → Nat} {ln pe pr : Nat} {ba : Nat → Nat} {fo us : Nat} {fr : Bool} {sc : Nat} {hs : Bool} {m : MT} {o : Nat → Int64} {s : Nat} {i j k : Nat} (hB : BF cd ln) (hD : ∀ i, i < 60 → cd i < 127) (hn : s + 3 < ln) (hi : i < 12) (hj : j < 12) (hk : k < 12) (h2 : cd (s + 2) = 65 + j) (h3 : cd (s + 3) = 65 + k) (h0 : cd s = 65 + i) (h1 : cd (s + 1) = 124) (h12 : cn = 12) : Call 6 mX6_doPart [.ref 0, .int (N s)] (KP X cl cn cx ma ru sn sg sv cd ln pe pr ba fo us fr sc hs m o) (.inl (some (.int (N 0)))) (KP X cl cn cx ma ru sn sg sv cd ln pe pr ba fo us fr sc hs m o) 0 := by
  have hle := hB.1
  refine Runs.go 3 (cs := []) (pc' := 5) (pl' := [some (.ref 0), some (.int (N s))]) (st' := [.int (N s), .ref 6]) (h' := (KP X cl cn cx ma ru sn sg sv cd ln pe pr ba fo us fr sc hs m o)) rfl trivial ?_
  refine Runs.cal (y := mX5_isCrossAt) (as := [.ref 6, .int (N s)]) (rest := []) (pc' := 8) (cs := []) (v := some (.int (bI (decide (cd s = 120))))) (h1 := (KP X cl cn cx ma ru sn sg sv cd ln pe pr ba fo us fr sc hs m o)) rfl trivial (by decide) (t_isCrossAt (by omega) hB hD) ?_
  show Runs _ _ 8 _ [.int (bI (decide (cd s = 120)))] _ _ _ _
  refine Runs.go 1 (cs := []) (pc' := bif decide ((bI (decide (cd s = 120))) = 0) then 35 else 11) (pl' := [some (.ref 0), some (.int (N s))]) (st' := []) (h' := (KP X cl cn cx ma ru sn sg sv cd ln pe pr ba fo us fr sc hs m o)) rfl trivial ?_
  refine Runs.brT (decide_eq_true ((bI_0 _).mpr (decide_eq_false (by omega)))) ?_
  refine Runs.go 5 (cs := []) (pc' := bif decide ((N cn) < (N 12)) then 49 else 47) (pl' := [some (.ref 0), some (.int (N s))]) (st' := []) (h' := (KP X cl cn cx ma ru sn sg sv cd ln pe pr ba fo us fr sc hs m o)) rfl trivial ?_
  refine Runs.brF (decide_eq_false (fun zq9 => absurd ((N_lt (a := cn) (b := 12) (by omega) (by omega)).mp zq9) (by omega))) ?_
  refine Runs.go 1 (cs := []) (pc' := 48) (pl' := [some (.ref 0), some (.int (N s))]) (st' := [.int (N 0)]) (h' := (KP X cl cn cx ma ru sn sg sv cd ln pe pr ba fo us fr sc hs m o)) rfl trivial ?_
  exact Runs.retE (cs := [(N 0 : Int32) = 0 ∨ (N 0 : Int32) = 1]) rfl ⟨Or.inl rfl, trivial⟩ rfl rfl
theorem c_doPartX0 {X : Nat × (Nat → Int32)} {S : Nat → Nat} {cl : Nat → Nat} {sn : SV} {sg : Nat → Option Nat} {sv : Nat → SV} {cd : Nat → Nat} {ln pe pr : Nat} {ba : Nat → Nat} {fo us : Nat} {fr : Bool} {sc : Nat} {hs : Bool} {m : MT} {o : Nat → Int64} {s : Nat} (hV : VC S) {i p : Nat} (hB : BF cd ln) (hD : ∀ i, i < 60 → cd i < 127) (hn : s + 2 < ln) (hi : i < 12) (hp : p < 4) (h0 : cd s = 120) (h1 : cd (s + 1) = 65 + i) (h2 : cd (s + 2) = 48 + p) (hc : bt (CX S i) p = false) : Call 6 mX6_doPart [.ref 0, .int (N s)] (KP X cl (S 0) (pk (CX S)) (S 61) (S 62) sn sg sv cd ln pe pr ba fo us fr sc hs m o) (.inl (some (.int (N 1)))) (KP X cl ((crO S i p) 0) (pk (CX (crO S i p))) ((crO S i p) 61) ((crO S i p) 62) sn sg sv cd ln pe pr ba fo us fr sc hs m o) 0 := by
  have hle := hB.1
  refine Runs.go 3 (cs := []) (pc' := 5) (pl' := [some (.ref 0), some (.int (N s))]) (st' := [.int (N s), .ref 6]) (h' := (KP X cl (S 0) (pk (CX S)) (S 61) (S 62) sn sg sv cd ln pe pr ba fo us fr sc hs m o)) rfl trivial ?_
  refine Runs.cal (y := mX5_isCrossAt) (as := [.ref 6, .int (N s)]) (rest := []) (pc' := 8) (cs := []) (v := some (.int (bI (decide (cd s = 120))))) (h1 := (KP X cl (S 0) (pk (CX S)) (S 61) (S 62) sn sg sv cd ln pe pr ba fo us fr sc hs m o)) rfl trivial (by decide) (t_isCrossAt (by omega) hB hD) ?_
  show Runs _ _ 8 _ [.int (bI (decide (cd s = 120)))] _ _ _ _
  refine Runs.go 1 (cs := []) (pc' := bif decide ((bI (decide (cd s = 120))) = 0) then 35 else 11) (pl' := [some (.ref 0), some (.int (N s))]) (st' := []) (h' := (KP X cl (S 0) (pk (CX S)) (S 61) (S 62) sn sg sv cd ln pe pr ba fo us fr sc hs m o)) rfl trivial ?_
  refine Runs.brF (decide_eq_false (fun zq9 => absurd ((bI_0 _).mp zq9) (nT (decide_eq_true h0)))) ?_
  refine Runs.go 5 (cs := []) (pc' := 20) (pl' := [some (.ref 0), some (.int (N s))]) (st' := [.int (N s), .ref 6, .ref 1]) (h' := (KP X cl (S 0) (pk (CX S)) (S 61) (S 62) sn sg sv cd ln pe pr ba fo us fr sc hs m o)) rfl trivial ?_
  refine Runs.cal (y := mX5_crossAt) (as := [.ref 6, .int (N s)]) (rest := [.ref 1]) (pc' := 23) (cs := []) (v := some (.long (L (pk (sgl i (2 ^ p)))))) (h1 := (KP X cl (S 0) (pk (CX S)) (S 61) (S 62) sn sg sv cd ln pe pr ba fo us fr sc hs m o)) rfl trivial (by decide) (t_crossAt hB hD hn hi hp h0 h1 h2) ?_
  show Runs _ _ 23 _ [.long (L (pk (sgl i (2 ^ p)))), .ref 1] _ _ _ _
  refine Runs.cal (y := mX3_makeCrosses) (as := [.ref 1, .long (L (pk (sgl i (2 ^ p))))]) (rest := []) (pc' := 26) (cs := []) (v := some (.int (N (cntF (fun j => dif (sgl i (2 ^ p) j) (CX S j)))))) (h1 := (KP X cl (S 0) (pk (fun j => CX S j ||| sgl i (2 ^ p) j)) (S 61 + cntF (fun j => dif (sgl i (2 ^ p) j) (CX S j))) (S 62) sn sg sv cd ln pe pr ba fo us fr sc hs m o)) rfl trivial (by decide) (c_makeCrosses (T := sgl i (2 ^ p)) hV (sgl_16 (p2_lt hp))) ?_
  show Runs _ _ 26 _ [.int (N (cntF (fun j => dif (sgl i (2 ^ p) j) (CX S j))))] _ _ _ _
  rw [show N (cntF (fun j => dif (sgl i (2 ^ p) j) (CX S j))) = N 1 by rw [sgl_cnt hV hi hp, hc]; rfl]
  refine Runs.go 1 (cs := []) (pc' := bif decide ((N 1) ≤ 0) then 33 else 29) (pl' := [some (.ref 0), some (.int (N s))]) (st' := []) (h' := (KP X cl (S 0) (pk (fun j => CX S j ||| sgl i (2 ^ p) j)) (S 61 + cntF (fun j => dif (sgl i (2 ^ p) j) (CX S j))) (S 62) sn sg sv cd ln pe pr ba fo us fr sc hs m o)) rfl trivial ?_
  refine Runs.brF (decide_eq_false (by decide)) ?_
  refine Runs.go 2 (cs := []) (pc' := 34) (pl' := [some (.ref 0), some (.int (N s))]) (st' := [.int (N 1)]) (h' := (KP X cl (S 0) (pk (fun j => CX S j ||| sgl i (2 ^ p) j)) (S 61 + cntF (fun j => dif (sgl i (2 ^ p) j) (CX S j))) (S 62) sn sg sv cd ln pe pr ba fo us fr sc hs m o)) rfl trivial ?_
  exact Runs.retE (cs := [(N 1 : Int32) = 0 ∨ (N 1 : Int32) = 1]) rfl ⟨Or.inr rfl, trivial⟩ rfl (by rw [crO_CX hi, crO_61, crO_ne (show ¬ 0 = i + 49 by omega) (by decide), crO_ne (show ¬ 62 = i + 49 by omega) (by decide), sgl_cnt hV hi hp, hc]; rfl)
theorem c_doPartX1 {X : Nat × (Nat → Int32)} {S : Nat → Nat} {cl : Nat → Nat} {sn : SV} {sg : Nat → Option Nat} {sv : Nat → SV} {cd : Nat → Nat} {ln pe pr : Nat} {ba : Nat → Nat} {fo us : Nat} {fr : Bool} {sc : Nat} {hs : Bool} {m : MT} {o : Nat → Int64} {s : Nat} (hV : VC S) {i p : Nat} (hB : BF cd ln) (hD : ∀ i, i < 60 → cd i < 127) (hn : s + 2 < ln) (hi : i < 12) (hp : p < 4) (h0 : cd s = 120) (h1 : cd (s + 1) = 65 + i) (h2 : cd (s + 2) = 48 + p) (hc : bt (CX S i) p = true) : Call 6 mX6_doPart [.ref 0, .int (N s)] (KP X cl (S 0) (pk (CX S)) (S 61) (S 62) sn sg sv cd ln pe pr ba fo us fr sc hs m o) (.inl (some (.int (N 0)))) (KP X cl (S 0) (pk (CX S)) (S 61) (S 62) sn sg sv cd ln pe pr ba fo us fr sc hs m o) 0 := by
  have hle := hB.1
  refine Runs.go 3 (cs := []) (pc' := 5) (pl' := [some (.ref 0), some (.int (N s))]) (st' := [.int (N s), .ref 6]) (h' := (KP X cl (S 0) (pk (CX S)) (S 61) (S 62) sn sg sv cd ln pe pr ba fo us fr sc hs m o)) rfl trivial ?_
  refine Runs.cal (y := mX5_isCrossAt) (as := [.ref 6, .int (N s)]) (rest := []) (pc' := 8) (cs := []) (v := some (.int (bI (decide (cd s = 120))))) (h1 := (KP X cl (S 0) (pk (CX S)) (S 61) (S 62) sn sg sv cd ln pe pr ba fo us fr sc hs m o)) rfl trivial (by decide) (t_isCrossAt (by omega) hB hD) ?_
  show Runs _ _ 8 _ [.int (bI (decide (cd s = 120)))] _ _ _ _
  refine Runs.go 1 (cs := []) (pc' := bif decide ((bI (decide (cd s = 120))) = 0) then 35 else 11) (pl' := [some (.ref 0), some (.int (N s))]) (st' := []) (h' := (KP X cl (S 0) (pk (CX S)) (S 61) (S 62) sn sg sv cd ln pe pr ba fo us fr sc hs m o)) rfl trivial ?_
  refine Runs.brF (decide_eq_false (fun zq9 => absurd ((bI_0 _).mp zq9) (nT (decide_eq_true h0)))) ?_
  refine Runs.go 5 (cs := []) (pc' := 20) (pl' := [some (.ref 0), some (.int (N s))]) (st' := [.int (N s), .ref 6, .ref 1]) (h' := (KP X cl (S 0) (pk (CX S)) (S 61) (S 62) sn sg sv cd ln pe pr ba fo us fr sc hs m o)) rfl trivial ?_
  refine Runs.cal (y := mX5_crossAt) (as := [.ref 6, .int (N s)]) (rest := [.ref 1]) (pc' := 23) (cs := []) (v := some (.long (L (pk (sgl i (2 ^ p)))))) (h1 := (KP X cl (S 0) (pk (CX S)) (S 61) (S 62) sn sg sv cd ln pe pr ba fo us fr sc hs m o)) rfl trivial (by decide) (t_crossAt hB hD hn hi hp h0 h1 h2) ?_
  show Runs _ _ 23 _ [.long (L (pk (sgl i (2 ^ p)))), .ref 1] _ _ _ _
  refine Runs.cal (y := mX3_makeCrosses) (as := [.ref 1, .long (L (pk (sgl i (2 ^ p))))]) (rest := []) (pc' := 26) (cs := []) (v := some (.int (N (cntF (fun j => dif (sgl i (2 ^ p) j) (CX S j)))))) (h1 := (KP X cl (S 0) (pk (fun j => CX S j ||| sgl i (2 ^ p) j)) (S 61 + cntF (fun j => dif (sgl i (2 ^ p) j) (CX S j))) (S 62) sn sg sv cd ln pe pr ba fo us fr sc hs m o)) rfl trivial (by decide) (c_makeCrosses (T := sgl i (2 ^ p)) hV (sgl_16 (p2_lt hp))) ?_
  show Runs _ _ 26 _ [.int (N (cntF (fun j => dif (sgl i (2 ^ p) j) (CX S j))))] _ _ _ _
  rw [show N (cntF (fun j => dif (sgl i (2 ^ p) j) (CX S j))) = N 0 by rw [sgl_cnt hV hi hp, hc]; rfl]
  refine Runs.go 1 (cs := []) (pc' := bif decide ((N 0) ≤ 0) then 33 else 29) (pl' := [some (.ref 0), some (.int (N s))]) (st' := []) (h' := (KP X cl (S 0) (pk (fun j => CX S j ||| sgl i (2 ^ p) j)) (S 61 + cntF (fun j => dif (sgl i (2 ^ p) j) (CX S j))) (S 62) sn sg sv cd ln pe pr ba fo us fr sc hs m o)) rfl trivial ?_
  refine Runs.brT (decide_eq_true (by decide)) ?_
  refine Runs.go 1 (cs := []) (pc' := 34) (pl' := [some (.ref 0), some (.int (N s))]) (st' := [.int (N 0)]) (h' := (KP X cl (S 0) (pk (fun j => CX S j ||| sgl i (2 ^ p) j)) (S 61 + cntF (fun j => dif (sgl i (2 ^ p) j) (CX S j))) (S 62) sn sg sv cd ln pe pr ba fo us fr sc hs m o)) rfl trivial ?_
  exact Runs.retE (cs := [(N 0 : Int32) = 0 ∨ (N 0 : Int32) = 1]) rfl ⟨Or.inl rfl, trivial⟩ rfl (by rw [sgl_or hV hi hp hc, sgl_cnt hV hi hp, hc]; rfl)
theorem c_doPart {X : Nat × (Nat → Int32)} {S : Nat → Nat} {cl : Nat → Nat} {sn : SV} {sg : Nat → Option Nat} {sv : Nat → SV} {cd : Nat → Nat} {ln pe pr : Nat} {ba : Nat → Nat} {fo us : Nat} {fr : Bool} {sc : Nat} {hs : Bool} {m : MT} {o : Nat → Int64} {s : Nat} (hV : VC S) (hcl : ∀ k, k < S 0 → cl k = ecl S k) (hB : BF cd ln) (hD : ∀ i, i < 60 → cd i < 127) (hgd : gdC cd ln s) : ∃ cl', (∀ k, k < (doS cd S s).1 0 → cl' k = ecl (doS cd S s).1 k) ∧ VC (doS cd S s).1 ∧ Call 6 mX6_doPart [.ref 0, .int (N s)] (KP X cl (S 0) (pk (CX S)) (S 61) (S 62) sn sg sv cd ln pe pr ba fo us fr sc hs m o) (.inl (some (.int (bI (doS cd S s).2)))) (KP X cl' ((doS cd S s).1 0) (pk (CX (doS cd S s).1)) ((doS cd S s).1 61) ((doS cd S s).1 62) sn sg sv cd ln pe pr ba fo us fr sc hs m o) 0 := by
  rcases gd_cases hgd with ⟨-, hn, h0, i, p, hi, hp, h1, h2⟩ | ⟨-, hn, so, i, j, hso, hi, hj, hne, h0, h1, h2⟩ | ⟨-, hn, so, i, p, hso, hi, hp, h0, h1, h2⟩ | ⟨-, hn, i, j, k, hi, hj, hk, hne, hne2, hne3, h0, h1, h2, h3⟩
  · have e : ∀ b, bt (CX S i) p = b → bt (S (i + 49)) p = b := fun b h => by rw [CX_at hi] at h; exact h
    cases hc : bt (CX S i) p with
    | false =>
      have ed : doS cd S s = (crO S i p, true) := by
        unfold doS
        rw [if_pos h0, h1, h2, Nat.add_sub_cancel_left, Nat.add_sub_cancel_left, e false hc, if_neg Bool.false_ne_true]
      rw [ed]
      refine ⟨cl, fun k hk => ?_, crO_VC hV hi hp, c_doPartX0 hV hB hD hn hi hp h0 h1 h2 hc⟩
      have h0' : crO S i p 0 = S 0 := crO_ne (by omega) (by decide)
      have hk' : k < crO S i p 0 := hk
      rw [h0'] at hk'
      have := hV.2.1
      exact (hcl k hk').trans (crO_ecl (by omega)).symm
    | true =>
      have ed : doS cd S s = (S, false) := by
        unfold doS
        rw [if_pos h0, h1, h2, Nat.add_sub_cancel_left, Nat.add_sub_cancel_left, e true hc, if_pos rfl]
      rw [ed]
      exact ⟨cl, hcl, hV, c_doPartX1 hV hB hD hn hi hp h0 h1 h2 hc⟩
  · rcases (show so = 0 ∨ so = 1 ∨ so = 2 ∨ so = 3 by omega) with rfl | rfl | rfl | rfl
    · by_cases h12 : S 0 < 12
      · have ed : doS cd S s = (addS S 0 i j 0, true) := by
          unfold doS
          rw [if_neg (by omega), if_pos h12, h0, h1, h2]
          simp [soN, cdN]
        rw [ed]
        refine ⟨_, adS_cl hcl, adS_VC hV h12 (by omega) (by omega) (by omega) ⟨by decide, hi, fun z => by omega, fun _ _ => ⟨hj, hne⟩, fun z => by omega⟩, ?_⟩
        have w := c_doPart0a (X := X) (cl := cl) (cn := S 0) (cx := pk (CX S)) (ma := S 61) (ru := S 62) (sn := sn) (sg := sg) (sv := sv) (pe := pe) (pr := pr) (ba := ba) (fo := fo) (us := us) (fr := fr) (sc := sc) (hs := hs) (m := m) (o := o) hB hD hn hi hj h2 h0 h1 h12
        show Call 6 mX6_doPart _ _ _ (KP X (upn cl (S 0) (eclV 0 i j 0)) ((addS S 0 i j 0) 0) (pk (CX (addS S 0 i j 0))) ((addS S 0 i j 0) 61) ((addS S 0 i j 0) 62) sn sg sv cd ln pe pr ba fo us fr sc hs m o) 0
        rw [adS_0, adS_CX h12, adS_ne (by decide) (by omega), adS_ne (by decide) (by omega)]
        exact w
      · have ed : doS cd S s = (S, false) := by
          unfold doS
          rw [if_neg (by omega), if_neg h12]
        rw [ed]
        have e12 := hV.2.1
        exact ⟨cl, hcl, hV, c_doPart0b hB hD hn hi hj h2 h0 h1 (by omega)⟩
    · by_cases h12 : S 0 < 12
      · have ed : doS cd S s = (addS S 1 i j 0, true) := by
          unfold doS
          rw [if_neg (by omega), if_pos h12, h0, h1, h2]
          simp [soN, cdN]
        rw [ed]
        refine ⟨_, adS_cl hcl, adS_VC hV h12 (by omega) (by omega) (by omega) ⟨by decide, hi, fun z => by omega, fun _ _ => ⟨hj, hne⟩, fun z => by omega⟩, ?_⟩
        have w := c_doPart1a (X := X) (cl := cl) (cn := S 0) (cx := pk (CX S)) (ma := S 61) (ru := S 62) (sn := sn) (sg := sg) (sv := sv) (pe := pe) (pr := pr) (ba := ba) (fo := fo) (us := us) (fr := fr) (sc := sc) (hs := hs) (m := m) (o := o) hB hD hn hi hj h2 h0 h1 h12
        show Call 6 mX6_doPart _ _ _ (KP X (upn cl (S 0) (eclV 1 i j 0)) ((addS S 1 i j 0) 0) (pk (CX (addS S 1 i j 0))) ((addS S 1 i j 0) 61) ((addS S 1 i j 0) 62) sn sg sv cd ln pe pr ba fo us fr sc hs m o) 0
        rw [adS_0, adS_CX h12, adS_ne (by decide) (by omega), adS_ne (by decide) (by omega)]
        exact w
      · have ed : doS cd S s = (S, false) := by
          unfold doS
          rw [if_neg (by omega), if_neg h12]
        rw [ed]
        have e12 := hV.2.1
        exact ⟨cl, hcl, hV, c_doPart1b hB hD hn hi hj h2 h0 h1 (by omega)⟩
    · by_cases h12 : S 0 < 12
      · have ed : doS cd S s = (addS S 2 i j 0, true) := by
          unfold doS
          rw [if_neg (by omega), if_pos h12, h0, h1, h2]
          simp [soN, cdN]
        rw [ed]
        refine ⟨_, adS_cl hcl, adS_VC hV h12 (by omega) (by omega) (by omega) ⟨by decide, hi, fun z => by omega, fun _ _ => ⟨hj, hne⟩, fun z => by omega⟩, ?_⟩
        have w := c_doPart2a (X := X) (cl := cl) (cn := S 0) (cx := pk (CX S)) (ma := S 61) (ru := S 62) (sn := sn) (sg := sg) (sv := sv) (pe := pe) (pr := pr) (ba := ba) (fo := fo) (us := us) (fr := fr) (sc := sc) (hs := hs) (m := m) (o := o) hB hD hn hi hj h2 h0 h1 h12
        show Call 6 mX6_doPart _ _ _ (KP X (upn cl (S 0) (eclV 2 i j 0)) ((addS S 2 i j 0) 0) (pk (CX (addS S 2 i j 0))) ((addS S 2 i j 0) 61) ((addS S 2 i j 0) 62) sn sg sv cd ln pe pr ba fo us fr sc hs m o) 0
        rw [adS_0, adS_CX h12, adS_ne (by decide) (by omega), adS_ne (by decide) (by omega)]
        exact w
      · have ed : doS cd S s = (S, false) := by
          unfold doS
          rw [if_neg (by omega), if_neg h12]
        rw [ed]
        have e12 := hV.2.1
        exact ⟨cl, hcl, hV, c_doPart2b hB hD hn hi hj h2 h0 h1 (by omega)⟩
    · by_cases h12 : S 0 < 12
      · have ed : doS cd S s = (addS S 3 i j 0, true) := by
          unfold doS
          rw [if_neg (by omega), if_pos h12, h0, h1, h2]
          simp [soN, cdN]
        rw [ed]
        refine ⟨_, adS_cl hcl, adS_VC hV h12 (by omega) (by omega) (by omega) ⟨by decide, hi, fun z => by omega, fun _ _ => ⟨hj, hne⟩, fun z => by omega⟩, ?_⟩
        have w := c_doPart3a (X := X) (cl := cl) (cn := S 0) (cx := pk (CX S)) (ma := S 61) (ru := S 62) (sn := sn) (sg := sg) (sv := sv) (pe := pe) (pr := pr) (ba := ba) (fo := fo) (us := us) (fr := fr) (sc := sc) (hs := hs) (m := m) (o := o) hB hD hn hi hj h2 h0 h1 h12
        show Call 6 mX6_doPart _ _ _ (KP X (upn cl (S 0) (eclV 3 i j 0)) ((addS S 3 i j 0) 0) (pk (CX (addS S 3 i j 0))) ((addS S 3 i j 0) 61) ((addS S 3 i j 0) 62) sn sg sv cd ln pe pr ba fo us fr sc hs m o) 0
        rw [adS_0, adS_CX h12, adS_ne (by decide) (by omega), adS_ne (by decide) (by omega)]
        exact w
      · have ed : doS cd S s = (S, false) := by
          unfold doS
          rw [if_neg (by omega), if_neg h12]
        rw [ed]
        have e12 := hV.2.1
        exact ⟨cl, hcl, hV, c_doPart3b hB hD hn hi hj h2 h0 h1 (by omega)⟩
  · rcases hso with rfl | rfl
    · by_cases h12 : S 0 < 12
      · have ed : doS cd S s = (addS S 4 i p 0, true) := by
          unfold doS
          rw [if_neg (by omega), if_pos h12, h0, h1, h2]
          simp [soN, cdN]
        rw [ed]
        refine ⟨_, adS_cl hcl, adS_VC hV h12 (by omega) (by omega) (by omega) ⟨by decide, hi, fun _ => hp, fun z1 z2 => by omega, fun z => by omega⟩, ?_⟩
        have w := c_doPart4a (X := X) (cl := cl) (cn := S 0) (cx := pk (CX S)) (ma := S 61) (ru := S 62) (sn := sn) (sg := sg) (sv := sv) (pe := pe) (pr := pr) (ba := ba) (fo := fo) (us := us) (fr := fr) (sc := sc) (hs := hs) (m := m) (o := o) hB hD hn hi hp h2 h0 h1 h12
        show Call 6 mX6_doPart _ _ _ (KP X (upn cl (S 0) (eclV 4 i p 0)) ((addS S 4 i p 0) 0) (pk (CX (addS S 4 i p 0))) ((addS S 4 i p 0) 61) ((addS S 4 i p 0) 62) sn sg sv cd ln pe pr ba fo us fr sc hs m o) 0
        rw [adS_0, adS_CX h12, adS_ne (by decide) (by omega), adS_ne (by decide) (by omega)]
        exact w
      · have ed : doS cd S s = (S, false) := by
          unfold doS
          rw [if_neg (by omega), if_neg h12]
        rw [ed]
        have e12 := hV.2.1
        exact ⟨cl, hcl, hV, c_doPart4b hB hD hn hi hp h2 h0 h1 (by omega)⟩
    · by_cases h12 : S 0 < 12
      · have ed : doS cd S s = (addS S 5 i p 0, true) := by
          unfold doS
          rw [if_neg (by omega), if_pos h12, h0, h1, h2]
          simp [soN, cdN]
        rw [ed]
        refine ⟨_, adS_cl hcl, adS_VC hV h12 (by omega) (by omega) (by omega) ⟨by decide, hi, fun _ => hp, fun z1 z2 => by omega, fun z => by omega⟩, ?_⟩
        have w := c_doPart5a (X := X) (cl := cl) (cn := S 0) (cx := pk (CX S)) (ma := S 61) (ru := S 62) (sn := sn) (sg := sg) (sv := sv) (pe := pe) (pr := pr) (ba := ba) (fo := fo) (us := us) (fr := fr) (sc := sc) (hs := hs) (m := m) (o := o) hB hD hn hi hp h2 h0 h1 h12
        show Call 6 mX6_doPart _ _ _ (KP X (upn cl (S 0) (eclV 5 i p 0)) ((addS S 5 i p 0) 0) (pk (CX (addS S 5 i p 0))) ((addS S 5 i p 0) 61) ((addS S 5 i p 0) 62) sn sg sv cd ln pe pr ba fo us fr sc hs m o) 0
        rw [adS_0, adS_CX h12, adS_ne (by decide) (by omega), adS_ne (by decide) (by omega)]
        exact w
      · have ed : doS cd S s = (S, false) := by
          unfold doS
          rw [if_neg (by omega), if_neg h12]
        rw [ed]
        have e12 := hV.2.1
        exact ⟨cl, hcl, hV, c_doPart5b hB hD hn hi hp h2 h0 h1 (by omega)⟩
  · by_cases h12 : S 0 < 12
    · have ed : doS cd S s = (addS S 6 i j k, true) := by
        unfold doS
        rw [if_neg (by omega), if_pos h12, h0, h1, h2, h3]
        simp [soN, cdN]
      rw [ed]
      refine ⟨_, adS_cl hcl, adS_VC hV h12 (by omega) (by omega) (by omega) ⟨by decide, hi, fun z => by omega, fun _ _ => ⟨hj, hne⟩, fun _ => ⟨hk, hne2, hne3⟩⟩, ?_⟩
      have w := c_doPart6a (X := X) (cl := cl) (cn := S 0) (cx := pk (CX S)) (ma := S 61) (ru := S 62) (sn := sn) (sg := sg) (sv := sv) (pe := pe) (pr := pr) (ba := ba) (fo := fo) (us := us) (fr := fr) (sc := sc) (hs := hs) (m := m) (o := o) hB hD hn hi hj hk h2 h3 h0 h1 h12
      show Call 6 mX6_doPart _ _ _ (KP X (upn cl (S 0) (eclV 6 i j k)) ((addS S 6 i j k) 0) (pk (CX (addS S 6 i j k))) ((addS S 6 i j k) 61) ((addS S 6 i j k) 62) sn sg sv cd ln pe pr ba fo us fr sc hs m o) 0
      rw [adS_0, adS_CX h12, adS_ne (by decide) (by omega), adS_ne (by decide) (by omega)]
      exact w
    · have ed : doS cd S s = (S, false) := by
        unfold doS
        rw [if_neg (by omega), if_neg h12]
      rw [ed]
      have e12 := hV.2.1
      exact ⟨cl, hcl, hV, c_doPart6b hB hD hn hi hj hk h2 h3 h0 h1 (by omega)⟩
