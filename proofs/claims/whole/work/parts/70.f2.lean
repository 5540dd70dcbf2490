/-! THE CLASS: the first error of a text (gen_f2.py) -/
theorem t_fits {X : Nat × (Nat → Int32)} {cl : Nat → Nat} {cn cx ma ru : Nat} {sn : SV} {sg : Nat → Option Nat} {sv : Nat → SV} {cd : Nat → Nat} {ln pe pr : Nat} {ba : Nat → Nat} {fo us : Nat} {fr : Bool} {sc : Nat} {hs : Bool} {m : MT} {o : Nat → Int64} {s j : Nat} (hsj : s ≤ j) (hj : j < ln) (hB : BF cd ln) (hD : ∀ i, i < 60 → cd i < 127) : Call 6 mX5_fits [.ref 6, .int (N s), .int (N j)] (KP X cl cn cx ma ru sn sg sv cd ln pe pr ba fo us fr sc hs m o) (.inl (some (.int (bI (fit cd ln s j))))) (KP X cl cn cx ma ru sn sg sv cd ln pe pr ba fo us fr sc hs m o) 0 := by
  have hle := hB.1
  have hC : ∀ i, i < 60 → cd i < 127 := hD
  refine Runs.topI 4 (cs := [vp_in (N j) 60]) (pc' := 6) (pl' := [some (.ref 6), some (.int (N s)), some (.int (N j)), none, none]) (v := aN cd (N j).toNatClampNeg) (v' := N (cd j)) (st' := []) (h' := (KP X cl cn cx ma ru sn sg sv cd ln pe pr ba fo us fr sc hs m o)) rfl ⟨(N_in (by omega) (by decide)), trivial⟩ (aN_at (by omega)) ?_
  have b1 := hC (j) (by omega)
  refine Runs.topI 4 (cs := []) (pc' := 10) (pl' := [some (.ref 6), some (.int (N s)), some (.int (N j)), some (.int (N (cd j))), none]) (v := (N j) - (N s)) (v' := N (j - s)) (st' := []) (h' := (KP X cl cn cx ma ru sn sg sv cd ln pe pr ba fo us fr sc hs m o)) rfl trivial (NS (by omega)) ?_
  refine Runs.go 3 (cs := []) (pc' := bif decide (¬ (N (j - s)) = 0) then 36 else 17) (pl' := [some (.ref 6), some (.int (N s)), some (.int (N j)), some (.int (N (cd j))), some (.int (N (j - s)))]) (st' := []) (h' := (KP X cl cn cx ma ru sn sg sv cd ln pe pr ba fo us fr sc hs m o)) rfl trivial ?_
  refine Runs.br (fun z2 => ?_) (fun z2 => ?_)
  · replace z2 : ¬ ((j - s) = 0) := mt (N_eq (a := (j - s)) (b := 0) (by omega) (by omega)).mpr (of_decide_eq_true z2)
    refine Runs.go 3 (cs := []) (pc' := bif decide (¬ (N (j - s)) = (N 1)) then 72 else 42) (pl' := [some (.ref 6), some (.int (N s)), some (.int (N j)), some (.int (N (cd j))), some (.int (N (j - s)))]) (st' := []) (h' := (KP X cl cn cx ma ru sn sg sv cd ln pe pr ba fo us fr sc hs m o)) rfl trivial ?_
    refine Runs.br (fun z3 => ?_) (fun z3 => ?_)
    · replace z3 : ¬ ((j - s) = 1) := mt (N_eq (a := (j - s)) (b := 1) (by omega) (by omega)).mpr (of_decide_eq_true z3)
      refine Runs.go 3 (cs := []) (pc' := 76) (pl' := [some (.ref 6), some (.int (N s)), some (.int (N j)), some (.int (N (cd j))), some (.int (N (j - s)))]) (st' := [.int (N s), .ref 6, .int (N (j - s))]) (h' := (KP X cl cn cx ma ru sn sg sv cd ln pe pr ba fo us fr sc hs m o)) rfl trivial ?_
      refine Runs.cal (y := mX5_partLength) (as := [.ref 6, .int (N s)]) (rest := [.int (N (j - s))]) (pc' := 79) (cs := []) (v := some (.int (N (plN cd ln s)))) (h1 := (KP X cl cn cx ma ru sn sg sv cd ln pe pr ba fo us fr sc hs m o)) rfl trivial (by decide) (t_partLength (by omega) hB hD) ?_
      show Runs _ _ 79 _ [.int (N (plN cd ln s)), .int (N (j - s))] _ _ _ _
      have hpl1 := pl_34 cd ln s
      refine Runs.go 1 (cs := []) (pc' := bif decide (¬ (N (j - s)) = (N (plN cd ln s))) then 94 else 82) (pl' := [some (.ref 6), some (.int (N s)), some (.int (N j)), some (.int (N (cd j))), some (.int (N (j - s)))]) (st' := []) (h' := (KP X cl cn cx ma ru sn sg sv cd ln pe pr ba fo us fr sc hs m o)) rfl trivial ?_
      refine Runs.br (fun z4 => ?_) (fun z4 => ?_)
      · replace z4 : ¬ ((j - s) = plN cd ln s) := mt (N_eq (a := (j - s)) (b := plN cd ln s) (by omega) (by omega)).mpr (of_decide_eq_true z4)
        refine Runs.go 2 (cs := []) (pc' := 96) (pl' := [some (.ref 6), some (.int (N s)), some (.int (N j)), some (.int (N (cd j))), some (.int (N (j - s)))]) (st' := [.int (N s), .ref 6]) (h' := (KP X cl cn cx ma ru sn sg sv cd ln pe pr ba fo us fr sc hs m o)) rfl trivial ?_
        refine Runs.cal (y := mX5_endsWithPlace) (as := [.ref 6, .int (N s)]) (rest := []) (pc' := 99) (cs := []) (v := some (.int (bI (enP cd s)))) (h1 := (KP X cl cn cx ma ru sn sg sv cd ln pe pr ba fo us fr sc hs m o)) rfl trivial (by decide) (t_endsWithPlace (by omega) hB hD) ?_
        show Runs _ _ 99 _ [.int (bI (enP cd s))] _ _ _ _
        refine Runs.go 1 (cs := []) (pc' := bif decide ((bI (enP cd s)) = 0) then 120 else 102) (pl' := [some (.ref 6), some (.int (N s)), some (.int (N j)), some (.int (N (cd j))), some (.int (N (j - s)))]) (st' := []) (h' := (KP X cl cn cx ma ru sn sg sv cd ln pe pr ba fo us fr sc hs m o)) rfl trivial ?_
        refine Runs.br (fun z5 => ?_) (fun z5 => ?_)
        · replace z5 : (enP cd s) = false := (bI_0 _).mp (of_decide_eq_true z5)
          refine Runs.go 1 (cs := []) (pc' := 121) (pl' := [some (.ref 6), some (.int (N s)), some (.int (N j)), some (.int (N (cd j))), some (.int (N (j - s)))]) (st' := [.int (N (cd j))]) (h' := (KP X cl cn cx ma ru sn sg sv cd ln pe pr ba fo us fr sc hs m o)) rfl trivial ?_
          refine Runs.cal (y := mX5_isItem) (as := [.int (N (cd j))]) (rest := []) (pc' := 124) (cs := []) (v := some (.int (bI (isLt (cd j))))) (h1 := (KP X cl cn cx ma ru sn sg sv cd ln pe pr ba fo us fr sc hs m o)) rfl trivial (by decide) (t_isItem (by omega)) ?_
          show Runs _ _ 124 _ [.int (bI (isLt (cd j)))] _ _ _ _
          refine Runs.go 1 (cs := []) (pc' := bif decide ((bI (isLt (cd j))) = 0) then 159 else 127) (pl' := [some (.ref 6), some (.int (N s)), some (.int (N j)), some (.int (N (cd j))), some (.int (N (j - s)))]) (st' := []) (h' := (KP X cl cn cx ma ru sn sg sv cd ln pe pr ba fo us fr sc hs m o)) rfl trivial ?_
          refine Runs.br (fun z6 => ?_) (fun z6 => ?_)
          · replace z6 : (isLt (cd j)) = false := (bI_0 _).mp (of_decide_eq_true z6)
            refine Runs.go 1 (cs := []) (pc' := 160) (pl' := [some (.ref 6), some (.int (N s)), some (.int (N j)), some (.int (N (cd j))), some (.int (N (j - s)))]) (st' := [.int (N 0)]) (h' := (KP X cl cn cx ma ru sn sg sv cd ln pe pr ba fo us fr sc hs m o)) rfl trivial ?_
            exact Runs.retE (cs := [(N 0 : Int32) = 0 ∨ (N 0 : Int32) = 1]) rfl ⟨Or.inl rfl, trivial⟩ (retI (bIF (by rw [fit, if_neg (show ¬ j = s by omega), if_neg (show ¬ j = s + 1 by omega), if_neg (show ¬ j = s + plN cd ln s by omega), if_neg (by rw [z5]; decide)]; simp [z6]; try omega))) rfl
          · replace z6 : ¬ ((isLt (cd j)) = false) := mt (bI_0 _).mpr (of_decide_eq_false z6)
            refine Runs.topI 5 (cs := [vp_in (N s) 60]) (pc' := 134) (pl' := [some (.ref 6), some (.int (N s)), some (.int (N j)), some (.int (N (cd j))), some (.int (N (j - s)))]) (v := aN cd (N s).toNatClampNeg) (v' := N (cd s)) (st' := [.int (N (cd j))]) (h' := (KP X cl cn cx ma ru sn sg sv cd ln pe pr ba fo us fr sc hs m o)) rfl ⟨(N_in (by omega) (by decide)), trivial⟩ (aN_at (by omega)) ?_
            have b7 := hC (s) (by omega)
            refine Runs.go 1 (cs := []) (pc' := bif decide ((N (cd j)) = (N (cd s))) then 159 else 137) (pl' := [some (.ref 6), some (.int (N s)), some (.int (N j)), some (.int (N (cd j))), some (.int (N (j - s)))]) (st' := []) (h' := (KP X cl cn cx ma ru sn sg sv cd ln pe pr ba fo us fr sc hs m o)) rfl trivial ?_
            refine Runs.br (fun z8 => ?_) (fun z8 => ?_)
            · replace z8 : cd j = cd s := (N_eq (a := cd j) (b := cd s) (by omega) (by omega)).mp (of_decide_eq_true z8)
              refine Runs.go 1 (cs := []) (pc' := 160) (pl' := [some (.ref 6), some (.int (N s)), some (.int (N j)), some (.int (N (cd j))), some (.int (N (j - s)))]) (st' := [.int (N 0)]) (h' := (KP X cl cn cx ma ru sn sg sv cd ln pe pr ba fo us fr sc hs m o)) rfl trivial ?_
              exact Runs.retE (cs := [(N 0 : Int32) = 0 ∨ (N 0 : Int32) = 1]) rfl ⟨Or.inl rfl, trivial⟩ (retI (bIF (by rw [fit, if_neg (show ¬ j = s by omega), if_neg (show ¬ j = s + 1 by omega), if_neg (show ¬ j = s + plN cd ln s by omega), if_neg (by rw [z5]; decide)]; simp [z6, z8]; try omega))) rfl
            · replace z8 : ¬ (cd j = cd s) := mt (N_eq (a := cd j) (b := cd s) (by omega) (by omega)).mpr (of_decide_eq_false z8)
              refine Runs.go 3 (cs := []) (pc' := bif decide ((N (j - s)) = (N 2)) then 155 else 143) (pl' := [some (.ref 6), some (.int (N s)), some (.int (N j)), some (.int (N (cd j))), some (.int (N (j - s)))]) (st' := []) (h' := (KP X cl cn cx ma ru sn sg sv cd ln pe pr ba fo us fr sc hs m o)) rfl trivial ?_
              refine Runs.br (fun z9 => ?_) (fun z9 => ?_)
              · replace z9 : (j - s) = 2 := (N_eq (a := (j - s)) (b := 2) (by omega) (by omega)).mp (of_decide_eq_true z9)
                refine Runs.go 2 (cs := []) (pc' := 160) (pl' := [some (.ref 6), some (.int (N s)), some (.int (N j)), some (.int (N (cd j))), some (.int (N (j - s)))]) (st' := [.int (N 1)]) (h' := (KP X cl cn cx ma ru sn sg sv cd ln pe pr ba fo us fr sc hs m o)) rfl trivial ?_
                exact Runs.retE (cs := [(N 1 : Int32) = 0 ∨ (N 1 : Int32) = 1]) rfl ⟨Or.inr rfl, trivial⟩ (retI (bIT (by rw [fit, if_neg (show ¬ j = s by omega), if_neg (show ¬ j = s + 1 by omega), if_neg (show ¬ j = s + plN cd ln s by omega), if_neg (by rw [z5]; decide)]; simp [z6, z8, z9]; try omega))) rfl
              · replace z9 : ¬ ((j - s) = 2) := mt (N_eq (a := (j - s)) (b := 2) (by omega) (by omega)).mpr (of_decide_eq_false z9)
                refine Runs.topI 6 (cs := []) (pc' := 151) (pl' := [some (.ref 6), some (.int (N s)), some (.int (N j)), some (.int (N (cd j))), some (.int (N (j - s)))]) (v := (N s) + (N 2)) (v' := N (s + 2)) (st' := [.ref 7, .int (N (cd j))]) (h' := (KP X cl cn cx ma ru sn sg sv cd ln pe pr ba fo us fr sc hs m o)) rfl trivial (NA (by omega)) ?_
                refine Runs.topI 1 (cs := [vp_in (N (s + 2)) 60]) (pc' := 152) (pl' := [some (.ref 6), some (.int (N s)), some (.int (N j)), some (.int (N (cd j))), some (.int (N (j - s)))]) (v := aN cd (N (s + 2)).toNatClampNeg) (v' := N (cd (s + 2))) (st' := [.int (N (cd j))]) (h' := (KP X cl cn cx ma ru sn sg sv cd ln pe pr ba fo us fr sc hs m o)) rfl ⟨(N_in (by omega) (by decide)), trivial⟩ (aN_at (by omega)) ?_
                have b10 := hC (s + 2) (by omega)
                refine Runs.go 1 (cs := []) (pc' := bif decide ((N (cd j)) = (N (cd (s + 2)))) then 159 else 155) (pl' := [some (.ref 6), some (.int (N s)), some (.int (N j)), some (.int (N (cd j))), some (.int (N (j - s)))]) (st' := []) (h' := (KP X cl cn cx ma ru sn sg sv cd ln pe pr ba fo us fr sc hs m o)) rfl trivial ?_
                refine Runs.br (fun z11 => ?_) (fun z11 => ?_)
                · replace z11 : cd j = cd (s + 2) := (N_eq (a := cd j) (b := cd (s + 2)) (by omega) (by omega)).mp (of_decide_eq_true z11)
                  refine Runs.go 1 (cs := []) (pc' := 160) (pl' := [some (.ref 6), some (.int (N s)), some (.int (N j)), some (.int (N (cd j))), some (.int (N (j - s)))]) (st' := [.int (N 0)]) (h' := (KP X cl cn cx ma ru sn sg sv cd ln pe pr ba fo us fr sc hs m o)) rfl trivial ?_
                  exact Runs.retE (cs := [(N 0 : Int32) = 0 ∨ (N 0 : Int32) = 1]) rfl ⟨Or.inl rfl, trivial⟩ (retI (bIF (by rw [fit, if_neg (show ¬ j = s by omega), if_neg (show ¬ j = s + 1 by omega), if_neg (show ¬ j = s + plN cd ln s by omega), if_neg (by rw [z5]; decide)]; simp [z6, z8, z9, z11]; try omega))) rfl
                · replace z11 : ¬ (cd j = cd (s + 2)) := mt (N_eq (a := cd j) (b := cd (s + 2)) (by omega) (by omega)).mpr (of_decide_eq_false z11)
                  refine Runs.go 2 (cs := []) (pc' := 160) (pl' := [some (.ref 6), some (.int (N s)), some (.int (N j)), some (.int (N (cd j))), some (.int (N (j - s)))]) (st' := [.int (N 1)]) (h' := (KP X cl cn cx ma ru sn sg sv cd ln pe pr ba fo us fr sc hs m o)) rfl trivial ?_
                  exact Runs.retE (cs := [(N 1 : Int32) = 0 ∨ (N 1 : Int32) = 1]) rfl ⟨Or.inr rfl, trivial⟩ (retI (bIT (by rw [fit, if_neg (show ¬ j = s by omega), if_neg (show ¬ j = s + 1 by omega), if_neg (show ¬ j = s + plN cd ln s by omega), if_neg (by rw [z5]; decide)]; simp [z6, z8, z9, z11]; try omega))) rfl
        · replace z5 : ¬ ((enP cd s) = false) := mt (bI_0 _).mpr (of_decide_eq_false z5)
          refine Runs.go 3 (cs := []) (pc' := bif decide ((N (cd j)) < (N 48)) then 118 else 108) (pl' := [some (.ref 6), some (.int (N s)), some (.int (N j)), some (.int (N (cd j))), some (.int (N (j - s)))]) (st' := []) (h' := (KP X cl cn cx ma ru sn sg sv cd ln pe pr ba fo us fr sc hs m o)) rfl trivial ?_
          refine Runs.br (fun z12 => ?_) (fun z12 => ?_)
          · replace z12 : cd j < 48 := (N_lt (a := cd j) (b := 48) (by omega) (by omega)).mp (of_decide_eq_true z12)
            refine Runs.go 1 (cs := []) (pc' := 119) (pl' := [some (.ref 6), some (.int (N s)), some (.int (N j)), some (.int (N (cd j))), some (.int (N (j - s)))]) (st' := [.int (N 0)]) (h' := (KP X cl cn cx ma ru sn sg sv cd ln pe pr ba fo us fr sc hs m o)) rfl trivial ?_
            exact Runs.retE (cs := [(N 0 : Int32) = 0 ∨ (N 0 : Int32) = 1]) rfl ⟨Or.inl rfl, trivial⟩ (retI (bIF (by rw [fit, if_neg (show ¬ j = s by omega), if_neg (show ¬ j = s + 1 by omega), if_neg (show ¬ j = s + plN cd ln s by omega), if_pos (bT z5)]; unfold isDg; simp; omega))) rfl
          · replace z12 : ¬ (cd j < 48) := mt (N_lt (a := cd j) (b := 48) (by omega) (by omega)).mpr (of_decide_eq_false z12)
            refine Runs.go 3 (cs := []) (pc' := bif decide ((N 52) ≤ (N (cd j))) then 118 else 114) (pl' := [some (.ref 6), some (.int (N s)), some (.int (N j)), some (.int (N (cd j))), some (.int (N (j - s)))]) (st' := []) (h' := (KP X cl cn cx ma ru sn sg sv cd ln pe pr ba fo us fr sc hs m o)) rfl trivial ?_
            refine Runs.br (fun z13 => ?_) (fun z13 => ?_)
            · replace z13 : 52 ≤ cd j := (N_le (a := 52) (b := cd j) (by omega) (by omega)).mp (of_decide_eq_true z13)
              refine Runs.go 1 (cs := []) (pc' := 119) (pl' := [some (.ref 6), some (.int (N s)), some (.int (N j)), some (.int (N (cd j))), some (.int (N (j - s)))]) (st' := [.int (N 0)]) (h' := (KP X cl cn cx ma ru sn sg sv cd ln pe pr ba fo us fr sc hs m o)) rfl trivial ?_
              exact Runs.retE (cs := [(N 0 : Int32) = 0 ∨ (N 0 : Int32) = 1]) rfl ⟨Or.inl rfl, trivial⟩ (retI (bIF (by rw [fit, if_neg (show ¬ j = s by omega), if_neg (show ¬ j = s + 1 by omega), if_neg (show ¬ j = s + plN cd ln s by omega), if_pos (bT z5)]; unfold isDg; simp; omega))) rfl
            · replace z13 : ¬ (52 ≤ cd j) := mt (N_le (a := 52) (b := cd j) (by omega) (by omega)).mpr (of_decide_eq_false z13)
              refine Runs.go 2 (cs := []) (pc' := 119) (pl' := [some (.ref 6), some (.int (N s)), some (.int (N j)), some (.int (N (cd j))), some (.int (N (j - s)))]) (st' := [.int (N 1)]) (h' := (KP X cl cn cx ma ru sn sg sv cd ln pe pr ba fo us fr sc hs m o)) rfl trivial ?_
              exact Runs.retE (cs := [(N 1 : Int32) = 0 ∨ (N 1 : Int32) = 1]) rfl ⟨Or.inr rfl, trivial⟩ (retI (bIT (by rw [fit, if_neg (show ¬ j = s by omega), if_neg (show ¬ j = s + 1 by omega), if_neg (show ¬ j = s + plN cd ln s by omega), if_pos (bT z5)]; unfold isDg; simp; omega))) rfl
      · replace z4 : (j - s) = plN cd ln s := (N_eq (a := (j - s)) (b := plN cd ln s) (by omega) (by omega)).mp (Classical.not_not.mp (of_decide_eq_false z4))
        refine Runs.go 3 (cs := []) (pc' := bif decide (¬ (N (cd j)) = (N 59)) then 92 else 88) (pl' := [some (.ref 6), some (.int (N s)), some (.int (N j)), some (.int (N (cd j))), some (.int (N (j - s)))]) (st' := []) (h' := (KP X cl cn cx ma ru sn sg sv cd ln pe pr ba fo us fr sc hs m o)) rfl trivial ?_
        refine Runs.br (fun z14 => ?_) (fun z14 => ?_)
        · replace z14 : ¬ (cd j = 59) := mt (N_eq (a := cd j) (b := 59) (by omega) (by omega)).mpr (of_decide_eq_true z14)
          refine Runs.go 1 (cs := []) (pc' := 93) (pl' := [some (.ref 6), some (.int (N s)), some (.int (N j)), some (.int (N (cd j))), some (.int (N (j - s)))]) (st' := [.int (N 0)]) (h' := (KP X cl cn cx ma ru sn sg sv cd ln pe pr ba fo us fr sc hs m o)) rfl trivial ?_
          exact Runs.retE (cs := [(N 0 : Int32) = 0 ∨ (N 0 : Int32) = 1]) rfl ⟨Or.inl rfl, trivial⟩ (retI (bIF (by rw [fit, if_neg (show ¬ j = s by omega), if_neg (show ¬ j = s + 1 by omega), if_pos (show j = s + plN cd ln s by omega)]; exact decide_eq_false z14))) rfl
        · replace z14 : cd j = 59 := (N_eq (a := cd j) (b := 59) (by omega) (by omega)).mp (Classical.not_not.mp (of_decide_eq_false z14))
          refine Runs.go 2 (cs := []) (pc' := 93) (pl' := [some (.ref 6), some (.int (N s)), some (.int (N j)), some (.int (N (cd j))), some (.int (N (j - s)))]) (st' := [.int (N 1)]) (h' := (KP X cl cn cx ma ru sn sg sv cd ln pe pr ba fo us fr sc hs m o)) rfl trivial ?_
          exact Runs.retE (cs := [(N 1 : Int32) = 0 ∨ (N 1 : Int32) = 1]) rfl ⟨Or.inr rfl, trivial⟩ (retI (bIT (by rw [fit, if_neg (show ¬ j = s by omega), if_neg (show ¬ j = s + 1 by omega), if_pos (show j = s + plN cd ln s by omega)]; exact decide_eq_true z14))) rfl
    · replace z3 : (j - s) = 1 := (N_eq (a := (j - s)) (b := 1) (by omega) (by omega)).mp (Classical.not_not.mp (of_decide_eq_false z3))
      refine Runs.go 2 (cs := []) (pc' := 44) (pl' := [some (.ref 6), some (.int (N s)), some (.int (N j)), some (.int (N (cd j))), some (.int (N (j - s)))]) (st' := [.int (N s), .ref 6]) (h' := (KP X cl cn cx ma ru sn sg sv cd ln pe pr ba fo us fr sc hs m o)) rfl trivial ?_
      refine Runs.cal (y := mX5_isCrossAt) (as := [.ref 6, .int (N s)]) (rest := []) (pc' := 47) (cs := []) (v := some (.int (bI (decide (cd s = 120))))) (h1 := (KP X cl cn cx ma ru sn sg sv cd ln pe pr ba fo us fr sc hs m o)) rfl trivial (by decide) (t_isCrossAt (by omega) hB hD) ?_
      show Runs _ _ 47 _ [.int (bI (decide (cd s = 120)))] _ _ _ _
      refine Runs.go 1 (cs := []) (pc' := bif decide ((bI (decide (cd s = 120))) = 0) then 57 else 50) (pl' := [some (.ref 6), some (.int (N s)), some (.int (N j)), some (.int (N (cd j))), some (.int (N (j - s)))]) (st' := []) (h' := (KP X cl cn cx ma ru sn sg sv cd ln pe pr ba fo us fr sc hs m o)) rfl trivial ?_
      refine Runs.br (fun z15 => ?_) (fun z15 => ?_)
      · replace z15 : (decide (cd s = 120)) = false := (bI_0 _).mp (of_decide_eq_true z15)
        refine Runs.go 2 (cs := []) (pc' := 59) (pl' := [some (.ref 6), some (.int (N s)), some (.int (N j)), some (.int (N (cd j))), some (.int (N (j - s)))]) (st' := [.int (N j), .ref 6]) (h' := (KP X cl cn cx ma ru sn sg sv cd ln pe pr ba fo us fr sc hs m o)) rfl trivial ?_
        refine Runs.cal (y := mX5_signAt) (as := [.ref 6, .int (N j)]) (rest := []) (pc' := 62) (cs := []) (v := some (.int (sgI (cd j)))) (h1 := (KP X cl cn cx ma ru sn sg sv cd ln pe pr ba fo us fr sc hs m o)) rfl trivial (by decide) (t_signAt (by omega) hB hD) ?_
        show Runs _ _ 62 _ [.int (sgI (cd j))] _ _ _ _
        refine Runs.go 2 (cs := []) (pc' := bif decide ((sgI (cd j)) = (-1 : Int32)) then 70 else 66) (pl' := [some (.ref 6), some (.int (N s)), some (.int (N j)), some (.int (N (cd j))), some (.int (N (j - s)))]) (st' := []) (h' := (KP X cl cn cx ma ru sn sg sv cd ln pe pr ba fo us fr sc hs m o)) rfl trivial ?_
        refine Runs.br (fun z16 => ?_) (fun z16 => ?_)
        · replace z16 : (sgI (cd j)) = (-1 : Int32) := Iff.rfl.mp (of_decide_eq_true z16)
          refine Runs.go 1 (cs := []) (pc' := 71) (pl' := [some (.ref 6), some (.int (N s)), some (.int (N j)), some (.int (N (cd j))), some (.int (N (j - s)))]) (st' := [.int (N 0)]) (h' := (KP X cl cn cx ma ru sn sg sv cd ln pe pr ba fo us fr sc hs m o)) rfl trivial ?_
          exact Runs.retE (cs := [(N 0 : Int32) = 0 ∨ (N 0 : Int32) = 1]) rfl ⟨Or.inl rfl, trivial⟩ (retI (bIF (by rw [fit, if_neg (show ¬ j = s by omega), if_pos (show j = s + 1 by omega)]; rw [if_neg (of_decide_eq_false z15)]; exact (sgI_m _ (hD j (by omega))).mp z16))) rfl
        · replace z16 : ¬ ((sgI (cd j)) = (-1 : Int32)) := mt Iff.rfl.mpr (of_decide_eq_false z16)
          refine Runs.go 2 (cs := []) (pc' := 71) (pl' := [some (.ref 6), some (.int (N s)), some (.int (N j)), some (.int (N (cd j))), some (.int (N (j - s)))]) (st' := [.int (N 1)]) (h' := (KP X cl cn cx ma ru sn sg sv cd ln pe pr ba fo us fr sc hs m o)) rfl trivial ?_
          exact Runs.retE (cs := [(N 1 : Int32) = 0 ∨ (N 1 : Int32) = 1]) rfl ⟨Or.inr rfl, trivial⟩ (retI (bIT (by rw [fit, if_neg (show ¬ j = s by omega), if_pos (show j = s + 1 by omega)]; rw [if_neg (of_decide_eq_false z15)]; exact bT (mt (sgI_m _ (hD j (by omega))).mpr z16)))) rfl
      · replace z15 : ¬ ((decide (cd s = 120)) = false) := mt (bI_0 _).mpr (of_decide_eq_false z15)
        refine Runs.go 1 (cs := []) (pc' := 51) (pl' := [some (.ref 6), some (.int (N s)), some (.int (N j)), some (.int (N (cd j))), some (.int (N (j - s)))]) (st' := [.int (N (cd j))]) (h' := (KP X cl cn cx ma ru sn sg sv cd ln pe pr ba fo us fr sc hs m o)) rfl trivial ?_
        refine Runs.cal (y := mX5_isItem) (as := [.int (N (cd j))]) (rest := []) (pc' := 54) (cs := []) (v := some (.int (bI (isLt (cd j))))) (h1 := (KP X cl cn cx ma ru sn sg sv cd ln pe pr ba fo us fr sc hs m o)) rfl trivial (by decide) (t_isItem (by omega)) ?_
        show Runs _ _ 54 _ [.int (bI (isLt (cd j)))] _ _ _ _
        refine Runs.go 1 (cs := []) (pc' := 71) (pl' := [some (.ref 6), some (.int (N s)), some (.int (N j)), some (.int (N (cd j))), some (.int (N (j - s)))]) (st' := [.int (bI (isLt (cd j)))]) (h' := (KP X cl cn cx ma ru sn sg sv cd ln pe pr ba fo us fr sc hs m o)) rfl trivial ?_
        refine Runs.retE (cs := [(bI (isLt (cd j)) : Int32) = 0 ∨ (bI (isLt (cd j)) : Int32) = 1]) rfl ⟨bI_01 _, trivial⟩ (retI ?_) rfl
        exact congrArg bI (show fit cd ln s j = isLt (cd j) by rw [fit, if_neg (show ¬ j = s by omega), if_pos (show j = s + 1 by omega)]; exact if_pos (of_decide_eq_true (bT z15)))
  · replace z2 : (j - s) = 0 := (N_eq (a := (j - s)) (b := 0) (by omega) (by omega)).mp (Classical.not_not.mp (of_decide_eq_false z2))
    refine Runs.go 1 (cs := []) (pc' := 18) (pl' := [some (.ref 6), some (.int (N s)), some (.int (N j)), some (.int (N (cd j))), some (.int (N (j - s)))]) (st' := [.int (N (cd j))]) (h' := (KP X cl cn cx ma ru sn sg sv cd ln pe pr ba fo us fr sc hs m o)) rfl trivial ?_
    refine Runs.cal (y := mX5_isItem) (as := [.int (N (cd j))]) (rest := []) (pc' := 21) (cs := []) (v := some (.int (bI (isLt (cd j))))) (h1 := (KP X cl cn cx ma ru sn sg sv cd ln pe pr ba fo us fr sc hs m o)) rfl trivial (by decide) (t_isItem (by omega)) ?_
    show Runs _ _ 21 _ [.int (bI (isLt (cd j)))] _ _ _ _
    refine Runs.go 1 (cs := []) (pc' := bif decide (¬ (bI (isLt (cd j))) = 0) then 30 else 24) (pl' := [some (.ref 6), some (.int (N s)), some (.int (N j)), some (.int (N (cd j))), some (.int (N (j - s)))]) (st' := []) (h' := (KP X cl cn cx ma ru sn sg sv cd ln pe pr ba fo us fr sc hs m o)) rfl trivial ?_
    refine Runs.br (fun z17 => ?_) (fun z17 => ?_)
    · replace z17 : ¬ ((isLt (cd j)) = false) := mt (bI_0 _).mpr (of_decide_eq_true z17)
      refine Runs.go 2 (cs := []) (pc' := 35) (pl' := [some (.ref 6), some (.int (N s)), some (.int (N j)), some (.int (N (cd j))), some (.int (N (j - s)))]) (st' := [.int (N 1)]) (h' := (KP X cl cn cx ma ru sn sg sv cd ln pe pr ba fo us fr sc hs m o)) rfl trivial ?_
      exact Runs.retE (cs := [(N 1 : Int32) = 0 ∨ (N 1 : Int32) = 1]) rfl ⟨Or.inr rfl, trivial⟩ (retI (bIT (by rw [fit, if_pos (show j = s by omega)]; simp [z17]; try omega))) rfl
    · replace z17 : (isLt (cd j)) = false := (bI_0 _).mp (Classical.not_not.mp (of_decide_eq_false z17))
      refine Runs.go 3 (cs := []) (pc' := bif decide (¬ (N (cd j)) = (N 120)) then 34 else 30) (pl' := [some (.ref 6), some (.int (N s)), some (.int (N j)), some (.int (N (cd j))), some (.int (N (j - s)))]) (st' := []) (h' := (KP X cl cn cx ma ru sn sg sv cd ln pe pr ba fo us fr sc hs m o)) rfl trivial ?_
      refine Runs.br (fun z18 => ?_) (fun z18 => ?_)
      · replace z18 : ¬ (cd j = 120) := mt (N_eq (a := cd j) (b := 120) (by omega) (by omega)).mpr (of_decide_eq_true z18)
        refine Runs.go 1 (cs := []) (pc' := 35) (pl' := [some (.ref 6), some (.int (N s)), some (.int (N j)), some (.int (N (cd j))), some (.int (N (j - s)))]) (st' := [.int (N 0)]) (h' := (KP X cl cn cx ma ru sn sg sv cd ln pe pr ba fo us fr sc hs m o)) rfl trivial ?_
        exact Runs.retE (cs := [(N 0 : Int32) = 0 ∨ (N 0 : Int32) = 1]) rfl ⟨Or.inl rfl, trivial⟩ (retI (bIF (by rw [fit, if_pos (show j = s by omega)]; simp [z17, z18]; try omega))) rfl
      · replace z18 : cd j = 120 := (N_eq (a := cd j) (b := 120) (by omega) (by omega)).mp (Classical.not_not.mp (of_decide_eq_false z18))
        refine Runs.go 2 (cs := []) (pc' := 35) (pl' := [some (.ref 6), some (.int (N s)), some (.int (N j)), some (.int (N (cd j))), some (.int (N (j - s)))]) (st' := [.int (N 1)]) (h' := (KP X cl cn cx ma ru sn sg sv cd ln pe pr ba fo us fr sc hs m o)) rfl trivial ?_
        exact Runs.retE (cs := [(N 1 : Int32) = 0 ∨ (N 1 : Int32) = 1]) rfl ⟨Or.inr rfl, trivial⟩ (retI (bIT (by rw [fit, if_pos (show j = s by omega)]; simp [z17, z18]; try omega))) rfl
/-- where the part begins that holds the i-th sign -/
def sfN (c : Nat → Nat) : Nat → Nat := itN (fun k s => if c k = 59 then k + 1 else s) 0
theorem sfN_s (c : Nat → Nat) (i : Nat) : sfN c (i + 1) = if c i = 59 then i + 1 else sfN c i := rfl
theorem sfN_le (c : Nat → Nat) (i : Nat) : sfN c i ≤ i := by
  induction i with
  | zero => exact Nat.le_refl _
  | succ i ih =>
    rw [sfN_s]
    split <;> omega
theorem lsN_sf (c : Nat → Nat) : ∀ k i, lsN c k (sfN c i) i = sfN c (i + k)
  | 0, _ => rfl
  | k + 1, i => by
    rw [lsN, ← sfN_s, lsN_sf c k (i + 1)]
    congr 1
    omega
theorem lsN_0 (c : Nat → Nat) (n : Nat) : lsN c n 0 0 = sfN c n := by
  have := lsN_sf c n 0
  rw [Nat.zero_add] at this
  exact this
theorem ei_yes {c : Nat → Nat} {n i : Nat} (hi : i < n) (h : fit c n (sfN c i) i = true) : eiN c n (n - i) (sfN c i) i = eiN c n (n - (i + 1)) (sfN c (i + 1)) (i + 1) := by
  rw [show n - i = (n - (i + 1)) + 1 by omega, eiN, if_pos h, sfN_s]
theorem ei_not {c : Nat → Nat} {n i : Nat} (hi : i < n) (h : fit c n (sfN c i) i = false) : eiN c n (n - i) (sfN c i) i = i := by
  rw [show n - i = (n - (i + 1)) + 1 by omega, eiN, if_neg (by rw [h]; decide)]
theorem ei_end {c : Nat → Nat} {n s i : Nat} : eiN c n (n - n) s i = i := by
  rw [Nat.sub_self]
  rfl
def cmB (c : Nat → Nat) (n : Nat) : Bool := decide (n - sfN c n = plN c n (sfN c n)) && decide (eiN c n n 0 0 = n)
theorem cmB_eq {c : Nat → Nat} {n : Nat} (hB : BF c n) : cmB c n = !(goX c n 61 (0, false)).2 := by
  have h := ct_eq hB
  rw [lsN_0] at h
  unfold cmB
  cases e : (goX c n 61 (0, false)).2 with
  | false =>
    obtain ⟨h1, h2⟩ := h.mp e
    rw [decide_eq_true h1, decide_eq_true h2]
    rfl
  | true =>
    refine bF (fun z => ?_)
    rw [Bool.and_eq_true, decide_eq_true_eq, decide_eq_true_eq] at z
    rw [h.mpr ⟨z.2, z.1⟩] at e
    cases e
theorem eiN_le {c : Nat → Nat} {n : Nat} : ∀ k s i, eiN c n k s i ≤ i + k
  | 0, _, _ => Nat.le_refl _
  | k + 1, s, i => by
    rw [eiN]
    split
    · have := eiN_le (c := c) (n := n) k (if c i = 59 then i + 1 else s) (i + 1)
      omega
    · omega
theorem t_errorIndex {X : Nat × (Nat → Int32)} {cl : Nat → Nat} {cn cx ma ru : Nat} {sn : SV} {sg : Nat → Option Nat} {sv : Nat → SV} {cd : Nat → Nat} {ln pe pr : Nat} {ba : Nat → Nat} {fo us : Nat} {fr : Bool} {sc : Nat} {hs : Bool} {m : MT} {o : Nat → Int64} (hB : BF cd ln) (hD : ∀ i, i < 60 → cd i < 127) : Call 7 mX5_errorIndex [.ref 6] (KP X cl cn cx ma ru sn sg sv cd ln pe pr ba fo us fr sc hs m o) (.inl (some (.int (N (eiN cd ln ln 0 0))))) (KP X cl cn cx ma ru sn sg sv cd ln pe pr ba fo us fr sc hs m o) 0 := by
  have hle := hB.1
  have hC : ∀ i, i < 60 → cd i < 127 := hD
  refine Runs.go 4 (cs := []) (pc' := 4) (pl' := [some (.ref 6), some (.int (N 0)), some (.int (N 0))]) (st' := []) (h' := (KP X cl cn cx ma ru sn sg sv cd ln pe pr ba fo us fr sc hs m o)) rfl trivial ?_
  refine Runs.wk (pl' := [some (.ref 6), some (.int (N (sfN cd 0))), some (.int (N 0))]) (st' := []) (h' := (KP X cl cn cx ma ru sn sg sv cd ln pe pr ba fo us fr sc hs m o)) ⟨Or.inr rfl, Or.inr rfl, Or.inr rfl, trivial⟩ rfl rfl ?_
  refine Runs.loopN (fun i => [some (.ref 6), some (.int (N (sfN cd i))), some (.int (N i))]) (fun i => (KP X cl cn cx ma ru sn sg sv cd ln pe pr ba fo us fr sc hs m o)) (fun i => eiN cd ln ln 0 0 = eiN cd ln (ln - i) (sfN cd i) i) ln (by rw [Nat.sub_zero]; rfl) (fun i hi I1 K1 => ?_) (fun I1 => ?_)
  · show Runs _ _ 4 [some (.ref 6), some (.int (N (sfN cd i))), some (.int (N i))] [] (KP X cl cn cx ma ru sn sg sv cd ln pe pr ba fo us fr sc hs m o) _ _ _
    have hsf := sfN_le cd i
    refine Runs.go 4 (cs := []) (pc' := bif decide ((N ln) ≤ (N i)) then 44 else 12) (pl' := [some (.ref 6), some (.int (N (sfN cd i))), some (.int (N i))]) (st' := []) (h' := (KP X cl cn cx ma ru sn sg sv cd ln pe pr ba fo us fr sc hs m o)) rfl trivial ?_
    refine Runs.brF (decide_eq_false (fun zq9 => absurd ((N_le (a := ln) (b := i) (by omega) (by omega)).mp zq9) (by omega))) ?_
    refine Runs.go 3 (cs := []) (pc' := 15) (pl' := [some (.ref 6), some (.int (N (sfN cd i))), some (.int (N i))]) (st' := [.int (N i), .int (N (sfN cd i)), .ref 6]) (h' := (KP X cl cn cx ma ru sn sg sv cd ln pe pr ba fo us fr sc hs m o)) rfl trivial ?_
    refine Runs.cal (y := mX5_fits) (as := [.ref 6, .int (N (sfN cd i)), .int (N i)]) (rest := []) (pc' := 18) (cs := []) (v := some (.int (bI (fit cd ln (sfN cd i) i)))) (h1 := (KP X cl cn cx ma ru sn sg sv cd ln pe pr ba fo us fr sc hs m o)) rfl trivial (by decide) (t_fits (sfN_le cd i) (by omega) hB hD) ?_
    show Runs _ _ 18 _ [.int (bI (fit cd ln (sfN cd i) i))] _ _ _ _
    refine Runs.go 1 (cs := []) (pc' := bif decide (¬ (bI (fit cd ln (sfN cd i) i)) = 0) then 23 else 21) (pl' := [some (.ref 6), some (.int (N (sfN cd i))), some (.int (N i))]) (st' := []) (h' := (KP X cl cn cx ma ru sn sg sv cd ln pe pr ba fo us fr sc hs m o)) rfl trivial ?_
    refine Runs.br (fun z1 => ?_) (fun z1 => ?_)
    · replace z1 : ¬ ((fit cd ln (sfN cd i) i) = false) := mt (bI_0 _).mpr (of_decide_eq_true z1)
      refine Runs.topI 4 (cs := [vp_in (N i) 60]) (pc' := 29) (pl' := [some (.ref 6), some (.int (N (sfN cd i))), some (.int (N i))]) (v := aN cd (N i).toNatClampNeg) (v' := N (cd i)) (st' := []) (h' := (KP X cl cn cx ma ru sn sg sv cd ln pe pr ba fo us fr sc hs m o)) rfl ⟨(N_in (by omega) (by decide)), trivial⟩ (aN_at (by omega)) ?_
      have b2 := hC (i) (by omega)
      refine Runs.go 2 (cs := []) (pc' := bif decide (¬ (N (cd i)) = (N 59)) then 38 else 34) (pl' := [some (.ref 6), some (.int (N (sfN cd i))), some (.int (N i))]) (st' := []) (h' := (KP X cl cn cx ma ru sn sg sv cd ln pe pr ba fo us fr sc hs m o)) rfl trivial ?_
      refine Runs.br (fun z3 => ?_) (fun z3 => ?_)
      · replace z3 : ¬ (cd i = 59) := mt (N_eq (a := cd i) (b := 59) (by omega) (by omega)).mpr (of_decide_eq_true z3)
        refine Runs.goL 1 (cs := []) (pc' := 41) (pl1 := [some (.ref 6), some (.int (N (sfN cd i))), some (.int (N i + N 1))]) (pl' := [some (.ref 6), some (.int (N (sfN cd i))), some (.int (N (i + 1)))]) (st' := []) (h' := (KP X cl cn cx ma ru sn sg sv cd ln pe pr ba fo us fr sc hs m o)) rfl trivial (congrArg (fun zq9 => ([some (.ref 6), some (.int (N (sfN cd i))), some (.int zq9)] : PL)) (NA (by omega))) ?_
        refine Runs.go 1 (cs := []) (pc' := 4) (pl' := [some (.ref 6), some (.int (N (sfN cd i))), some (.int (N (i + 1)))]) (st' := []) (h' := (KP X cl cn cx ma ru sn sg sv cd ln pe pr ba fo us fr sc hs m o)) rfl trivial ?_
        exact Runs.wk (pl' := [some (.ref 6), some (.int (N (sfN cd (i + 1)))), some (.int (N (i + 1)))]) (st' := []) (h' := (KP X cl cn cx ma ru sn sg sv cd ln pe pr ba fo us fr sc hs m o)) ⟨Or.inr rfl, Or.inr (congrArg (fun zq9 => some (Value.int zq9)) (congrArg N ((sfN_s cd i).trans (if_neg z3)))), Or.inr rfl, trivial⟩ rfl rfl (K1 (I1.trans (ei_yes hi (bT z1))))
      · replace z3 : cd i = 59 := (N_eq (a := cd i) (b := 59) (by omega) (by omega)).mp (Classical.not_not.mp (of_decide_eq_false z3))
        refine Runs.topI 3 (cs := []) (pc' := 37) (pl' := [some (.ref 6), some (.int (N (sfN cd i))), some (.int (N i))]) (v := (N i) + (N 1)) (v' := N (i + 1)) (st' := []) (h' := (KP X cl cn cx ma ru sn sg sv cd ln pe pr ba fo us fr sc hs m o)) rfl trivial (NA (by omega)) ?_
        refine Runs.goL 2 (cs := []) (pc' := 41) (pl1 := [some (.ref 6), some (.int (N (i + 1))), some (.int (N i + N 1))]) (pl' := [some (.ref 6), some (.int (N (i + 1))), some (.int (N (i + 1)))]) (st' := []) (h' := (KP X cl cn cx ma ru sn sg sv cd ln pe pr ba fo us fr sc hs m o)) rfl trivial (congrArg (fun zq9 => ([some (.ref 6), some (.int (N (i + 1))), some (.int zq9)] : PL)) (NA (by omega))) ?_
        refine Runs.go 1 (cs := []) (pc' := 4) (pl' := [some (.ref 6), some (.int (N (i + 1))), some (.int (N (i + 1)))]) (st' := []) (h' := (KP X cl cn cx ma ru sn sg sv cd ln pe pr ba fo us fr sc hs m o)) rfl trivial ?_
        exact Runs.wk (pl' := [some (.ref 6), some (.int (N (sfN cd (i + 1)))), some (.int (N (i + 1)))]) (st' := []) (h' := (KP X cl cn cx ma ru sn sg sv cd ln pe pr ba fo us fr sc hs m o)) ⟨Or.inr rfl, Or.inr (congrArg (fun zq9 => some (Value.int zq9)) (congrArg N ((sfN_s cd i).trans (if_pos z3)))), Or.inr rfl, trivial⟩ rfl rfl (K1 (I1.trans (ei_yes hi (bT z1))))
    · replace z1 : (fit cd ln (sfN cd i) i) = false := (bI_0 _).mp (Classical.not_not.mp (of_decide_eq_false z1))
      refine Runs.go 1 (cs := []) (pc' := 22) (pl' := [some (.ref 6), some (.int (N (sfN cd i))), some (.int (N i))]) (st' := [.int (N i)]) (h' := (KP X cl cn cx ma ru sn sg sv cd ln pe pr ba fo us fr sc hs m o)) rfl trivial ?_
      exact Runs.retE (cs := []) rfl trivial (retI (congrArg N (I1.trans (ei_not hi z1)))) rfl
  · show Runs _ _ 4 _ [] _ _ _ _
    show Runs _ _ 4 [some (.ref 6), some (.int (N (sfN cd ln))), some (.int (N ln))] [] (KP X cl cn cx ma ru sn sg sv cd ln pe pr ba fo us fr sc hs m o) _ _ _
    refine Runs.go 4 (cs := []) (pc' := bif decide ((N ln) ≤ (N ln)) then 44 else 12) (pl' := [some (.ref 6), some (.int (N (sfN cd ln))), some (.int (N ln))]) (st' := []) (h' := (KP X cl cn cx ma ru sn sg sv cd ln pe pr ba fo us fr sc hs m o)) rfl trivial ?_
    refine Runs.brT (decide_eq_true ((N_le (a := ln) (b := ln) (by omega) (by omega)).mpr (by omega))) ?_
    refine Runs.go 2 (cs := []) (pc' := 48) (pl' := [some (.ref 6), some (.int (N (sfN cd ln))), some (.int (N ln))]) (st' := [.int (N ln)]) (h' := (KP X cl cn cx ma ru sn sg sv cd ln pe pr ba fo us fr sc hs m o)) rfl trivial ?_
    exact Runs.retE (cs := []) rfl trivial (retI (congrArg N (I1.trans ei_end))) rfl
theorem t_isComplete {X : Nat × (Nat → Int32)} {cl : Nat → Nat} {cn cx ma ru : Nat} {sn : SV} {sg : Nat → Option Nat} {sv : Nat → SV} {cd : Nat → Nat} {ln pe pr : Nat} {ba : Nat → Nat} {fo us : Nat} {fr : Bool} {sc : Nat} {hs : Bool} {m : MT} {o : Nat → Int64} (hB : BF cd ln) (hD : ∀ i, i < 60 → cd i < 127) : Call 8 mX5_isComplete [.ref 6] (KP X cl cn cx ma ru sn sg sv cd ln pe pr ba fo us fr sc hs m o) (.inl (some (.int (bI (cmB cd ln))))) (KP X cl cn cx ma ru sn sg sv cd ln pe pr ba fo us fr sc hs m o) 0 := by
  have hle := hB.1
  have hC : ∀ i, i < 60 → cd i < 127 := hD
  refine Runs.go 4 (cs := []) (pc' := 4) (pl' := [some (.ref 6), some (.int (N 0)), some (.int (N 0))]) (st' := []) (h' := (KP X cl cn cx ma ru sn sg sv cd ln pe pr ba fo us fr sc hs m o)) rfl trivial ?_
  refine Runs.wk (pl' := [some (.ref 6), some (.int (N (sfN cd 0))), some (.int (N 0))]) (st' := []) (h' := (KP X cl cn cx ma ru sn sg sv cd ln pe pr ba fo us fr sc hs m o)) ⟨Or.inr rfl, Or.inr rfl, Or.inr rfl, trivial⟩ rfl rfl ?_
  refine Runs.loopN (fun i => [some (.ref 6), some (.int (N (sfN cd i))), some (.int (N i))]) (fun i => (KP X cl cn cx ma ru sn sg sv cd ln pe pr ba fo us fr sc hs m o)) (fun i => True) ln trivial (fun i hi I1 K1 => ?_) (fun I1 => ?_)
  · show Runs _ _ 4 [some (.ref 6), some (.int (N (sfN cd i))), some (.int (N i))] [] (KP X cl cn cx ma ru sn sg sv cd ln pe pr ba fo us fr sc hs m o) _ _ _
    have hsf := sfN_le cd i
    refine Runs.go 4 (cs := []) (pc' := bif decide ((N ln) ≤ (N i)) then 33 else 12) (pl' := [some (.ref 6), some (.int (N (sfN cd i))), some (.int (N i))]) (st' := []) (h' := (KP X cl cn cx ma ru sn sg sv cd ln pe pr ba fo us fr sc hs m o)) rfl trivial ?_
    refine Runs.brF (decide_eq_false (fun zq9 => absurd ((N_le (a := ln) (b := i) (by omega) (by omega)).mp zq9) (by omega))) ?_
    refine Runs.topI 4 (cs := [vp_in (N i) 60]) (pc' := 18) (pl' := [some (.ref 6), some (.int (N (sfN cd i))), some (.int (N i))]) (v := aN cd (N i).toNatClampNeg) (v' := N (cd i)) (st' := []) (h' := (KP X cl cn cx ma ru sn sg sv cd ln pe pr ba fo us fr sc hs m o)) rfl ⟨(N_in (by omega) (by decide)), trivial⟩ (aN_at (by omega)) ?_
    have b1 := hC (i) (by omega)
    refine Runs.go 2 (cs := []) (pc' := bif decide (¬ (N (cd i)) = (N 59)) then 27 else 23) (pl' := [some (.ref 6), some (.int (N (sfN cd i))), some (.int (N i))]) (st' := []) (h' := (KP X cl cn cx ma ru sn sg sv cd ln pe pr ba fo us fr sc hs m o)) rfl trivial ?_
    refine Runs.br (fun z2 => ?_) (fun z2 => ?_)
    · replace z2 : ¬ (cd i = 59) := mt (N_eq (a := cd i) (b := 59) (by omega) (by omega)).mpr (of_decide_eq_true z2)
      refine Runs.goL 1 (cs := []) (pc' := 30) (pl1 := [some (.ref 6), some (.int (N (sfN cd i))), some (.int (N i + N 1))]) (pl' := [some (.ref 6), some (.int (N (sfN cd i))), some (.int (N (i + 1)))]) (st' := []) (h' := (KP X cl cn cx ma ru sn sg sv cd ln pe pr ba fo us fr sc hs m o)) rfl trivial (congrArg (fun zq9 => ([some (.ref 6), some (.int (N (sfN cd i))), some (.int zq9)] : PL)) (NA (by omega))) ?_
      refine Runs.go 1 (cs := []) (pc' := 4) (pl' := [some (.ref 6), some (.int (N (sfN cd i))), some (.int (N (i + 1)))]) (st' := []) (h' := (KP X cl cn cx ma ru sn sg sv cd ln pe pr ba fo us fr sc hs m o)) rfl trivial ?_
      exact Runs.wk (pl' := [some (.ref 6), some (.int (N (sfN cd (i + 1)))), some (.int (N (i + 1)))]) (st' := []) (h' := (KP X cl cn cx ma ru sn sg sv cd ln pe pr ba fo us fr sc hs m o)) ⟨Or.inr rfl, Or.inr (congrArg (fun zq9 => some (Value.int zq9)) (congrArg N ((sfN_s cd i).trans (if_neg z2)))), Or.inr rfl, trivial⟩ rfl rfl (K1 trivial)
    · replace z2 : cd i = 59 := (N_eq (a := cd i) (b := 59) (by omega) (by omega)).mp (Classical.not_not.mp (of_decide_eq_false z2))
      refine Runs.topI 3 (cs := []) (pc' := 26) (pl' := [some (.ref 6), some (.int (N (sfN cd i))), some (.int (N i))]) (v := (N i) + (N 1)) (v' := N (i + 1)) (st' := []) (h' := (KP X cl cn cx ma ru sn sg sv cd ln pe pr ba fo us fr sc hs m o)) rfl trivial (NA (by omega)) ?_
      refine Runs.goL 2 (cs := []) (pc' := 30) (pl1 := [some (.ref 6), some (.int (N (i + 1))), some (.int (N i + N 1))]) (pl' := [some (.ref 6), some (.int (N (i + 1))), some (.int (N (i + 1)))]) (st' := []) (h' := (KP X cl cn cx ma ru sn sg sv cd ln pe pr ba fo us fr sc hs m o)) rfl trivial (congrArg (fun zq9 => ([some (.ref 6), some (.int (N (i + 1))), some (.int zq9)] : PL)) (NA (by omega))) ?_
      refine Runs.go 1 (cs := []) (pc' := 4) (pl' := [some (.ref 6), some (.int (N (i + 1))), some (.int (N (i + 1)))]) (st' := []) (h' := (KP X cl cn cx ma ru sn sg sv cd ln pe pr ba fo us fr sc hs m o)) rfl trivial ?_
      exact Runs.wk (pl' := [some (.ref 6), some (.int (N (sfN cd (i + 1)))), some (.int (N (i + 1)))]) (st' := []) (h' := (KP X cl cn cx ma ru sn sg sv cd ln pe pr ba fo us fr sc hs m o)) ⟨Or.inr rfl, Or.inr (congrArg (fun zq9 => some (Value.int zq9)) (congrArg N ((sfN_s cd i).trans (if_pos z2)))), Or.inr rfl, trivial⟩ rfl rfl (K1 trivial)
  · show Runs _ _ 4 _ [] _ _ _ _
    show Runs _ _ 4 [some (.ref 6), some (.int (N (sfN cd ln))), some (.int (N ln))] [] (KP X cl cn cx ma ru sn sg sv cd ln pe pr ba fo us fr sc hs m o) _ _ _
    have hsf := sfN_le cd ln
    have hei := eiN_le (c := cd) (n := ln) ln 0 0
    refine Runs.go 4 (cs := []) (pc' := bif decide ((N ln) ≤ (N ln)) then 33 else 12) (pl' := [some (.ref 6), some (.int (N (sfN cd ln))), some (.int (N ln))]) (st' := []) (h' := (KP X cl cn cx ma ru sn sg sv cd ln pe pr ba fo us fr sc hs m o)) rfl trivial ?_
    refine Runs.brT (decide_eq_true ((N_le (a := ln) (b := ln) (by omega) (by omega)).mpr (by omega))) ?_
    refine Runs.topI 4 (cs := []) (pc' := 39) (pl' := [some (.ref 6), some (.int (N (sfN cd ln))), some (.int (N ln))]) (v := (N ln) - (N (sfN cd ln))) (v' := N (ln - (sfN cd ln))) (st' := []) (h' := (KP X cl cn cx ma ru sn sg sv cd ln pe pr ba fo us fr sc hs m o)) rfl trivial (NS (by omega)) ?_
    refine Runs.go 2 (cs := []) (pc' := 41) (pl' := [some (.ref 6), some (.int (N (sfN cd ln))), some (.int (N ln))]) (st' := [.int (N (sfN cd ln)), .ref 6, .int (N (ln - (sfN cd ln)))]) (h' := (KP X cl cn cx ma ru sn sg sv cd ln pe pr ba fo us fr sc hs m o)) rfl trivial ?_
    refine Runs.cal (y := mX5_partLength) (as := [.ref 6, .int (N (sfN cd ln))]) (rest := [.int (N (ln - (sfN cd ln)))]) (pc' := 44) (cs := []) (v := some (.int (N (plN cd ln (sfN cd ln))))) (h1 := (KP X cl cn cx ma ru sn sg sv cd ln pe pr ba fo us fr sc hs m o)) rfl trivial (by decide) (t_partLength (by omega) hB hD) ?_
    show Runs _ _ 44 _ [.int (N (plN cd ln (sfN cd ln))), .int (N (ln - (sfN cd ln)))] _ _ _ _
    have hpl1 := pl_34 cd ln (sfN cd ln)
    refine Runs.go 1 (cs := []) (pc' := bif decide (¬ (N (ln - (sfN cd ln))) = (N (plN cd ln (sfN cd ln)))) then 62 else 47) (pl' := [some (.ref 6), some (.int (N (sfN cd ln))), some (.int (N ln))]) (st' := []) (h' := (KP X cl cn cx ma ru sn sg sv cd ln pe pr ba fo us fr sc hs m o)) rfl trivial ?_
    refine Runs.br (fun z3 => ?_) (fun z3 => ?_)
    · replace z3 : ¬ ((ln - (sfN cd ln)) = plN cd ln (sfN cd ln)) := mt (N_eq (a := (ln - (sfN cd ln))) (b := plN cd ln (sfN cd ln)) (by omega) (by omega)).mpr (of_decide_eq_true z3)
      refine Runs.go 1 (cs := []) (pc' := 63) (pl' := [some (.ref 6), some (.int (N (sfN cd ln))), some (.int (N ln))]) (st' := [.int (N 0)]) (h' := (KP X cl cn cx ma ru sn sg sv cd ln pe pr ba fo us fr sc hs m o)) rfl trivial ?_
      exact Runs.retE (cs := [(N 0 : Int32) = 0 ∨ (N 0 : Int32) = 1]) rfl ⟨Or.inl rfl, trivial⟩ (retI (bIF (by rw [cmB, decide_eq_false z3]; rfl))) rfl
    · replace z3 : (ln - (sfN cd ln)) = plN cd ln (sfN cd ln) := (N_eq (a := (ln - (sfN cd ln))) (b := plN cd ln (sfN cd ln)) (by omega) (by omega)).mp (Classical.not_not.mp (of_decide_eq_false z3))
      refine Runs.go 1 (cs := []) (pc' := 48) (pl' := [some (.ref 6), some (.int (N (sfN cd ln))), some (.int (N ln))]) (st' := [.ref 6]) (h' := (KP X cl cn cx ma ru sn sg sv cd ln pe pr ba fo us fr sc hs m o)) rfl trivial ?_
      refine Runs.cal (y := mX5_errorIndex) (as := [.ref 6]) (rest := []) (pc' := 51) (cs := []) (v := some (.int (N (eiN cd ln ln 0 0)))) (h1 := (KP X cl cn cx ma ru sn sg sv cd ln pe pr ba fo us fr sc hs m o)) rfl trivial (by decide) (t_errorIndex hB hD) ?_
      show Runs _ _ 51 _ [.int (N (eiN cd ln ln 0 0))] _ _ _ _
      refine Runs.go 3 (cs := []) (pc' := bif decide (¬ (N (eiN cd ln ln 0 0)) = (N ln)) then 62 else 58) (pl' := [some (.ref 6), some (.int (N (sfN cd ln))), some (.int (N ln))]) (st' := []) (h' := (KP X cl cn cx ma ru sn sg sv cd ln pe pr ba fo us fr sc hs m o)) rfl trivial ?_
      refine Runs.br (fun z4 => ?_) (fun z4 => ?_)
      · replace z4 : ¬ (eiN cd ln ln 0 0 = ln) := mt (N_eq (a := eiN cd ln ln 0 0) (b := ln) (by omega) (by omega)).mpr (of_decide_eq_true z4)
        refine Runs.go 1 (cs := []) (pc' := 63) (pl' := [some (.ref 6), some (.int (N (sfN cd ln))), some (.int (N ln))]) (st' := [.int (N 0)]) (h' := (KP X cl cn cx ma ru sn sg sv cd ln pe pr ba fo us fr sc hs m o)) rfl trivial ?_
        exact Runs.retE (cs := [(N 0 : Int32) = 0 ∨ (N 0 : Int32) = 1]) rfl ⟨Or.inl rfl, trivial⟩ (retI (bIF (by rw [cmB, decide_eq_false z4, Bool.and_false]))) rfl
      · replace z4 : eiN cd ln ln 0 0 = ln := (N_eq (a := eiN cd ln ln 0 0) (b := ln) (by omega) (by omega)).mp (Classical.not_not.mp (of_decide_eq_false z4))
        refine Runs.go 2 (cs := []) (pc' := 63) (pl' := [some (.ref 6), some (.int (N (sfN cd ln))), some (.int (N ln))]) (st' := [.int (N 1)]) (h' := (KP X cl cn cx ma ru sn sg sv cd ln pe pr ba fo us fr sc hs m o)) rfl trivial ?_
        exact Runs.retE (cs := [(N 1 : Int32) = 0 ∨ (N 1 : Int32) = 1]) rfl ⟨Or.inr rfl, trivial⟩ (retI (bIT (by rw [cmB, decide_eq_true z3, decide_eq_true z4]; rfl))) rfl
theorem c_firstError {X : Nat × (Nat → Int32)} {cl : Nat → Nat} {cn cx ma ru : Nat} {sn : SV} {sg : Nat → Option Nat} {sv : Nat → SV} {cd : Nat → Nat} {ln pe pr : Nat} {ba : Nat → Nat} {fo us : Nat} {fr : Bool} {sc : Nat} {hs : Bool} {m : MT} {o : Nat → Int64} (hB : BF cd ln) (hD : ∀ i, i < 60 → cd i < 127) : Call 8 mX6_firstError [.ref 0] (KP X cl cn cx ma ru sn sg sv cd ln pe pr ba fo us fr sc hs m o) (.inl (some (.int (N (eiN cd ln ln 0 0))))) (KP X cl cn cx ma ru sn sg sv cd ln pe pr ba fo us fr sc hs m o) 0 := by
  refine Runs.go 2 (cs := []) (pc' := 4) (pl' := [some (.ref 0)]) (st' := [.ref 6]) (h' := (KP X cl cn cx ma ru sn sg sv cd ln pe pr ba fo us fr sc hs m o)) rfl trivial ?_
  refine Runs.cal (y := mX5_errorIndex) (as := [.ref 6]) (rest := []) (pc' := 7) (cs := []) (v := some (.int (N (eiN cd ln ln 0 0)))) (h1 := (KP X cl cn cx ma ru sn sg sv cd ln pe pr ba fo us fr sc hs m o)) rfl trivial (by decide) (t_errorIndex hB hD) ?_
  show Runs _ _ 7 _ [.int (N (eiN cd ln ln 0 0))] _ _ _ _
  exact Runs.retE (cs := []) rfl trivial (retI rfl) rfl
