/-! TEXTS: take of the class (gen_g5.py) -/
theorem c_take1 {X : Nat × (Nat → Int32)} {S : Nat → Nat} {cl : Nat → Nat} {sn : SV} {sg : Nat → Option Nat} {sv : Nat → SV} {cd : Nat → Nat} {ln pe pr : Nat} {ba : Nat → Nat} {fo us : Nat} {fr : Bool} {sc : Nat} {hs : Bool} {m : MT} {o : Nat → Int64} (hB : BF cd ln) (hD : ∀ i, i < 60 → cd i < 127) (hc : cmB cd ln = false) : Call 9 mX6_take [.ref 0] (KP X cl (S 0) (pk (CX S)) (S 61) (S 62) sn sg sv cd ln pe pr ba fo us fr sc hs m o) (.inr "java/lang/IllegalArgumentException") (KP X cl (S 0) (pk (CX S)) (S 61) (S 62) sn sg sv cd ln pe pr ba fo us fr sc hs m o) 1 := by
  refine Runs.go 2 (cs := []) (pc' := 4) (pl' := [some (.ref 0), none, none]) (st' := [.ref 6]) (h' := (KP X cl (S 0) (pk (CX S)) (S 61) (S 62) sn sg sv cd ln pe pr ba fo us fr sc hs m o)) rfl trivial ?_
  refine Runs.cal (y := mX5_isComplete) (as := [.ref 6]) (rest := []) (pc' := 7) (cs := []) (v := some (.int (bI (cmB cd ln)))) (h1 := (KP X cl (S 0) (pk (CX S)) (S 61) (S 62) sn sg sv cd ln pe pr ba fo us fr sc hs m o)) rfl trivial (by decide) (t_isComplete hB hD) ?_
  show Runs _ _ 7 _ [.int (bI (cmB cd ln))] _ _ _ _
  refine Runs.go 1 (cs := []) (pc' := bif decide (¬ (bI (cmB cd ln)) = 0) then 20 else 10) (pl' := [some (.ref 0), none, none]) (st' := []) (h' := (KP X cl (S 0) (pk (CX S)) (S 61) (S 62) sn sg sv cd ln pe pr ba fo us fr sc hs m o)) rfl trivial ?_
  refine Runs.brF (decide_eq_false (not_not_intro ((bI_0 _).mpr hc))) ?_
  exact Runs.thr (cs := []) rfl trivial
theorem c_tkW {X : Nat × (Nat → Int32)} {sn : SV} {sg : Nat → Option Nat} {sv : Nat → SV} {cd : Nat → Nat} {ln pe pr : Nat} {ba : Nat → Nat} {fo us : Nat} {fr : Bool} {sc : Nat} {hs : Bool} {m : MT} {o : Nat → Int64} (hB : BF cd ln) (hD : ∀ i, i < 60 → cd i < 127) : ∀ (f : Nat) (S cl : Nat → Nat) (s k : Nat), VC S → (∀ k, k < S 0 → cl k = ecl S k) → rgT cd ln f s → k + f < 200 → ∃ cl', (∀ k, k < (tkS cd ln f S s).1 0 → cl' k = ecl (tkS cd ln f S s).1 k) ∧ VC (tkS cd ln f S s).1 ∧ Runs 7 mX6_take 28 [some (.ref 0), some (.int (N k)), some (.int (N s))] [] (KP X cl (S 0) (pk (CX S)) (S 61) (S 62) sn sg sv cd ln pe pr ba fo us fr sc hs m o) (.inl (some (.int (N (k + (tkS cd ln f S s).2))))) (KP X cl' ((tkS cd ln f S s).1 0) (pk (CX (tkS cd ln f S s).1)) ((tkS cd ln f S s).1 61) ((tkS cd ln f S s).1 62) sn sg sv cd 0 pe pr ba fo us fr sc hs m o) 0 := by
  intro f
  induction f with
  | zero =>
    intro S cl s k _ _ h
    exact h.elim
  | succ f ih =>
    intro S cl s k hV hcl hr0 hk
    obtain ⟨hgd, hend⟩ := hr0
    have hle := hB.1
    have hpl := pl_34 cd ln s
    have hlt : s + (plN cd ln s - 1) < ln := (gS_iff.mp (hgd _ (by omega))).1
    obtain ⟨cl1, hcl1, hV1, hdo⟩ := c_doPart (X := X) (sn := sn) (sg := sg) (sv := sv) (cd := cd) (ln := ln) (pe := pe) (pr := pr) (ba := ba) (fo := fo) (us := us) (fr := fr) (sc := sc) (hs := hs) (m := m) (o := o) hV hcl hB hD hgd
    cases hd : (doS cd S s).2 with
    | false =>
      have e : tkS cd ln (f + 1) S s = ((doS cd S s).1, 0) := if_neg (by rw [hd]; decide)
      rw [e]
      refine ⟨cl1, hcl1, hV1, ?_⟩
      refine Runs.go 5 (cs := []) (pc' := bif decide ((N ln) ≤ (N s)) then 66 else 39) (pl' := [some (.ref 0), some (.int (N k)), some (.int (N s))]) (st' := []) (h' := (KP X cl (S 0) (pk (CX S)) (S 61) (S 62) sn sg sv cd ln pe pr ba fo us fr sc hs m o)) rfl trivial ?_
      refine Runs.brF (decide_eq_false (fun zq9 => absurd ((N_le (a := ln) (b := s) (by omega) (by omega)).mp zq9) (by omega))) ?_
      refine Runs.go 2 (cs := []) (pc' := 41) (pl' := [some (.ref 0), some (.int (N k)), some (.int (N s))]) (st' := [.int (N s), .ref 0]) (h' := (KP X cl (S 0) (pk (CX S)) (S 61) (S 62) sn sg sv cd ln pe pr ba fo us fr sc hs m o)) rfl trivial ?_
      refine Runs.cal (y := mX6_doPart) (as := [.ref 0, .int (N s)]) (rest := []) (pc' := 44) (cs := []) (v := some (.int (bI ((doS cd S s).2)))) (h1 := (KP X cl1 ((doS cd S s).1 0) (pk (CX (doS cd S s).1)) ((doS cd S s).1 61) ((doS cd S s).1 62) sn sg sv cd ln pe pr ba fo us fr sc hs m o)) rfl trivial (by decide) (hdo) ?_
      show Runs _ _ 44 _ [.int (bI ((doS cd S s).2))] _ _ _ _
      refine Runs.go 1 (cs := []) (pc' := bif decide ((bI ((doS cd S s).2)) = 0) then 66 else 47) (pl' := [some (.ref 0), some (.int (N k)), some (.int (N s))]) (st' := []) (h' := (KP X cl1 ((doS cd S s).1 0) (pk (CX (doS cd S s).1)) ((doS cd S s).1 61) ((doS cd S s).1 62) sn sg sv cd ln pe pr ba fo us fr sc hs m o)) rfl trivial ?_
      refine Runs.brT (decide_eq_true ((bI_0 _).mpr hd)) ?_
      refine Runs.go 5 (cs := []) (pc' := 75) (pl' := [some (.ref 0), some (.int (N k)), some (.int (N s))]) (st' := [.int (N k)]) (h' := (KP X cl1 ((doS cd S s).1 0) (pk (CX (doS cd S s).1)) ((doS cd S s).1 61) ((doS cd S s).1 62) sn sg sv cd 0 pe pr ba fo us fr sc hs m o)) rfl trivial ?_
      exact Runs.retE (cs := []) rfl trivial rfl rfl
    | true =>
      rcases hend with he | ⟨he, h59, hrest⟩
      · have e : tkS cd ln (f + 1) S s = ((doS cd S s).1, 1) := (if_pos hd).trans (if_neg (by omega))
        rw [e]
        refine ⟨cl1, hcl1, hV1, ?_⟩
        refine Runs.go 5 (cs := []) (pc' := bif decide ((N ln) ≤ (N s)) then 66 else 39) (pl' := [some (.ref 0), some (.int (N k)), some (.int (N s))]) (st' := []) (h' := (KP X cl (S 0) (pk (CX S)) (S 61) (S 62) sn sg sv cd ln pe pr ba fo us fr sc hs m o)) rfl trivial ?_
        refine Runs.brF (decide_eq_false (fun zq9 => absurd ((N_le (a := ln) (b := s) (by omega) (by omega)).mp zq9) (by omega))) ?_
        refine Runs.go 2 (cs := []) (pc' := 41) (pl' := [some (.ref 0), some (.int (N k)), some (.int (N s))]) (st' := [.int (N s), .ref 0]) (h' := (KP X cl (S 0) (pk (CX S)) (S 61) (S 62) sn sg sv cd ln pe pr ba fo us fr sc hs m o)) rfl trivial ?_
        refine Runs.cal (y := mX6_doPart) (as := [.ref 0, .int (N s)]) (rest := []) (pc' := 44) (cs := []) (v := some (.int (bI ((doS cd S s).2)))) (h1 := (KP X cl1 ((doS cd S s).1 0) (pk (CX (doS cd S s).1)) ((doS cd S s).1 61) ((doS cd S s).1 62) sn sg sv cd ln pe pr ba fo us fr sc hs m o)) rfl trivial (by decide) (hdo) ?_
        show Runs _ _ 44 _ [.int (bI ((doS cd S s).2))] _ _ _ _
        refine Runs.go 1 (cs := []) (pc' := bif decide ((bI ((doS cd S s).2)) = 0) then 66 else 47) (pl' := [some (.ref 0), some (.int (N k)), some (.int (N s))]) (st' := []) (h' := (KP X cl1 ((doS cd S s).1 0) (pk (CX (doS cd S s).1)) ((doS cd S s).1 61) ((doS cd S s).1 62) sn sg sv cd ln pe pr ba fo us fr sc hs m o)) rfl trivial ?_
        refine Runs.brF (decide_eq_false (fun zq9 => absurd ((bI_0 _).mp zq9) (nT hd))) ?_
        refine Runs.goL 1 (cs := []) (pc' := 50) (pl1 := [some (.ref 0), some (.int (N k + N 1)), some (.int (N s))]) (pl' := [some (.ref 0), some (.int (N (k + 1))), some (.int (N s))]) (st' := []) (h' := (KP X cl1 ((doS cd S s).1 0) (pk (CX (doS cd S s).1)) ((doS cd S s).1 61) ((doS cd S s).1 62) sn sg sv cd ln pe pr ba fo us fr sc hs m o)) rfl trivial (congrArg (fun zq9 => ([some (.ref 0), some (.int zq9), some (.int (N s))] : PL)) (NA (by omega))) ?_
        refine Runs.go 4 (cs := []) (pc' := 56) (pl' := [some (.ref 0), some (.int (N (k + 1))), some (.int (N s))]) (st' := [.int (N s), .ref 6, .int (N s)]) (h' := (KP X cl1 ((doS cd S s).1 0) (pk (CX (doS cd S s).1)) ((doS cd S s).1 61) ((doS cd S s).1 62) sn sg sv cd ln pe pr ba fo us fr sc hs m o)) rfl trivial ?_
        refine Runs.cal (y := mX5_partLength) (as := [.ref 6, .int (N s)]) (rest := [.int (N s)]) (pc' := 59) (cs := []) (v := some (.int (N (plN cd ln s)))) (h1 := (KP X cl1 ((doS cd S s).1 0) (pk (CX (doS cd S s).1)) ((doS cd S s).1 61) ((doS cd S s).1 62) sn sg sv cd ln pe pr ba fo us fr sc hs m o)) rfl trivial (by decide) (t_partLength (by omega) hB hD) ?_
        show Runs _ _ 59 _ [.int (N (plN cd ln s)), .int (N s)] _ _ _ _
        have hpl1 := pl_34 cd ln s
        refine Runs.topI 2 (cs := []) (pc' := 61) (pl' := [some (.ref 0), some (.int (N (k + 1))), some (.int (N s))]) (v := (N (plN cd ln s)) + (N 1)) (v' := N (plN cd ln s + 1)) (st' := [.int (N s)]) (h' := (KP X cl1 ((doS cd S s).1 0) (pk (CX (doS cd S s).1)) ((doS cd S s).1 61) ((doS cd S s).1 62) sn sg sv cd ln pe pr ba fo us fr sc hs m o)) rfl trivial (NA (by omega)) ?_
        refine Runs.topI 1 (cs := []) (pc' := 62) (pl' := [some (.ref 0), some (.int (N (k + 1))), some (.int (N s))]) (v := (N s) + (N (plN cd ln s + 1))) (v' := N (plN cd ln s + s + 1)) (st' := []) (h' := (KP X cl1 ((doS cd S s).1 0) (pk (CX (doS cd S s).1)) ((doS cd S s).1 61) ((doS cd S s).1 62) sn sg sv cd ln pe pr ba fo us fr sc hs m o)) rfl trivial (NA (by omega)) ?_
        refine Runs.go 2 (cs := []) (pc' := 28) (pl' := [some (.ref 0), some (.int (N (k + 1))), some (.int (N (plN cd ln s + s + 1)))]) (st' := []) (h' := (KP X cl1 ((doS cd S s).1 0) (pk (CX (doS cd S s).1)) ((doS cd S s).1 61) ((doS cd S s).1 62) sn sg sv cd ln pe pr ba fo us fr sc hs m o)) rfl trivial ?_
        refine Runs.go 5 (cs := []) (pc' := bif decide ((N ln) ≤ (N (plN cd ln s + s + 1))) then 66 else 39) (pl' := [some (.ref 0), some (.int (N (k + 1))), some (.int (N (plN cd ln s + s + 1)))]) (st' := []) (h' := (KP X cl1 ((doS cd S s).1 0) (pk (CX (doS cd S s).1)) ((doS cd S s).1 61) ((doS cd S s).1 62) sn sg sv cd ln pe pr ba fo us fr sc hs m o)) rfl trivial ?_
        refine Runs.brT (decide_eq_true ((N_le (a := ln) (b := plN cd ln s + s + 1) (by omega) (by omega)).mpr (by omega))) ?_
        refine Runs.go 5 (cs := []) (pc' := 75) (pl' := [some (.ref 0), some (.int (N (k + 1))), some (.int (N (plN cd ln s + s + 1)))]) (st' := [.int (N (k + 1))]) (h' := (KP X cl1 ((doS cd S s).1 0) (pk (CX (doS cd S s).1)) ((doS cd S s).1 61) ((doS cd S s).1 62) sn sg sv cd 0 pe pr ba fo us fr sc hs m o)) rfl trivial ?_
        exact Runs.retE (cs := []) rfl trivial rfl rfl
      · have e : tkS cd ln (f + 1) S s = ((tkS cd ln f (doS cd S s).1 (s + plN cd ln s + 1)).1, (tkS cd ln f (doS cd S s).1 (s + plN cd ln s + 1)).2 + 1) := (if_pos hd).trans (if_pos he)
        rw [e]
        obtain ⟨cl2, hcl2, hV2, hr⟩ := ih (doS cd S s).1 cl1 (s + plN cd ln s + 1) (k + 1) hV1 hcl1 hrest (by omega)
        refine ⟨cl2, hcl2, hV2, ?_⟩
        rw [Nat.add_comm s (plN cd ln s)] at hr
        rw [Nat.add_comm s (plN cd ln s)]
        rw [show k + 1 + (tkS cd ln f (doS cd S s).1 (plN cd ln s + s + 1)).2 = k + ((tkS cd ln f (doS cd S s).1 (plN cd ln s + s + 1)).2 + 1) by omega] at hr
        refine Runs.go 5 (cs := []) (pc' := bif decide ((N ln) ≤ (N s)) then 66 else 39) (pl' := [some (.ref 0), some (.int (N k)), some (.int (N s))]) (st' := []) (h' := (KP X cl (S 0) (pk (CX S)) (S 61) (S 62) sn sg sv cd ln pe pr ba fo us fr sc hs m o)) rfl trivial ?_
        refine Runs.brF (decide_eq_false (fun zq9 => absurd ((N_le (a := ln) (b := s) (by omega) (by omega)).mp zq9) (by omega))) ?_
        refine Runs.go 2 (cs := []) (pc' := 41) (pl' := [some (.ref 0), some (.int (N k)), some (.int (N s))]) (st' := [.int (N s), .ref 0]) (h' := (KP X cl (S 0) (pk (CX S)) (S 61) (S 62) sn sg sv cd ln pe pr ba fo us fr sc hs m o)) rfl trivial ?_
        refine Runs.cal (y := mX6_doPart) (as := [.ref 0, .int (N s)]) (rest := []) (pc' := 44) (cs := []) (v := some (.int (bI ((doS cd S s).2)))) (h1 := (KP X cl1 ((doS cd S s).1 0) (pk (CX (doS cd S s).1)) ((doS cd S s).1 61) ((doS cd S s).1 62) sn sg sv cd ln pe pr ba fo us fr sc hs m o)) rfl trivial (by decide) (hdo) ?_
        show Runs _ _ 44 _ [.int (bI ((doS cd S s).2))] _ _ _ _
        refine Runs.go 1 (cs := []) (pc' := bif decide ((bI ((doS cd S s).2)) = 0) then 66 else 47) (pl' := [some (.ref 0), some (.int (N k)), some (.int (N s))]) (st' := []) (h' := (KP X cl1 ((doS cd S s).1 0) (pk (CX (doS cd S s).1)) ((doS cd S s).1 61) ((doS cd S s).1 62) sn sg sv cd ln pe pr ba fo us fr sc hs m o)) rfl trivial ?_
        refine Runs.brF (decide_eq_false (fun zq9 => absurd ((bI_0 _).mp zq9) (nT hd))) ?_
        refine Runs.goL 1 (cs := []) (pc' := 50) (pl1 := [some (.ref 0), some (.int (N k + N 1)), some (.int (N s))]) (pl' := [some (.ref 0), some (.int (N (k + 1))), some (.int (N s))]) (st' := []) (h' := (KP X cl1 ((doS cd S s).1 0) (pk (CX (doS cd S s).1)) ((doS cd S s).1 61) ((doS cd S s).1 62) sn sg sv cd ln pe pr ba fo us fr sc hs m o)) rfl trivial (congrArg (fun zq9 => ([some (.ref 0), some (.int zq9), some (.int (N s))] : PL)) (NA (by omega))) ?_
        refine Runs.go 4 (cs := []) (pc' := 56) (pl' := [some (.ref 0), some (.int (N (k + 1))), some (.int (N s))]) (st' := [.int (N s), .ref 6, .int (N s)]) (h' := (KP X cl1 ((doS cd S s).1 0) (pk (CX (doS cd S s).1)) ((doS cd S s).1 61) ((doS cd S s).1 62) sn sg sv cd ln pe pr ba fo us fr sc hs m o)) rfl trivial ?_
        refine Runs.cal (y := mX5_partLength) (as := [.ref 6, .int (N s)]) (rest := [.int (N s)]) (pc' := 59) (cs := []) (v := some (.int (N (plN cd ln s)))) (h1 := (KP X cl1 ((doS cd S s).1 0) (pk (CX (doS cd S s).1)) ((doS cd S s).1 61) ((doS cd S s).1 62) sn sg sv cd ln pe pr ba fo us fr sc hs m o)) rfl trivial (by decide) (t_partLength (by omega) hB hD) ?_
        show Runs _ _ 59 _ [.int (N (plN cd ln s)), .int (N s)] _ _ _ _
        have hpl1 := pl_34 cd ln s
        refine Runs.topI 2 (cs := []) (pc' := 61) (pl' := [some (.ref 0), some (.int (N (k + 1))), some (.int (N s))]) (v := (N (plN cd ln s)) + (N 1)) (v' := N (plN cd ln s + 1)) (st' := [.int (N s)]) (h' := (KP X cl1 ((doS cd S s).1 0) (pk (CX (doS cd S s).1)) ((doS cd S s).1 61) ((doS cd S s).1 62) sn sg sv cd ln pe pr ba fo us fr sc hs m o)) rfl trivial (NA (by omega)) ?_
        refine Runs.topI 1 (cs := []) (pc' := 62) (pl' := [some (.ref 0), some (.int (N (k + 1))), some (.int (N s))]) (v := (N s) + (N (plN cd ln s + 1))) (v' := N (plN cd ln s + s + 1)) (st' := []) (h' := (KP X cl1 ((doS cd S s).1 0) (pk (CX (doS cd S s).1)) ((doS cd S s).1 61) ((doS cd S s).1 62) sn sg sv cd ln pe pr ba fo us fr sc hs m o)) rfl trivial (NA (by omega)) ?_
        refine Runs.go 2 (cs := []) (pc' := 28) (pl' := [some (.ref 0), some (.int (N (k + 1))), some (.int (N (plN cd ln s + s + 1)))]) (st' := []) (h' := (KP X cl1 ((doS cd S s).1 0) (pk (CX (doS cd S s).1)) ((doS cd S s).1 61) ((doS cd S s).1 62) sn sg sv cd ln pe pr ba fo us fr sc hs m o)) rfl trivial ?_
        exact hr
theorem c_take0 {X : Nat × (Nat → Int32)} {S : Nat → Nat} {cl : Nat → Nat} {sn : SV} {r : Nat} {sv : Nat → SV} {cd : Nat → Nat} {ln pe pr : Nat} {ba : Nat → Nat} {fo us : Nat} {fr : Bool} {sc : Nat} {hs : Bool} {m : MT} {o : Nat → Int64} (hV : VC S) (hcl : ∀ k, k < S 0 → cl k = ecl S k) (hB : BF cd ln) (hD : ∀ i, i < 60 → cd i < 127) (hr : r < 6) (hsc : sc ≤ 6) (hc : cmB cd ln = true) (hrg : rgT cd ln 61 0) : ∃ cl', (∀ k, k < (tkS cd ln 61 S 0).1 0 → cl' k = ecl (tkS cd ln 61 S 0).1 k) ∧ VC (tkS cd ln 61 S 0).1 ∧ Call 9 mX6_take [.ref 0] (KP X cl (S 0) (pk (CX S)) (S 61) (S 62) sn (sgR r) sv cd ln pe pr ba fo us fr sc hs m o) (.inl (some (.int (N (tkS cd ln 61 S 0).2)))) (KP X cl' ((tkS cd ln 61 S 0).1 0) (pk (CX (tkS cd ln 61 S 0).1)) ((tkS cd ln 61 S 0).1 61) ((tkS cd ln 61 S 0).1 62) sn (sgR (svR r sc)) (upS sv (svJ r sc) (nwV S cl (sv (svJ r sc)).1)) cd 0 pe pr ba fo us false (svK sc) hs m o) 0 := by
  obtain ⟨cl1, hcl1, hV1, hrn⟩ := c_tkW (X := X) (sn := sn) (sg := sgR (svR r sc)) (sv := upS sv (svJ r sc) (nwV S cl (sv (svJ r sc)).1)) (cd := cd) (ln := ln) (pe := pe) (pr := pr) (ba := ba) (fo := fo) (us := us) (fr := false) (sc := svK sc) (hs := hs) (m := m) (o := o) hB hD 61 S cl 0 0 hV hcl hrg (by decide)
  rw [Nat.zero_add] at hrn
  replace hrn := Runs.deep (show 7 ≤ 9 by decide) hrn
  refine ⟨cl1, hcl1, hV1, ?_⟩
  show Runs 9 mX6_take 0 [some (.ref 0), none, none] [] _ _ _ _
  refine Runs.go 2 (cs := []) (pc' := 4) (pl' := [some (.ref 0), none, none]) (st' := [.ref 6]) (h' := (KP X cl (S 0) (pk (CX S)) (S 61) (S 62) sn (sgR r) sv cd ln pe pr ba fo us fr sc hs m o)) rfl trivial ?_
  refine Runs.cal (y := mX5_isComplete) (as := [.ref 6]) (rest := []) (pc' := 7) (cs := []) (v := some (.int (bI (cmB cd ln)))) (h1 := (KP X cl (S 0) (pk (CX S)) (S 61) (S 62) sn (sgR r) sv cd ln pe pr ba fo us fr sc hs m o)) rfl trivial (by decide) (t_isComplete hB hD) ?_
  show Runs _ _ 7 _ [.int (bI (cmB cd ln))] _ _ _ _
  refine Runs.go 1 (cs := []) (pc' := bif decide (¬ (bI (cmB cd ln)) = 0) then 20 else 10) (pl' := [some (.ref 0), none, none]) (st' := []) (h' := (KP X cl (S 0) (pk (CX S)) (S 61) (S 62) sn (sgR r) sv cd ln pe pr ba fo us fr sc hs m o)) rfl trivial ?_
  refine Runs.brT (decide_eq_true (fun zq9 => absurd ((bI_0 _).mp zq9) (nT hc))) ?_
  refine Runs.go 1 (cs := []) (pc' := 21) (pl' := [some (.ref 0), none, none]) (st' := [.ref 0]) (h' := (KP X cl (S 0) (pk (CX S)) (S 61) (S 62) sn (sgR r) sv cd ln pe pr ba fo us fr sc hs m o)) rfl trivial ?_
  refine Runs.cal (y := mX6_save) (as := [.ref 0]) (rest := []) (pc' := 24) (cs := []) (v := none) (h1 := (KP X cl (S 0) (pk (CX S)) (S 61) (S 62) sn (sgR (svR r sc)) (upS sv (svJ r sc) (nwV S cl (sv (svJ r sc)).1)) cd ln pe pr ba fo us false (svK sc) hs m o)) rfl trivial (by decide) (c_save (fr := fr) hr hsc) ?_
  show Runs _ _ 24 _ [] _ _ _ _
  refine Runs.go 4 (cs := []) (pc' := 28) (pl' := [some (.ref 0), some (.int (N 0)), some (.int (N 0))]) (st' := []) (h' := (KP X cl (S 0) (pk (CX S)) (S 61) (S 62) sn (sgR (svR r sc)) (upS sv (svJ r sc) (nwV S cl (sv (svJ r sc)).1)) cd ln pe pr ba fo us false (svK sc) hs m o)) rfl trivial ?_
  exact hrn
