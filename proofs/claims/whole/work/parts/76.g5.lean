/-! TEXTS: take of the class (gen_g5.py) -/
theorem c_take1 {X : Nat × (Nat → Int32)} {S : Nat → Nat} {cl : Nat → Nat} {sn : SV} {sg : Nat → Option Nat} {sv : Nat → SV} {cd : Nat → Nat} {ln pe pr : Nat} {ba : Nat → Nat} {fo us : Nat} {fr : Bool} {sc : Nat} {hs : Bool} {m : MT} {o : Nat → Int64} (hB : BF cd ln) (hD : ∀ i, i < 60 → cd i < 127) (hc : cmB cd ln = false) : Call 9 mX6_take [.ref 0] (KP X cl (S 0) (pk (CX S)) (S 61) (S 62) sn sg sv cd ln pe pr ba fo us fr sc hs m o) (.inr "java/lang/IllegalArgumentException") (KP X cl (S 0) (pk (CX S)) (S 61) (S 62) sn sg sv cd ln pe pr ba fo us fr sc hs m o) 1 := by
  refine Runs.go 2 (cs := []) (pc' := 4) (pl' := [some (.ref 0), none, none]) (st' := [.ref 6]) (h' := (KP X cl (S 0) (pk (CX S)) (S 61) (S 62) sn sg sv cd ln pe pr ba fo us fr sc hs m o)) rfl trivial ?_
  refine Runs.cal (y := mX5_isComplete) (as := [.ref 6]) (rest := []) (pc' := 7) (cs := []) (v := some (.int (bI (cmB cd ln)))) (h1 := (KP X cl (S 0) (pk (CX S)) (S 61) (S 62) sn sg sv cd ln pe pr ba fo us fr sc hs m o)) rfl trivial (by decide) (t_isComplete hB hD) ?_
  show Runs _ _ 7 _ [.int (bI (cmB cd ln))] _ _ _ _
  refine Runs.go 1 (cs := []) (pc' := bif decide (¬ (bI (cmB cd ln)) = 0) then 20 else 10) (pl' := [some (.ref 0), none, none]) (st' := []) (h' := (KP X cl (S 0) (pk (CX S)) (S 61) (S 62) sn sg sv cd ln pe pr ba fo us fr sc hs m o)) rfl trivial ?_
  refine Runs.brF (decide_eq_false (not_not_intro ((bI_0 _).mpr hc))) ?_
  exact Runs.thr (cs := []) rfl trivial
def bgB (c : Nat → Nat) (s : Nat) : Bool := decide (s = 0) || decide (c (s - 1) = 59)
theorem cdN_59 : ∀ so, so < 7 → ¬ cdN so = 59 := by decide
/-- no sign of a right part is the one between parts -/
theorem gd_59 {c : Nat → Nat} {n s : Nat} (h : gdC c n s) (u : Nat) (hu : u < plN c n s) : ¬ c (s + u) = 59 := by
  rcases gd_cases h with ⟨hp, _, h0, i, p, _, _, h1, h2⟩ | ⟨hp, _, so, i, j, hso, _, _, _, h0, h1, h2⟩ | ⟨hp, _, so, i, p, hso, _, hp4, h0, h1, h2⟩ | ⟨hp, _, i, j, k, _, _, _, _, _, _, h0, h1, h2, h3⟩
  · rw [hp] at hu
    rcases (show u = 0 ∨ u = 1 ∨ u = 2 by omega) with e | e | e
    · rw [e, Nat.add_zero]; omega
    · rw [e]; omega
    · rw [e]; omega
  · rw [hp] at hu
    have hc := cdN_59 so (by omega)
    rcases (show u = 0 ∨ u = 1 ∨ u = 2 by omega) with e | e | e
    · rw [e, Nat.add_zero]; omega
    · rw [e, h1]; exact hc
    · rw [e]; omega
  · rw [hp] at hu
    have hc := cdN_59 so (by omega)
    rcases (show u = 0 ∨ u = 1 ∨ u = 2 by omega) with e | e | e
    · rw [e, Nat.add_zero]; omega
    · rw [e, h1]; exact hc
    · rw [e]; omega
  · rw [hp] at hu
    rcases (show u = 0 ∨ u = 1 ∨ u = 2 ∨ u = 3 by omega) with e | e | e | e
    · rw [e, Nat.add_zero]; omega
    · rw [e]; omega
    · rw [e]; omega
    · rw [e]; omega
/-- no part begins inside a right part, nor at the sign behind it -/
theorem bg_in {c : Nat → Nat} {n s : Nat} (h : gdC c n s) (u : Nat) (hu : u < plN c n s) : bgB c (s + 1 + u) = false := by
  unfold bgB
  rw [decide_eq_false (show ¬ s + 1 + u = 0 by omega), show s + 1 + u - 1 = s + u by omega, decide_eq_false (gd_59 h u hu)]
  rfl
theorem t_beginsPart {X : Nat × (Nat → Int32)} {cl : Nat → Nat} {cn cx ma ru : Nat} {sn : SV} {sg : Nat → Option Nat} {sv : Nat → SV} {cd : Nat → Nat} {ln pe pr : Nat} {ba : Nat → Nat} {fo us : Nat} {fr : Bool} {sc : Nat} {hs : Bool} {m : MT} {o : Nat → Int64} {s : Nat} (hq : s ≤ 60) (hB : BF cd ln) (hD : ∀ i, i < 60 → cd i < 127) : Call 0 mX5_beginsPart [.ref 6, .int (N s)] (KP X cl cn cx ma ru sn sg sv cd ln pe pr ba fo us fr sc hs m o) (.inl (some (.int (bI (bgB cd s))))) (KP X cl cn cx ma ru sn sg sv cd ln pe pr ba fo us fr sc hs m o) 0 := by
  have hle := hB.1
  have hC : ∀ i, i < 60 → cd i < 127 := hD
  refine Runs.go 2 (cs := []) (pc' := bif decide ((N s) ≤ 0) then 17 else 4) (pl' := [some (.ref 6), some (.int (N s))]) (st' := []) (h' := (KP X cl cn cx ma ru sn sg sv cd ln pe pr ba fo us fr sc hs m o)) rfl trivial ?_
  refine Runs.br (fun z1 => ?_) (fun z1 => ?_)
  · replace z1 : s ≤ 0 := (N_le (a := s) (b := 0) (by omega) (by omega)).mp (of_decide_eq_true z1)
    refine Runs.go 2 (cs := []) (pc' := 22) (pl' := [some (.ref 6), some (.int (N s))]) (st' := [.int (N 1)]) (h' := (KP X cl cn cx ma ru sn sg sv cd ln pe pr ba fo us fr sc hs m o)) rfl trivial ?_
    exact Runs.retE (cs := [(N 1 : Int32) = 0 ∨ (N 1 : Int32) = 1]) rfl ⟨Or.inr rfl, trivial⟩ (retI (bIT (by unfold bgB; rw [decide_eq_true (show s = 0 by omega)]; rfl))) rfl
  · replace z1 : ¬ (s ≤ 0) := mt (N_le (a := s) (b := 0) (by omega) (by omega)).mpr (of_decide_eq_false z1)
    refine Runs.topI 5 (cs := []) (pc' := 11) (pl' := [some (.ref 6), some (.int (N s))]) (v := (N s) - (N 1)) (v' := N (s - 1)) (st' := [.ref 7]) (h' := (KP X cl cn cx ma ru sn sg sv cd ln pe pr ba fo us fr sc hs m o)) rfl trivial (NS (by omega)) ?_
    refine Runs.topI 1 (cs := [vp_in (N (s - 1)) 60]) (pc' := 12) (pl' := [some (.ref 6), some (.int (N s))]) (v := aN cd (N (s - 1)).toNatClampNeg) (v' := N (cd (s - 1))) (st' := []) (h' := (KP X cl cn cx ma ru sn sg sv cd ln pe pr ba fo us fr sc hs m o)) rfl ⟨(N_in (by omega) (by decide)), trivial⟩ (aN_at (by omega)) ?_
    have b2 := hC ((s - 1)) (by omega)
    refine Runs.go 2 (cs := []) (pc' := bif decide (¬ (N (cd (s - 1))) = (N 59)) then 21 else 17) (pl' := [some (.ref 6), some (.int (N s))]) (st' := []) (h' := (KP X cl cn cx ma ru sn sg sv cd ln pe pr ba fo us fr sc hs m o)) rfl trivial ?_
    refine Runs.br (fun z3 => ?_) (fun z3 => ?_)
    · replace z3 : ¬ (cd (s - 1) = 59) := mt (N_eq (a := cd (s - 1)) (b := 59) (by omega) (by omega)).mpr (of_decide_eq_true z3)
      refine Runs.go 1 (cs := []) (pc' := 22) (pl' := [some (.ref 6), some (.int (N s))]) (st' := [.int (N 0)]) (h' := (KP X cl cn cx ma ru sn sg sv cd ln pe pr ba fo us fr sc hs m o)) rfl trivial ?_
      exact Runs.retE (cs := [(N 0 : Int32) = 0 ∨ (N 0 : Int32) = 1]) rfl ⟨Or.inl rfl, trivial⟩ (retI (bIF (by unfold bgB; rw [decide_eq_false (show ¬ s = 0 by omega), decide_eq_false z3]; rfl))) rfl
    · replace z3 : cd (s - 1) = 59 := (N_eq (a := cd (s - 1)) (b := 59) (by omega) (by omega)).mp (Classical.not_not.mp (of_decide_eq_false z3))
      refine Runs.go 2 (cs := []) (pc' := 22) (pl' := [some (.ref 6), some (.int (N s))]) (st' := [.int (N 1)]) (h' := (KP X cl cn cx ma ru sn sg sv cd ln pe pr ba fo us fr sc hs m o)) rfl trivial ?_
      exact Runs.retE (cs := [(N 1 : Int32) = 0 ∨ (N 1 : Int32) = 1]) rfl ⟨Or.inr rfl, trivial⟩ (retI (bIT (by unfold bgB; rw [decide_eq_true z3]; exact Bool.or_true _))) rfl
theorem c_skip {X : Nat × (Nat → Int32)} {cl : Nat → Nat} {cn cx ma ru : Nat} {sn : SV} {sg : Nat → Option Nat} {sv : Nat → SV} {cd : Nat → Nat} {ln pe pr : Nat} {ba : Nat → Nat} {fo us : Nat} {fr : Bool} {sc : Nat} {hs : Bool} {m : MT} {o : Nat → Int64} {k : Nat} {oo : Option Value ⊕ String} {hz : PH} {kk : Nat} (hB : BF cd ln) (hD : ∀ i, i < 60 → cd i < 127) : ∀ (d i : Nat), i + d ≤ ln → (∀ u, u < d → bgB cd (i + u) = false) → Runs 7 mX6_take 28 [some (.ref 0), some (.int (N k)), some (.int (N (i + d)))] [] (KP X cl cn cx ma ru sn sg sv cd ln pe pr ba fo us fr sc hs m o) oo hz kk → Runs 7 mX6_take 28 [some (.ref 0), some (.int (N k)), some (.int (N i))] [] (KP X cl cn cx ma ru sn sg sv cd ln pe pr ba fo us fr sc hs m o) oo hz kk := by
  intro d
  induction d with
  | zero =>
    intro i _ _ hr
    exact hr
  | succ d ih =>
    intro i hi h hr
    have hle := hB.1
    have hb : bgB cd i = false := h 0 (by omega)
    refine Runs.go 5 (cs := []) (pc' := bif decide ((N ln) ≤ (N i)) then 70 else 39) (pl' := [some (.ref 0), some (.int (N k)), some (.int (N i))]) (st' := []) (h' := (KP X cl cn cx ma ru sn sg sv cd ln pe pr ba fo us fr sc hs m o)) rfl trivial ?_
    refine Runs.brF (decide_eq_false (fun zq9 => absurd ((N_le (a := ln) (b := i) (by omega) (by omega)).mp zq9) (by omega))) ?_
    refine Runs.go 3 (cs := []) (pc' := 44) (pl' := [some (.ref 0), some (.int (N k)), some (.int (N i))]) (st' := [.int (N i), .ref 6]) (h' := (KP X cl cn cx ma ru sn sg sv cd ln pe pr ba fo us fr sc hs m o)) rfl trivial ?_
    refine Runs.cal (y := mX5_beginsPart) (as := [.ref 6, .int (N i)]) (rest := []) (pc' := 47) (cs := []) (v := some (.int (bI (bgB cd i)))) (h1 := (KP X cl cn cx ma ru sn sg sv cd ln pe pr ba fo us fr sc hs m o)) rfl trivial (by decide) (t_beginsPart (by omega) hB hD) ?_
    show Runs _ _ 47 _ [.int (bI (bgB cd i))] _ _ _ _
    refine Runs.go 1 (cs := []) (pc' := bif decide ((bI (bgB cd i)) = 0) then 64 else 50) (pl' := [some (.ref 0), some (.int (N k)), some (.int (N i))]) (st' := []) (h' := (KP X cl cn cx ma ru sn sg sv cd ln pe pr ba fo us fr sc hs m o)) rfl trivial ?_
    refine Runs.brT (decide_eq_true ((bI_0 _).mpr hb)) ?_
    refine Runs.goL 1 (cs := []) (pc' := 67) (pl1 := [some (.ref 0), some (.int (N k)), some (.int (N i + N 1))]) (pl' := [some (.ref 0), some (.int (N k)), some (.int (N (i + 1)))]) (st' := []) (h' := (KP X cl cn cx ma ru sn sg sv cd ln pe pr ba fo us fr sc hs m o)) rfl trivial (congrArg (fun zq9 => ([some (.ref 0), some (.int (N k)), some (.int zq9)] : PL)) (NA (by omega))) ?_
    refine Runs.go 1 (cs := []) (pc' := 28) (pl' := [some (.ref 0), some (.int (N k)), some (.int (N (i + 1)))]) (st' := []) (h' := (KP X cl cn cx ma ru sn sg sv cd ln pe pr ba fo us fr sc hs m o)) rfl trivial ?_
    refine ih (i + 1) (by omega) (fun u hu => ?_) ?_
    · have h9 := h (u + 1) (by omega)
      rwa [show i + (u + 1) = i + 1 + u by omega] at h9
    · rwa [show i + (d + 1) = i + 1 + d by omega] at hr
theorem c_tkW {X : Nat × (Nat → Int32)} {sn : SV} {sg : Nat → Option Nat} {sv : Nat → SV} {cd : Nat → Nat} {ln pe pr : Nat} {ba : Nat → Nat} {fo us : Nat} {fr : Bool} {sc : Nat} {hs : Bool} {m : MT} {o : Nat → Int64} (hB : BF cd ln) (hD : ∀ i, i < 60 → cd i < 127) : ∀ (f : Nat) (S cl : Nat → Nat) (s k : Nat), VC S → (∀ k, k < S 0 → cl k = ecl S k) → bgB cd s = true → rgT cd ln f s → k + f < 200 → ∃ cl', (∀ k, k < (tkS cd ln f S s).1 0 → cl' k = ecl (tkS cd ln f S s).1 k) ∧ VC (tkS cd ln f S s).1 ∧ Runs 7 mX6_take 28 [some (.ref 0), some (.int (N k)), some (.int (N s))] [] (KP X cl (S 0) (pk (CX S)) (S 61) (S 62) sn sg sv cd ln pe pr ba fo us fr sc hs m o) (.inl (some (.int (N (k + (tkS cd ln f S s).2))))) (KP X cl' ((tkS cd ln f S s).1 0) (pk (CX (tkS cd ln f S s).1)) ((tkS cd ln f S s).1 61) ((tkS cd ln f S s).1 62) sn sg sv cd 0 pe pr ba fo us fr sc hs m o) 0 := by
  intro f
  induction f with
  | zero =>
    intro S cl s k _ _ _ h
    exact h.elim
  | succ f ih =>
    intro S cl s k hV hcl hbg hr0 hk
    obtain ⟨hgd, hend⟩ := hr0
    have hle := hB.1
    have hpl := pl_34 cd ln s
    have hlt : s + (plN cd ln s - 1) < ln := (gS_iff.mp (hgd _ (by omega))).1
    obtain ⟨cl1, hcl1, hV1, hdo⟩ := c_doPart (X := X) (sn := sn) (sg := sg) (sv := sv) (cd := cd) (ln := ln) (pe := pe) (pr := pr) (ba := ba) (fo := fo) (us := us) (fr := fr) (sc := sc) (hs := hs) (m := m) (o := o) hV hcl hB hD hgd
    cases hd : (doS cd S s).2 with
    | false =>
      have e : tkS cd ln (f + 1) S s = ((doS cd S s).1, 0) := if_neg (by rw [hd]; decide)
      rw [e]
      refine ⟨cl1, hcl1, hV1, ?_⟩
      refine Runs.go 5 (cs := []) (pc' := bif decide ((N ln) ≤ (N s)) then 70 else 39) (pl' := [some (.ref 0), some (.int (N k)), some (.int (N s))]) (st' := []) (h' := (KP X cl (S 0) (pk (CX S)) (S 61) (S 62) sn sg sv cd ln pe pr ba fo us fr sc hs m o)) rfl trivial ?_
      refine Runs.brF (decide_eq_false (fun zq9 => absurd ((N_le (a := ln) (b := s) (by omega) (by omega)).mp zq9) (by omega))) ?_
      refine Runs.go 3 (cs := []) (pc' := 44) (pl' := [some (.ref 0), some (.int (N k)), some (.int (N s))]) (st' := [.int (N s), .ref 6]) (h' := (KP X cl (S 0) (pk (CX S)) (S 61) (S 62) sn sg sv cd ln pe pr ba fo us fr sc hs m o)) rfl trivial ?_
      refine Runs.cal (y := mX5_beginsPart) (as := [.ref 6, .int (N s)]) (rest := []) (pc' := 47) (cs := []) (v := some (.int (bI (bgB cd s)))) (h1 := (KP X cl (S 0) (pk (CX S)) (S 61) (S 62) sn sg sv cd ln pe pr ba fo us fr sc hs m o)) rfl trivial (by decide) (t_beginsPart (by omega) hB hD) ?_
      show Runs _ _ 47 _ [.int (bI (bgB cd s))] _ _ _ _
      refine Runs.go 1 (cs := []) (pc' := bif decide ((bI (bgB cd s)) = 0) then 64 else 50) (pl' := [some (.ref 0), some (.int (N k)), some (.int (N s))]) (st' := []) (h' := (KP X cl (S 0) (pk (CX S)) (S 61) (S 62) sn sg sv cd ln pe pr ba fo us fr sc hs m o)) rfl trivial ?_
      refine Runs.brF (decide_eq_false (fun zq9 => absurd ((bI_0 _).mp zq9) (nT hbg))) ?_
      refine Runs.go 2 (cs := []) (pc' := 52) (pl' := [some (.ref 0), some (.int (N k)), some (.int (N s))]) (st' := [.int (N s), .ref 0]) (h' := (KP X cl (S 0) (pk (CX S)) (S 61) (S 62) sn sg sv cd ln pe pr ba fo us fr sc hs m o)) rfl trivial ?_
      refine Runs.cal (y := mX6_doPart) (as := [.ref 0, .int (N s)]) (rest := []) (pc' := 55) (cs := []) (v := some (.int (bI ((doS cd S s).2)))) (h1 := (KP X cl1 ((doS cd S s).1 0) (pk (CX (doS cd S s).1)) ((doS cd S s).1 61) ((doS cd S s).1 62) sn sg sv cd ln pe pr ba fo us fr sc hs m o)) rfl trivial (by decide) (hdo) ?_
      show Runs _ _ 55 _ [.int (bI ((doS cd S s).2))] _ _ _ _
      refine Runs.go 1 (cs := []) (pc' := bif decide (¬ (bI ((doS cd S s).2)) = 0) then 61 else 58) (pl' := [some (.ref 0), some (.int (N k)), some (.int (N s))]) (st' := []) (h' := (KP X cl1 ((doS cd S s).1 0) (pk (CX (doS cd S s).1)) ((doS cd S s).1 61) ((doS cd S s).1 62) sn sg sv cd ln pe pr ba fo us fr sc hs m o)) rfl trivial ?_
      refine Runs.brF (decide_eq_false (not_not_intro ((bI_0 _).mpr hd))) ?_
      refine Runs.go 6 (cs := []) (pc' := 79) (pl' := [some (.ref 0), some (.int (N k)), some (.int (N s))]) (st' := [.int (N k)]) (h' := (KP X cl1 ((doS cd S s).1 0) (pk (CX (doS cd S s).1)) ((doS cd S s).1 61) ((doS cd S s).1 62) sn sg sv cd 0 pe pr ba fo us fr sc hs m o)) rfl trivial ?_
      exact Runs.retE (cs := []) rfl trivial rfl rfl
    | true =>
      rcases hend with he | ⟨he, h59, hrest⟩
      · have e : tkS cd ln (f + 1) S s = ((doS cd S s).1, 1) := (if_pos hd).trans (if_neg (by omega))
        rw [e]
        refine ⟨cl1, hcl1, hV1, ?_⟩
        refine Runs.go 5 (cs := []) (pc' := bif decide ((N ln) ≤ (N s)) then 70 else 39) (pl' := [some (.ref 0), some (.int (N k)), some (.int (N s))]) (st' := []) (h' := (KP X cl (S 0) (pk (CX S)) (S 61) (S 62) sn sg sv cd ln pe pr ba fo us fr sc hs m o)) rfl trivial ?_
        refine Runs.brF (decide_eq_false (fun zq9 => absurd ((N_le (a := ln) (b := s) (by omega) (by omega)).mp zq9) (by omega))) ?_
        refine Runs.go 3 (cs := []) (pc' := 44) (pl' := [some (.ref 0), some (.int (N k)), some (.int (N s))]) (st' := [.int (N s), .ref 6]) (h' := (KP X cl (S 0) (pk (CX S)) (S 61) (S 62) sn sg sv cd ln pe pr ba fo us fr sc hs m o)) rfl trivial ?_
        refine Runs.cal (y := mX5_beginsPart) (as := [.ref 6, .int (N s)]) (rest := []) (pc' := 47) (cs := []) (v := some (.int (bI (bgB cd s)))) (h1 := (KP X cl (S 0) (pk (CX S)) (S 61) (S 62) sn sg sv cd ln pe pr ba fo us fr sc hs m o)) rfl trivial (by decide) (t_beginsPart (by omega) hB hD) ?_
        show Runs _ _ 47 _ [.int (bI (bgB cd s))] _ _ _ _
        refine Runs.go 1 (cs := []) (pc' := bif decide ((bI (bgB cd s)) = 0) then 64 else 50) (pl' := [some (.ref 0), some (.int (N k)), some (.int (N s))]) (st' := []) (h' := (KP X cl (S 0) (pk (CX S)) (S 61) (S 62) sn sg sv cd ln pe pr ba fo us fr sc hs m o)) rfl trivial ?_
        refine Runs.brF (decide_eq_false (fun zq9 => absurd ((bI_0 _).mp zq9) (nT hbg))) ?_
        refine Runs.go 2 (cs := []) (pc' := 52) (pl' := [some (.ref 0), some (.int (N k)), some (.int (N s))]) (st' := [.int (N s), .ref 0]) (h' := (KP X cl (S 0) (pk (CX S)) (S 61) (S 62) sn sg sv cd ln pe pr ba fo us fr sc hs m o)) rfl trivial ?_
        refine Runs.cal (y := mX6_doPart) (as := [.ref 0, .int (N s)]) (rest := []) (pc' := 55) (cs := []) (v := some (.int (bI ((doS cd S s).2)))) (h1 := (KP X cl1 ((doS cd S s).1 0) (pk (CX (doS cd S s).1)) ((doS cd S s).1 61) ((doS cd S s).1 62) sn sg sv cd ln pe pr ba fo us fr sc hs m o)) rfl trivial (by decide) (hdo) ?_
        show Runs _ _ 55 _ [.int (bI ((doS cd S s).2))] _ _ _ _
        refine Runs.go 1 (cs := []) (pc' := bif decide (¬ (bI ((doS cd S s).2)) = 0) then 61 else 58) (pl' := [some (.ref 0), some (.int (N k)), some (.int (N s))]) (st' := []) (h' := (KP X cl1 ((doS cd S s).1 0) (pk (CX (doS cd S s).1)) ((doS cd S s).1 61) ((doS cd S s).1 62) sn sg sv cd ln pe pr ba fo us fr sc hs m o)) rfl trivial ?_
        refine Runs.brT (decide_eq_true (fun zq9 => absurd ((bI_0 _).mp zq9) (nT hd))) ?_
        refine Runs.goL 1 (cs := []) (pc' := 64) (pl1 := [some (.ref 0), some (.int (N k + N 1)), some (.int (N s))]) (pl' := [some (.ref 0), some (.int (N (k + 1))), some (.int (N s))]) (st' := []) (h' := (KP X cl1 ((doS cd S s).1 0) (pk (CX (doS cd S s).1)) ((doS cd S s).1 61) ((doS cd S s).1 62) sn sg sv cd ln pe pr ba fo us fr sc hs m o)) rfl trivial (congrArg (fun zq9 => ([some (.ref 0), some (.int zq9), some (.int (N s))] : PL)) (NA (by omega))) ?_
        refine Runs.goL 1 (cs := []) (pc' := 67) (pl1 := [some (.ref 0), some (.int (N (k + 1))), some (.int (N s + N 1))]) (pl' := [some (.ref 0), some (.int (N (k + 1))), some (.int (N (s + 1)))]) (st' := []) (h' := (KP X cl1 ((doS cd S s).1 0) (pk (CX (doS cd S s).1)) ((doS cd S s).1 61) ((doS cd S s).1 62) sn sg sv cd ln pe pr ba fo us fr sc hs m o)) rfl trivial (congrArg (fun zq9 => ([some (.ref 0), some (.int (N (k + 1))), some (.int zq9)] : PL)) (NA (by omega))) ?_
        refine Runs.go 1 (cs := []) (pc' := 28) (pl' := [some (.ref 0), some (.int (N (k + 1))), some (.int (N (s + 1)))]) (st' := []) (h' := (KP X cl1 ((doS cd S s).1 0) (pk (CX (doS cd S s).1)) ((doS cd S s).1 61) ((doS cd S s).1 62) sn sg sv cd ln pe pr ba fo us fr sc hs m o)) rfl trivial ?_
        refine c_skip hB hD (plN cd ln s - 1) (s + 1) (by omega) (fun u hu => bg_in hgd u (by omega)) ?_
        rw [show s + 1 + (plN cd ln s - 1) = ln by omega]
        refine Runs.go 5 (cs := []) (pc' := bif decide ((N ln) ≤ (N ln)) then 70 else 39) (pl' := [some (.ref 0), some (.int (N (k + 1))), some (.int (N ln))]) (st' := []) (h' := (KP X cl1 ((doS cd S s).1 0) (pk (CX (doS cd S s).1)) ((doS cd S s).1 61) ((doS cd S s).1 62) sn sg sv cd ln pe pr ba fo us fr sc hs m o)) rfl trivial ?_
        refine Runs.brT (decide_eq_true ((N_le (a := ln) (b := ln) (by omega) (by omega)).mpr (by omega))) ?_
        refine Runs.go 5 (cs := []) (pc' := 79) (pl' := [some (.ref 0), some (.int (N (k + 1))), some (.int (N ln))]) (st' := [.int (N (k + 1))]) (h' := (KP X cl1 ((doS cd S s).1 0) (pk (CX (doS cd S s).1)) ((doS cd S s).1 61) ((doS cd S s).1 62) sn sg sv cd 0 pe pr ba fo us fr sc hs m o)) rfl trivial ?_
        exact Runs.retE (cs := []) rfl trivial rfl rfl
      · have e : tkS cd ln (f + 1) S s = ((tkS cd ln f (doS cd S s).1 (s + plN cd ln s + 1)).1, (tkS cd ln f (doS cd S s).1 (s + plN cd ln s + 1)).2 + 1) := (if_pos hd).trans (if_pos he)
        rw [e]
        have hb2 : bgB cd (s + plN cd ln s + 1) = true := by
          unfold bgB
          rw [show s + plN cd ln s + 1 - 1 = s + plN cd ln s from rfl, decide_eq_true h59]
          exact Bool.or_true _
        obtain ⟨cl2, hcl2, hV2, hr⟩ := ih (doS cd S s).1 cl1 (s + plN cd ln s + 1) (k + 1) hV1 hcl1 hb2 hrest (by omega)
        refine ⟨cl2, hcl2, hV2, ?_⟩
        rw [show s + plN cd ln s + 1 = s + 1 + plN cd ln s by omega] at hr
        rw [show s + plN cd ln s + 1 = s + 1 + plN cd ln s by omega]
        rw [show k + 1 + (tkS cd ln f (doS cd S s).1 (s + 1 + plN cd ln s)).2 = k + ((tkS cd ln f (doS cd S s).1 (s + 1 + plN cd ln s)).2 + 1) by omega] at hr
        refine Runs.go 5 (cs := []) (pc' := bif decide ((N ln) ≤ (N s)) then 70 else 39) (pl' := [some (.ref 0), some (.int (N k)), some (.int (N s))]) (st' := []) (h' := (KP X cl (S 0) (pk (CX S)) (S 61) (S 62) sn sg sv cd ln pe pr ba fo us fr sc hs m o)) rfl trivial ?_
        refine Runs.brF (decide_eq_false (fun zq9 => absurd ((N_le (a := ln) (b := s) (by omega) (by omega)).mp zq9) (by omega))) ?_
        refine Runs.go 3 (cs := []) (pc' := 44) (pl' := [some (.ref 0), some (.int (N k)), some (.int (N s))]) (st' := [.int (N s), .ref 6]) (h' := (KP X cl (S 0) (pk (CX S)) (S 61) (S 62) sn sg sv cd ln pe pr ba fo us fr sc hs m o)) rfl trivial ?_
        refine Runs.cal (y := mX5_beginsPart) (as := [.ref 6, .int (N s)]) (rest := []) (pc' := 47) (cs := []) (v := some (.int (bI (bgB cd s)))) (h1 := (KP X cl (S 0) (pk (CX S)) (S 61) (S 62) sn sg sv cd ln pe pr ba fo us fr sc hs m o)) rfl trivial (by decide) (t_beginsPart (by omega) hB hD) ?_
        show Runs _ _ 47 _ [.int (bI (bgB cd s))] _ _ _ _
        refine Runs.go 1 (cs := []) (pc' := bif decide ((bI (bgB cd s)) = 0) then 64 else 50) (pl' := [some (.ref 0), some (.int (N k)), some (.int (N s))]) (st' := []) (h' := (KP X cl (S 0) (pk (CX S)) (S 61) (S 62) sn sg sv cd ln pe pr ba fo us fr sc hs m o)) rfl trivial ?_
        refine Runs.brF (decide_eq_false (fun zq9 => absurd ((bI_0 _).mp zq9) (nT hbg))) ?_
        refine Runs.go 2 (cs := []) (pc' := 52) (pl' := [some (.ref 0), some (.int (N k)), some (.int (N s))]) (st' := [.int (N s), .ref 0]) (h' := (KP X cl (S 0) (pk (CX S)) (S 61) (S 62) sn sg sv cd ln pe pr ba fo us fr sc hs m o)) rfl trivial ?_
        refine Runs.cal (y := mX6_doPart) (as := [.ref 0, .int (N s)]) (rest := []) (pc' := 55) (cs := []) (v := some (.int (bI ((doS cd S s).2)))) (h1 := (KP X cl1 ((doS cd S s).1 0) (pk (CX (doS cd S s).1)) ((doS cd S s).1 61) ((doS cd S s).1 62) sn sg sv cd ln pe pr ba fo us fr sc hs m o)) rfl trivial (by decide) (hdo) ?_
        show Runs _ _ 55 _ [.int (bI ((doS cd S s).2))] _ _ _ _
        refine Runs.go 1 (cs := []) (pc' := bif decide (¬ (bI ((doS cd S s).2)) = 0) then 61 else 58) (pl' := [some (.ref 0), some (.int (N k)), some (.int (N s))]) (st' := []) (h' := (KP X cl1 ((doS cd S s).1 0) (pk (CX (doS cd S s).1)) ((doS cd S s).1 61) ((doS cd S s).1 62) sn sg sv cd ln pe pr ba fo us fr sc hs m o)) rfl trivial ?_
        refine Runs.brT (decide_eq_true (fun zq9 => absurd ((bI_0 _).mp zq9) (nT hd))) ?_
        refine Runs.goL 1 (cs := []) (pc' := 64) (pl1 := [some (.ref 0), some (.int (N k + N 1)), some (.int (N s))]) (pl' := [some (.ref 0), some (.int (N (k + 1))), some (.int (N s))]) (st' := []) (h' := (KP X cl1 ((doS cd S s).1 0) (pk (CX (doS cd S s).1)) ((doS cd S s).1 61) ((doS cd S s).1 62) sn sg sv cd ln pe pr ba fo us fr sc hs m o)) rfl trivial (congrArg (fun zq9 => ([some (.ref 0), some (.int zq9), some (.int (N s))] : PL)) (NA (by omega))) ?_
        refine Runs.goL 1 (cs := []) (pc' := 67) (pl1 := [some (.ref 0), some (.int (N (k + 1))), some (.int (N s + N 1))]) (pl' := [some (.ref 0), some (.int (N (k + 1))), some (.int (N (s + 1)))]) (st' := []) (h' := (KP X cl1 ((doS cd S s).1 0) (pk (CX (doS cd S s).1)) ((doS cd S s).1 61) ((doS cd S s).1 62) sn sg sv cd ln pe pr ba fo us fr sc hs m o)) rfl trivial (congrArg (fun zq9 => ([some (.ref 0), some (.int (N (k + 1))), some (.int zq9)] : PL)) (NA (by omega))) ?_
        refine Runs.go 1 (cs := []) (pc' := 28) (pl' := [some (.ref 0), some (.int (N (k + 1))), some (.int (N (s + 1)))]) (st' := []) (h' := (KP X cl1 ((doS cd S s).1 0) (pk (CX (doS cd S s).1)) ((doS cd S s).1 61) ((doS cd S s).1 62) sn sg sv cd ln pe pr ba fo us fr sc hs m o)) rfl trivial ?_
        exact c_skip hB hD (plN cd ln s) (s + 1) (by omega) (fun u hu => bg_in hgd u hu) hr
theorem c_take0 {X : Nat × (Nat → Int32)} {S : Nat → Nat} {cl : Nat → Nat} {sn : SV} {r : Nat} {sv : Nat → SV} {cd : Nat → Nat} {ln pe pr : Nat} {ba : Nat → Nat} {fo us : Nat} {fr : Bool} {sc : Nat} {hs : Bool} {m : MT} {o : Nat → Int64} (hV : VC S) (hcl : ∀ k, k < S 0 → cl k = ecl S k) (hB : BF cd ln) (hD : ∀ i, i < 60 → cd i < 127) (hr : r < 6) (hsc : sc ≤ 6) (hc : cmB cd ln = true) (hrg : rgT cd ln 61 0) : ∃ cl', (∀ k, k < (tkS cd ln 61 S 0).1 0 → cl' k = ecl (tkS cd ln 61 S 0).1 k) ∧ VC (tkS cd ln 61 S 0).1 ∧ Call 9 mX6_take [.ref 0] (KP X cl (S 0) (pk (CX S)) (S 61) (S 62) sn (sgR r) sv cd ln pe pr ba fo us fr sc hs m o) (.inl (some (.int (N (tkS cd ln 61 S 0).2)))) (KP X cl' ((tkS cd ln 61 S 0).1 0) (pk (CX (tkS cd ln 61 S 0).1)) ((tkS cd ln 61 S 0).1 61) ((tkS cd ln 61 S 0).1 62) sn (sgR (svR r sc)) (upS sv (svJ r sc) (nwV S cl (sv (svJ r sc)).1)) cd 0 pe pr ba fo us false (svK sc) hs m o) 0 := by
  obtain ⟨cl1, hcl1, hV1, hrn⟩ := c_tkW (X := X) (sn := sn) (sg := sgR (svR r sc)) (sv := upS sv (svJ r sc) (nwV S cl (sv (svJ r sc)).1)) (cd := cd) (ln := ln) (pe := pe) (pr := pr) (ba := ba) (fo := fo) (us := us) (fr := false) (sc := svK sc) (hs := hs) (m := m) (o := o) hB hD 61 S cl 0 0 hV hcl rfl hrg (by decide)
  rw [Nat.zero_add] at hrn
  replace hrn := Runs.deep (show 7 ≤ 9 by decide) hrn
  refine ⟨cl1, hcl1, hV1, ?_⟩
  show Runs 9 mX6_take 0 [some (.ref 0), none, none] [] _ _ _ _
  refine Runs.go 2 (cs := []) (pc' := 4) (pl' := [some (.ref 0), none, none]) (st' := [.ref 6]) (h' := (KP X cl (S 0) (pk (CX S)) (S 61) (S 62) sn (sgR r) sv cd ln pe pr ba fo us fr sc hs m o)) rfl trivial ?_
  refine Runs.cal (y := mX5_isComplete) (as := [.ref 6]) (rest := []) (pc' := 7) (cs := []) (v := some (.int (bI (cmB cd ln)))) (h1 := (KP X cl (S 0) (pk (CX S)) (S 61) (S 62) sn (sgR r) sv cd ln pe pr ba fo us fr sc hs m o)) rfl trivial (by decide) (t_isComplete hB hD) ?_
  show Runs _ _ 7 _ [.int (bI (cmB cd ln))] _ _ _ _
  refine Runs.go 1 (cs := []) (pc' := bif decide (¬ (bI (cmB cd ln)) = 0) then 20 else 10) (pl' := [some (.ref 0), none, none]) (st' := []) (h' := (KP X cl (S 0) (pk (CX S)) (S 61) (S 62) sn (sgR r) sv cd ln pe pr ba fo us fr sc hs m o)) rfl trivial ?_
  refine Runs.brT (decide_eq_true (fun zq9 => absurd ((bI_0 _).mp zq9) (nT hc))) ?_
  refine Runs.go 1 (cs := []) (pc' := 21) (pl' := [some (.ref 0), none, none]) (st' := [.ref 0]) (h' := (KP X cl (S 0) (pk (CX S)) (S 61) (S 62) sn (sgR r) sv cd ln pe pr ba fo us fr sc hs m o)) rfl trivial ?_
  refine Runs.cal (y := mX6_save) (as := [.ref 0]) (rest := []) (pc' := 24) (cs := []) (v := none) (h1 := (KP X cl (S 0) (pk (CX S)) (S 61) (S 62) sn (sgR (svR r sc)) (upS sv (svJ r sc) (nwV S cl (sv (svJ r sc)).1)) cd ln pe pr ba fo us false (svK sc) hs m o)) rfl trivial (by decide) (c_save (fr := fr) hr hsc) ?_
  show Runs _ _ 24 _ [] _ _ _ _
  refine Runs.go 4 (cs := []) (pc' := 28) (pl' := [some (.ref 0), some (.int (N 0)), some (.int (N 0))]) (st' := []) (h' := (KP X cl (S 0) (pk (CX S)) (S 61) (S 62) sn (sgR (svR r sc)) (upS sv (svJ r sc) (nwV S cl (sv (svJ r sc)).1)) cd ln pe pr ba fo us false (svK sc) hs m o)) rfl trivial ?_
  exact hrn
