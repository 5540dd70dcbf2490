/-! THE CLASS: its looks at solutions (gen_d1.py) -/
theorem SVA_z {S : Nat → Nat} (hV : VC S) : Z12 (SVA S) := cba_z S hV.2.1 _
theorem SVA_le (S : Nat → Nat) : ∀ n j, cba S n j ≤ n
  | 0, _ => Nat.le_refl _
  | n + 1, j => by
    have ih := SVA_le S n
    rw [cba_s]
    split
    · unfold ctA
      split
      · unfold upn
        split
        · have := ih (laN S (arr odC n) (S 0))
          omega
        · have := ih j
          omega
      · have := ih j
        omega
    · have := ih j
      omega
theorem SVA_lt (S : Nat → Nat) (j : Nat) : SVA S j < 20000 := Nat.lt_of_le_of_lt (SVA_le S 13824 j) (by decide)
theorem c_solutions {X : Nat × (Nat → Int32)} {S : Nat → Nat} {cl : Nat → Nat} {sn : SV} {sg : Nat → Option Nat} {sv : Nat → SV} {cd : Nat → Nat} {ln pe pr : Nat} {ba : Nat → Nat} {fo us : Nat} {fr : Bool} {sc : Nat} {hs : Bool} {m : MT} {o : Nat → Int64} (hV : VC S) (hcl : ∀ k, k < S 0 → cl k = ecl S k) (hba : Z12 ba) (hfr : fr = true → fo = SVO S ∧ us = pk (SVU S) ∧ ba = SVA S) : Call 4 mX6_solutions [.ref 0] (KP X cl (S 0) (pk (CX S)) (S 61) (S 62) sn sg sv cd ln pe pr ba fo us fr sc hs m o) (.inl (some (.int (N (SVO S))))) (KP X cl (S 0) (pk (CX S)) (S 61) (S 62) sn sg sv cd ln pe pr (SVA S) (SVO S) (pk (SVU S)) true sc hs m o) 0 := by
  refine Runs.go 4 (cs := []) (pc' := 8) (pl' := [some (.ref 0)]) (st' := [.ref 1, .ref 9]) (h' := (KP X cl (S 0) (pk (CX S)) (S 61) (S 62) sn sg sv cd ln pe pr ba fo us fr sc hs m o)) rfl trivial ?_
  refine Runs.cal (y := mX4_lookAt) (as := [.ref 9, .ref 1]) (rest := []) (pc' := 11) (cs := []) (v := none) (h1 := (KP X cl (S 0) (pk (CX S)) (S 61) (S 62) sn sg sv cd ln pe pr (SVA S) (SVO S) (pk (SVU S)) true sc hs m o)) rfl trivial (by decide) (c_lookAt hV hcl hba hfr) ?_
  show Runs _ _ 11 _ [] _ _ _ _
  refine Runs.go 3 (cs := []) (pc' := 18) (pl' := [some (.ref 0)]) (st' := [.int (N (SVO S))]) (h' := (KP X cl (S 0) (pk (CX S)) (S 61) (S 62) sn sg sv cd ln pe pr (SVA S) (SVO S) (pk (SVU S)) true sc hs m o)) rfl trivial ?_
  exact Runs.retE (cs := []) rfl trivial (retI rfl) rfl
theorem c_placeIn1a {X : Nat × (Nat → Int32)} {S : Nat → Nat} {cl : Nat → Nat} {sn : SV} {sg : Nat → Option Nat} {sv : Nat → SV} {cd : Nat → Nat} {ln pe pr : Nat} {ba : Nat → Nat} {fo us : Nat} {fr : Bool} {sc : Nat} {hs : Bool} {m : MT} {o : Nat → Int64} {v a : Int32} (hv : v < N 0) : Call 5 mX6_placeIn [.ref 0, .int v, .int a] (KP X cl (S 0) (pk (CX S)) (S 61) (S 62) sn sg sv cd ln pe pr ba fo us fr sc hs m o) (.inr "java/lang/IndexOutOfBoundsException") (KP X cl (S 0) (pk (CX S)) (S 61) (S 62) sn sg sv cd ln pe pr ba fo us fr sc hs m o) 1 := by
  refine Runs.go 2 (cs := []) (pc' := bif decide (0 ≤ v) then 15 else 4) (pl' := [some (.ref 0), some (.int v), some (.int a)]) (st' := []) (h' := (KP X cl (S 0) (pk (CX S)) (S 61) (S 62) sn sg sv cd ln pe pr ba fo us fr sc hs m o)) rfl trivial ?_
  refine Runs.brF (decide_eq_false (fun zq9 => absurd (Iff.rfl.mp zq9) (Int32.not_le.mpr hv))) ?_
  exact Runs.thr (cs := []) rfl trivial
theorem c_placeIn1b {X : Nat × (Nat → Int32)} {S : Nat → Nat} {cl : Nat → Nat} {sn : SV} {sg : Nat → Option Nat} {sv : Nat → SV} {cd : Nat → Nat} {ln pe pr : Nat} {ba : Nat → Nat} {fo us : Nat} {fr : Bool} {sc : Nat} {hs : Bool} {m : MT} {o : Nat → Int64} {v a : Int32} (hv : N 0 ≤ v) (hb : ¬ inB a (N 0) (N 11) = true) : Call 5 mX6_placeIn [.ref 0, .int v, .int a] (KP X cl (S 0) (pk (CX S)) (S 61) (S 62) sn sg sv cd ln pe pr ba fo us fr sc hs m o) (.inr "java/lang/IndexOutOfBoundsException") (KP X cl (S 0) (pk (CX S)) (S 61) (S 62) sn sg sv cd ln pe pr ba fo us fr sc hs m o) 1 := by
  refine Runs.go 2 (cs := []) (pc' := bif decide (0 ≤ v) then 15 else 4) (pl' := [some (.ref 0), some (.int v), some (.int a)]) (st' := []) (h' := (KP X cl (S 0) (pk (CX S)) (S 61) (S 62) sn sg sv cd ln pe pr ba fo us fr sc hs m o)) rfl trivial ?_
  refine Runs.brT (decide_eq_true (Iff.rfl.mpr hv)) ?_
  refine Runs.go 1 (cs := []) (pc' := 16) (pl' := [some (.ref 0), some (.int v), some (.int a)]) (st' := [.int a]) (h' := (KP X cl (S 0) (pk (CX S)) (S 61) (S 62) sn sg sv cd ln pe pr ba fo us fr sc hs m o)) rfl trivial ?_
  refine Runs.callX (y := mX6_requireItem) (as := [.int a]) (rest := []) (pc' := 19) (cs := []) rfl trivial (by decide) (c_reqItem1 hb) rfl rfl
theorem c_placeIn0 {X : Nat × (Nat → Int32)} {S : Nat → Nat} {cl : Nat → Nat} {sn : SV} {sg : Nat → Option Nat} {sv : Nat → SV} {cd : Nat → Nat} {ln pe pr : Nat} {ba : Nat → Nat} {fo us : Nat} {fr : Bool} {sc : Nat} {hs : Bool} {m : MT} {o : Nat → Int64} {r x : Nat} (hr : r < 2147483648) (hx : x ≤ 11) (hV : VC S) (hcl : ∀ k, k < S 0 → cl k = ecl S k) (hba : Z12 ba) (hfr : fr = true → fo = SVO S ∧ us = pk (SVU S) ∧ ba = SVA S) : Call 5 mX6_placeIn [.ref 0, .int (N r), .int (N x)] (KP X cl (S 0) (pk (CX S)) (S 61) (S 62) sn sg sv cd ln pe pr ba fo us fr sc hs m o) (.inl (some (.int (fxI (slG S r x))))) (KP X cl (S 0) (pk (CX S)) (S 61) (S 62) sn sg sv cd ln pe pr (SVA S) (SVO S) (pk (SVU S)) true sc hs m o) 0 := by
  refine Runs.go 2 (cs := []) (pc' := bif decide (0 ≤ (N r)) then 15 else 4) (pl' := [some (.ref 0), some (.int (N r)), some (.int (N x))]) (st' := []) (h' := (KP X cl (S 0) (pk (CX S)) (S 61) (S 62) sn sg sv cd ln pe pr ba fo us fr sc hs m o)) rfl trivial ?_
  refine Runs.brT (decide_eq_true ((N_le (a := 0) (b := r) (by omega) (by omega)).mpr (by omega))) ?_
  refine Runs.go 1 (cs := []) (pc' := 16) (pl' := [some (.ref 0), some (.int (N r)), some (.int (N x))]) (st' := [.int (N x)]) (h' := (KP X cl (S 0) (pk (CX S)) (S 61) (S 62) sn sg sv cd ln pe pr ba fo us fr sc hs m o)) rfl trivial ?_
  refine Runs.cal (y := mX6_requireItem) (as := [.int (N x)]) (rest := []) (pc' := 19) (cs := []) (v := none) (h1 := (KP X cl (S 0) (pk (CX S)) (S 61) (S 62) sn sg sv cd ln pe pr ba fo us fr sc hs m o)) rfl trivial (by decide) (c_reqItem0 (by omega)) ?_
  show Runs _ _ 19 _ [] _ _ _ _
  refine Runs.go 2 (cs := []) (pc' := 21) (pl' := [some (.ref 0), some (.int (N r)), some (.int (N x))]) (st' := [.int (N r), .ref 0]) (h' := (KP X cl (S 0) (pk (CX S)) (S 61) (S 62) sn sg sv cd ln pe pr ba fo us fr sc hs m o)) rfl trivial ?_
  refine Runs.cal (y := mX6_solutionAt) (as := [.ref 0, .int (N r)]) (rest := []) (pc' := 24) (cs := []) (v := some (.long (L (pk (slG S r))))) (h1 := (KP X cl (S 0) (pk (CX S)) (S 61) (S 62) sn sg sv cd ln pe pr (SVA S) (SVO S) (pk (SVU S)) true sc hs m o)) rfl trivial (by decide) (c_solutionAt hV hcl hba hfr (by omega)) ?_
  show Runs _ _ 24 _ [.long (L (pk (slG S r)))] _ _ _ _
  refine Runs.go 1 (cs := []) (pc' := 25) (pl' := [some (.ref 0), some (.int (N r)), some (.int (N x))]) (st' := [.int (N x), .long (L (pk (slG S r)))]) (h' := (KP X cl (S 0) (pk (CX S)) (S 61) (S 62) sn sg sv cd ln pe pr (SVA S) (SVO S) (pk (SVU S)) true sc hs m o)) rfl trivial ?_
  refine Runs.cal (y := mX1_onlyPlaceOf) (as := [.long (L (pk (slG S r))), .int (N x)]) (rest := []) (pc' := 28) (cs := []) (v := some (.int (fxI (slG S r x)))) (h1 := (KP X cl (S 0) (pk (CX S)) (S 61) (S 62) sn sg sv cd ln pe pr (SVA S) (SVO S) (pk (SVU S)) true sc hs m o)) rfl trivial (by decide) (c_onlyPlaceOf (slG_16 S r) (slG_z S r) (by omega)) ?_
  show Runs _ _ 28 _ [.int (fxI (slG S r x))] _ _ _ _
  exact Runs.retE (cs := []) rfl trivial (retI rfl) rfl
theorem c_trulyLeft1 {X : Nat × (Nat → Int32)} {S : Nat → Nat} {cl : Nat → Nat} {sn : SV} {sg : Nat → Option Nat} {sv : Nat → SV} {cd : Nat → Nat} {ln pe pr : Nat} {ba : Nat → Nat} {fo us : Nat} {fr : Bool} {sc : Nat} {hs : Bool} {m : MT} {o : Nat → Int64} {a : Int32} (hb : ¬ inB a (N 0) (N 11) = true) : Call 5 mX6_trulyLeft [.ref 0, .int a] (KP X cl (S 0) (pk (CX S)) (S 61) (S 62) sn sg sv cd ln pe pr ba fo us fr sc hs m o) (.inr "java/lang/IndexOutOfBoundsException") (KP X cl (S 0) (pk (CX S)) (S 61) (S 62) sn sg sv cd ln pe pr ba fo us fr sc hs m o) 1 := by
  refine Runs.go 1 (cs := []) (pc' := 1) (pl' := [some (.ref 0), some (.int a)]) (st' := [.int a]) (h' := (KP X cl (S 0) (pk (CX S)) (S 61) (S 62) sn sg sv cd ln pe pr ba fo us fr sc hs m o)) rfl trivial ?_
  refine Runs.callX (y := mX6_requireItem) (as := [.int a]) (rest := []) (pc' := 4) (cs := []) rfl trivial (by decide) (c_reqItem1 hb) rfl rfl
theorem c_trulyLeft0 {X : Nat × (Nat → Int32)} {S : Nat → Nat} {cl : Nat → Nat} {sn : SV} {sg : Nat → Option Nat} {sv : Nat → SV} {cd : Nat → Nat} {ln pe pr : Nat} {ba : Nat → Nat} {fo us : Nat} {fr : Bool} {sc : Nat} {hs : Bool} {m : MT} {o : Nat → Int64} {x : Nat} (hx : x ≤ 11) (hV : VC S) (hcl : ∀ k, k < S 0 → cl k = ecl S k) (hba : Z12 ba) (hfr : fr = true → fo = SVO S ∧ us = pk (SVU S) ∧ ba = SVA S) : Call 5 mX6_trulyLeft [.ref 0, .int (N x)] (KP X cl (S 0) (pk (CX S)) (S 61) (S 62) sn sg sv cd ln pe pr ba fo us fr sc hs m o) (.inl (some (.int (N (SVU S x))))) (KP X cl (S 0) (pk (CX S)) (S 61) (S 62) sn sg sv cd ln pe pr (SVA S) (SVO S) (pk (SVU S)) true sc hs m o) 0 := by
  refine Runs.go 1 (cs := []) (pc' := 1) (pl' := [some (.ref 0), some (.int (N x))]) (st' := [.int (N x)]) (h' := (KP X cl (S 0) (pk (CX S)) (S 61) (S 62) sn sg sv cd ln pe pr ba fo us fr sc hs m o)) rfl trivial ?_
  refine Runs.cal (y := mX6_requireItem) (as := [.int (N x)]) (rest := []) (pc' := 4) (cs := []) (v := none) (h1 := (KP X cl (S 0) (pk (CX S)) (S 61) (S 62) sn sg sv cd ln pe pr ba fo us fr sc hs m o)) rfl trivial (by decide) (c_reqItem0 (by omega)) ?_
  show Runs _ _ 4 _ [] _ _ _ _
  refine Runs.go 4 (cs := []) (pc' := 12) (pl' := [some (.ref 0), some (.int (N x))]) (st' := [.ref 1, .ref 9]) (h' := (KP X cl (S 0) (pk (CX S)) (S 61) (S 62) sn sg sv cd ln pe pr ba fo us fr sc hs m o)) rfl trivial ?_
  refine Runs.cal (y := mX4_lookAt) (as := [.ref 9, .ref 1]) (rest := []) (pc' := 15) (cs := []) (v := none) (h1 := (KP X cl (S 0) (pk (CX S)) (S 61) (S 62) sn sg sv cd ln pe pr (SVA S) (SVO S) (pk (SVU S)) true sc hs m o)) rfl trivial (by decide) (c_lookAt hV hcl hba hfr) ?_
  show Runs _ _ 15 _ [] _ _ _ _
  refine Runs.go 4 (cs := []) (pc' := 23) (pl' := [some (.ref 0), some (.int (N x))]) (st' := [.int (N x), .long (L (pk (SVU S)))]) (h' := (KP X cl (S 0) (pk (CX S)) (S 61) (S 62) sn sg sv cd ln pe pr (SVA S) (SVO S) (pk (SVU S)) true sc hs m o)) rfl trivial ?_
  refine Runs.cal (y := mX1_placesOf) (as := [.long (L (pk (SVU S))), .int (N x)]) (rest := []) (pc' := 26) (cs := []) (v := some (.int (N (SVU S x)))) (h1 := (KP X cl (S 0) (pk (CX S)) (S 61) (S 62) sn sg sv cd ln pe pr (SVA S) (SVO S) (pk (SVU S)) true sc hs m o)) rfl trivial (by decide) (c_placesOf (cus_16 S _) (cus_z S _) (by omega)) ?_
  show Runs _ _ 26 _ [.int (N (SVU S x))] _ _ _ _
  exact Runs.retE (cs := []) rfl trivial (retI rfl) rfl
theorem c_isSpare1 {X : Nat × (Nat → Int32)} {S : Nat → Nat} {cl : Nat → Nat} {sn : SV} {sg : Nat → Option Nat} {sv : Nat → SV} {cd : Nat → Nat} {ln pe pr : Nat} {ba : Nat → Nat} {fo us : Nat} {fr : Bool} {sc : Nat} {hs : Bool} {m : MT} {o : Nat → Int64} {v : Int32} (h12 : S 0 ≤ 12) (hb : ¬ inB v (N 0) (N (S 0) - N 1) = true) : Call 5 mX6_isSpare [.ref 0, .int v] (KP X cl (S 0) (pk (CX S)) (S 61) (S 62) sn sg sv cd ln pe pr ba fo us fr sc hs m o) (.inr "java/lang/IndexOutOfBoundsException") (KP X cl (S 0) (pk (CX S)) (S 61) (S 62) sn sg sv cd ln pe pr ba fo us fr sc hs m o) 1 := by
  refine Runs.go 2 (cs := []) (pc' := 2) (pl' := [some (.ref 0), some (.int v)]) (st' := [.int v, .ref 0]) (h' := (KP X cl (S 0) (pk (CX S)) (S 61) (S 62) sn sg sv cd ln pe pr ba fo us fr sc hs m o)) rfl trivial ?_
  refine Runs.callX (y := mX6_requireClue) (as := [.ref 0, .int v]) (rest := []) (pc' := 5) (cs := []) rfl trivial (by decide) (c_reqClue1 (by omega) hb) rfl rfl
theorem c_isSpare0 {X : Nat × (Nat → Int32)} {S : Nat → Nat} {cl : Nat → Nat} {sn : SV} {sg : Nat → Option Nat} {sv : Nat → SV} {cd : Nat → Nat} {ln pe pr : Nat} {ba : Nat → Nat} {fo us : Nat} {fr : Bool} {sc : Nat} {hs : Bool} {m : MT} {o : Nat → Int64} {k : Nat} (hk : k < S 0) (hV : VC S) (hcl : ∀ k, k < S 0 → cl k = ecl S k) (hba : Z12 ba) (hfr : fr = true → fo = SVO S ∧ us = pk (SVU S) ∧ ba = SVA S) : Call 5 mX6_isSpare [.ref 0, .int (N k)] (KP X cl (S 0) (pk (CX S)) (S 61) (S 62) sn sg sv cd ln pe pr ba fo us fr sc hs m o) (.inl (some (.int (bI (decide (SVA S k = 0)))))) (KP X cl (S 0) (pk (CX S)) (S 61) (S 62) sn sg sv cd ln pe pr (SVA S) (SVO S) (pk (SVU S)) true sc hs m o) 0 := by
  have h12 := hV.2.1
  have hlt := SVA_lt S k
  refine Runs.go 2 (cs := []) (pc' := 2) (pl' := [some (.ref 0), some (.int (N k))]) (st' := [.int (N k), .ref 0]) (h' := (KP X cl (S 0) (pk (CX S)) (S 61) (S 62) sn sg sv cd ln pe pr ba fo us fr sc hs m o)) rfl trivial ?_
  refine Runs.cal (y := mX6_requireClue) (as := [.ref 0, .int (N k)]) (rest := []) (pc' := 5) (cs := []) (v := none) (h1 := (KP X cl (S 0) (pk (CX S)) (S 61) (S 62) sn sg sv cd ln pe pr ba fo us fr sc hs m o)) rfl trivial (by decide) (c_reqClue0 (by omega) (by omega)) ?_
  show Runs _ _ 5 _ [] _ _ _ _
  refine Runs.go 4 (cs := []) (pc' := 13) (pl' := [some (.ref 0), some (.int (N k))]) (st' := [.ref 1, .ref 9]) (h' := (KP X cl (S 0) (pk (CX S)) (S 61) (S 62) sn sg sv cd ln pe pr ba fo us fr sc hs m o)) rfl trivial ?_
  refine Runs.cal (y := mX4_lookAt) (as := [.ref 9, .ref 1]) (rest := []) (pc' := 16) (cs := []) (v := none) (h1 := (KP X cl (S 0) (pk (CX S)) (S 61) (S 62) sn sg sv cd ln pe pr (SVA S) (SVO S) (pk (SVU S)) true sc hs m o)) rfl trivial (by decide) (c_lookAt hV hcl hba hfr) ?_
  show Runs _ _ 16 _ [] _ _ _ _
  refine Runs.topI 5 (cs := [vp_in (N k) 12]) (pc' := 25) (pl' := [some (.ref 0), some (.int (N k))]) (v := aN (SVA S) (N k).toNatClampNeg) (v' := N ((SVA S) k)) (st' := []) (h' := (KP X cl (S 0) (pk (CX S)) (S 61) (S 62) sn sg sv cd ln pe pr (SVA S) (SVO S) (pk (SVU S)) true sc hs m o)) rfl ⟨(N_in (by omega) (by decide)), trivial⟩ (aN_at (by omega)) ?_
  refine Runs.go 1 (cs := []) (pc' := bif decide (¬ (N ((SVA S) k)) = 0) then 32 else 28) (pl' := [some (.ref 0), some (.int (N k))]) (st' := []) (h' := (KP X cl (S 0) (pk (CX S)) (S 61) (S 62) sn sg sv cd ln pe pr (SVA S) (SVO S) (pk (SVU S)) true sc hs m o)) rfl trivial ?_
  refine Runs.br (fun z1 => ?_) (fun z1 => ?_)
  · replace z1 : ¬ ((SVA S) k = 0) := mt (N_eq (a := (SVA S) k) (b := 0) (by omega) (by omega)).mpr (of_decide_eq_true z1)
    refine Runs.go 1 (cs := []) (pc' := 33) (pl' := [some (.ref 0), some (.int (N k))]) (st' := [.int (N 0)]) (h' := (KP X cl (S 0) (pk (CX S)) (S 61) (S 62) sn sg sv cd ln pe pr (SVA S) (SVO S) (pk (SVU S)) true sc hs m o)) rfl trivial ?_
    refine Runs.retE (cs := [(N 0 : Int32) = 0 ∨ (N 0 : Int32) = 1]) rfl ⟨Or.inl rfl, trivial⟩ (retI (bIF ?_)) rfl
    simp [z1]
  · replace z1 : (SVA S) k = 0 := (N_eq (a := (SVA S) k) (b := 0) (by omega) (by omega)).mp (Classical.not_not.mp (of_decide_eq_false z1))
    refine Runs.go 2 (cs := []) (pc' := 33) (pl' := [some (.ref 0), some (.int (N k))]) (st' := [.int (N 1)]) (h' := (KP X cl (S 0) (pk (CX S)) (S 61) (S 62) sn sg sv cd ln pe pr (SVA S) (SVO S) (pk (SVU S)) true sc hs m o)) rfl trivial ?_
    refine Runs.retE (cs := [(N 1 : Int32) = 0 ∨ (N 1 : Int32) = 1]) rfl ⟨Or.inr rfl, trivial⟩ (retI (bIT ?_)) rfl
    simp [z1]
theorem c_culprit {X : Nat × (Nat → Int32)} {S : Nat → Nat} {cl : Nat → Nat} {sn : SV} {sg : Nat → Option Nat} {sv : Nat → SV} {cd : Nat → Nat} {ln pe pr : Nat} {ba : Nat → Nat} {fo us : Nat} {fr : Bool} {sc : Nat} {hs : Bool} {m : MT} {o : Nat → Int64} (hV : VC S) (hcl : ∀ k, k < S 0 → cl k = ecl S k) (hba : Z12 ba) (hfr : fr = true → fo = SVO S ∧ us = pk (SVU S) ∧ ba = SVA S) : Call 5 mX6_culprit [.ref 0] (KP X cl (S 0) (pk (CX S)) (S 61) (S 62) sn sg sv cd ln pe pr ba fo us fr sc hs m o) (.inl (some (.int (optI (blO (SVO S) S (SVA S)))))) (KP X cl (S 0) (pk (CX S)) (S 61) (S 62) sn sg sv cd ln pe pr (SVA S) (SVO S) (pk (SVU S)) true sc hs m o) 0 := by
  have h12 := hV.2.1
  have hso := SVO_le S
  refine Runs.go 4 (cs := []) (pc' := 8) (pl' := [some (.ref 0), none]) (st' := [.ref 1, .ref 9]) (h' := (KP X cl (S 0) (pk (CX S)) (S 61) (S 62) sn sg sv cd ln pe pr ba fo us fr sc hs m o)) rfl trivial ?_
  refine Runs.cal (y := mX4_lookAt) (as := [.ref 9, .ref 1]) (rest := []) (pc' := 11) (cs := []) (v := none) (h1 := (KP X cl (S 0) (pk (CX S)) (S 61) (S 62) sn sg sv cd ln pe pr (SVA S) (SVO S) (pk (SVU S)) true sc hs m o)) rfl trivial (by decide) (c_lookAt hV hcl hba hfr) ?_
  show Runs _ _ 11 _ [] _ _ _ _
  refine Runs.go 4 (cs := []) (pc' := bif decide ((N (SVO S)) ≤ 0) then 23 else 21) (pl' := [some (.ref 0), none]) (st' := []) (h' := (KP X cl (S 0) (pk (CX S)) (S 61) (S 62) sn sg sv cd ln pe pr (SVA S) (SVO S) (pk (SVU S)) true sc hs m o)) rfl trivial ?_
  refine Runs.br (fun z1 => ?_) (fun z1 => ?_)
  · replace z1 : SVO S ≤ 0 := (N_le (a := SVO S) (b := 0) (by omega) (by omega)).mp (of_decide_eq_true z1)
    refine Runs.go 2 (cs := []) (pc' := 25) (pl' := [some (.ref 0), some (.int (N 0))]) (st' := []) (h' := (KP X cl (S 0) (pk (CX S)) (S 61) (S 62) sn sg sv cd ln pe pr (SVA S) (SVO S) (pk (SVU S)) true sc hs m o)) rfl trivial ?_
    refine Runs.wk (pl' := [some (.ref 0), some (.int (N 0))]) (st' := []) (h' := (KP X cl (S 0) (pk (CX S)) (S 61) (S 62) sn sg sv cd ln pe pr (SVA S) (SVO S) (pk (SVU S)) true sc hs m o)) ⟨Or.inr rfl, Or.inr rfl, trivial⟩ rfl rfl ?_
    refine Runs.loopN (fun t => [some (.ref 0), some (.int (N t))]) (fun t => (KP X cl (S 0) (pk (CX S)) (S 61) (S 62) sn sg sv cd ln pe pr (SVA S) (SVO S) (pk (SVU S)) true sc hs m o)) (fun t => fs (fun k => decide (0 < SVA S k)) 0 (S 0) = fs (fun k => decide (0 < SVA S k)) t (S 0 - t)) (S 0) (by rw [Nat.sub_zero]) (fun t ht I1 K1 => ?_) (fun I1 => ?_)
    · show Runs _ _ 25 [some (.ref 0), some (.int (N t))] [] (KP X cl (S 0) (pk (CX S)) (S 61) (S 62) sn sg sv cd ln pe pr (SVA S) (SVO S) (pk (SVU S)) true sc hs m o) _ _ _
      have hlt := SVA_lt S t
      refine Runs.go 5 (cs := []) (pc' := bif decide ((N (S 0)) ≤ (N t)) then 56 else 36) (pl' := [some (.ref 0), some (.int (N t))]) (st' := []) (h' := (KP X cl (S 0) (pk (CX S)) (S 61) (S 62) sn sg sv cd ln pe pr (SVA S) (SVO S) (pk (SVU S)) true sc hs m o)) rfl trivial ?_
      refine Runs.brF (decide_eq_false (fun zq9 => absurd ((N_le (a := S 0) (b := t) (by omega) (by omega)).mp zq9) (by omega))) ?_
      refine Runs.topI 5 (cs := [vp_in (N t) 12]) (pc' := 45) (pl' := [some (.ref 0), some (.int (N t))]) (v := aN (SVA S) (N t).toNatClampNeg) (v' := N ((SVA S) t)) (st' := []) (h' := (KP X cl (S 0) (pk (CX S)) (S 61) (S 62) sn sg sv cd ln pe pr (SVA S) (SVO S) (pk (SVU S)) true sc hs m o)) rfl ⟨(N_in (by omega) (by decide)), trivial⟩ (aN_at (by omega)) ?_
      refine Runs.go 1 (cs := []) (pc' := bif decide ((N ((SVA S) t)) ≤ 0) then 50 else 48) (pl' := [some (.ref 0), some (.int (N t))]) (st' := []) (h' := (KP X cl (S 0) (pk (CX S)) (S 61) (S 62) sn sg sv cd ln pe pr (SVA S) (SVO S) (pk (SVU S)) true sc hs m o)) rfl trivial ?_
      refine Runs.br (fun z2 => ?_) (fun z2 => ?_)
      · replace z2 : (SVA S) t ≤ 0 := (N_le (a := (SVA S) t) (b := 0) (by omega) (by omega)).mp (of_decide_eq_true z2)
        refine Runs.goL 1 (cs := []) (pc' := 53) (pl1 := [some (.ref 0), some (.int (N t + N 1))]) (pl' := [some (.ref 0), some (.int (N (t + 1)))]) (st' := []) (h' := (KP X cl (S 0) (pk (CX S)) (S 61) (S 62) sn sg sv cd ln pe pr (SVA S) (SVO S) (pk (SVU S)) true sc hs m o)) rfl trivial (congrArg (fun zq9 => ([some (.ref 0), some (.int zq9)] : PL)) (NA (by omega))) ?_
        refine Runs.go 1 (cs := []) (pc' := 25) (pl' := [some (.ref 0), some (.int (N (t + 1)))]) (st' := []) (h' := (KP X cl (S 0) (pk (CX S)) (S 61) (S 62) sn sg sv cd ln pe pr (SVA S) (SVO S) (pk (SVU S)) true sc hs m o)) rfl trivial ?_
        exact Runs.wk (pl' := [some (.ref 0), some (.int (N (t + 1)))]) (st' := []) (h' := (KP X cl (S 0) (pk (CX S)) (S 61) (S 62) sn sg sv cd ln pe pr (SVA S) (SVO S) (pk (SVU S)) true sc hs m o)) ⟨Or.inr rfl, Or.inr rfl, trivial⟩ rfl rfl (K1 (I1.trans ((fs_step ht).trans (if_neg (by rw [decide_eq_false (show ¬ 0 < SVA S t by omega)]; decide)))))
      · replace z2 : ¬ ((SVA S) t ≤ 0) := mt (N_le (a := (SVA S) t) (b := 0) (by omega) (by omega)).mpr (of_decide_eq_false z2)
        refine Runs.go 1 (cs := []) (pc' := 49) (pl' := [some (.ref 0), some (.int (N t))]) (st' := [.int (N t)]) (h' := (KP X cl (S 0) (pk (CX S)) (S 61) (S 62) sn sg sv cd ln pe pr (SVA S) (SVO S) (pk (SVU S)) true sc hs m o)) rfl trivial ?_
        refine Runs.retE (cs := []) rfl trivial (retI ?_) rfl
        rw [blO, if_pos (show SVO S = 0 by omega), I1.trans ((fs_step ht).trans (if_pos (decide_eq_true (show 0 < SVA S t by omega))))]; rfl
    · show Runs _ _ 25 _ [] _ _ _ _
      show Runs _ _ 25 [some (.ref 0), some (.int (N (S 0)))] [] (KP X cl (S 0) (pk (CX S)) (S 61) (S 62) sn sg sv cd ln pe pr (SVA S) (SVO S) (pk (SVU S)) true sc hs m o) _ _ _
      refine Runs.go 5 (cs := []) (pc' := bif decide ((N (S 0)) ≤ (N (S 0))) then 56 else 36) (pl' := [some (.ref 0), some (.int (N (S 0)))]) (st' := []) (h' := (KP X cl (S 0) (pk (CX S)) (S 61) (S 62) sn sg sv cd ln pe pr (SVA S) (SVO S) (pk (SVU S)) true sc hs m o)) rfl trivial ?_
      refine Runs.brT (decide_eq_true ((N_le (a := S 0) (b := S 0) (by omega) (by omega)).mpr (by omega))) ?_
      refine Runs.go 1 (cs := []) (pc' := 57) (pl' := [some (.ref 0), some (.int (N (S 0)))]) (st' := [.int (-1 : Int32)]) (h' := (KP X cl (S 0) (pk (CX S)) (S 61) (S 62) sn sg sv cd ln pe pr (SVA S) (SVO S) (pk (SVU S)) true sc hs m o)) rfl trivial ?_
      refine Runs.retE (cs := []) rfl trivial (retI ?_) rfl
      rw [blO, if_pos (show SVO S = 0 by omega), I1.trans fs_end]; rfl
  · replace z1 : ¬ (SVO S ≤ 0) := mt (N_le (a := SVO S) (b := 0) (by omega) (by omega)).mpr (of_decide_eq_false z1)
    refine Runs.go 1 (cs := []) (pc' := 22) (pl' := [some (.ref 0), none]) (st' := [.int (-1 : Int32)]) (h' := (KP X cl (S 0) (pk (CX S)) (S 61) (S 62) sn sg sv cd ln pe pr (SVA S) (SVO S) (pk (SVU S)) true sc hs m o)) rfl trivial ?_
    refine Runs.retE (cs := []) rfl trivial (retI ?_) rfl
    rw [blO, if_neg (show ¬ SVO S = 0 by omega)]; rfl
/-- arrangements in which a clue does not hold -/
def bdN (S : Nat → Nat) (k : Nat) : Nat → Nat := itN (fun n x => if heldB S (arr odC n) k then x else x + 1) 0
theorem bdN_s (S : Nat → Nat) (k n : Nat) : bdN S k (n + 1) = if heldB S (arr odC n) k then bdN S k n else bdN S k n + 1 := rfl
theorem bdN_le (S : Nat → Nat) (k n : Nat) : bdN S k n ≤ n := by
  induction n with
  | zero => exact Nat.le_refl _
  | succ n ih =>
    rw [bdN_s]
    split <;> omega
theorem brF_bd {S : Nat → Nat} {k : Nat} (hk : k < S 0) : ∀ n, brF S odC n k = bdN S k n
  | 0 => rfl
  | n + 1 => by
    rw [bdN_s, ← brF_bd hk n]
    show fil (S 0) (brS S (arr odC n) (brF S odC n)) (brF S odC n) k = _
    rw [fil_lt hk]
    rfl
theorem c_barredBy1 {X : Nat × (Nat → Int32)} {S : Nat → Nat} {cl : Nat → Nat} {sn : SV} {sg : Nat → Option Nat} {sv : Nat → SV} {cd : Nat → Nat} {ln pe pr : Nat} {ba : Nat → Nat} {fo us : Nat} {fr : Bool} {sc : Nat} {hs : Bool} {m : MT} {o : Nat → Int64} {v : Int32} (h12 : S 0 ≤ 12) (hb : ¬ inB v (N 0) (N (S 0) - N 1) = true) : Call 5 mX6_barredBy [.ref 0, .int v] (KP X cl (S 0) (pk (CX S)) (S 61) (S 62) sn sg sv cd ln pe pr ba fo us fr sc hs m o) (.inr "java/lang/IndexOutOfBoundsException") (KP X cl (S 0) (pk (CX S)) (S 61) (S 62) sn sg sv cd ln pe pr ba fo us fr sc hs m o) 1 := by
  refine Runs.go 2 (cs := []) (pc' := 2) (pl' := [some (.ref 0), some (.int v), none, none]) (st' := [.int v, .ref 0]) (h' := (KP X cl (S 0) (pk (CX S)) (S 61) (S 62) sn sg sv cd ln pe pr ba fo us fr sc hs m o)) rfl trivial ?_
  refine Runs.callX (y := mX6_requireClue) (as := [.ref 0, .int v]) (rest := []) (pc' := 5) (cs := []) rfl trivial (by decide) (c_reqClue1 (by omega) hb) rfl rfl
theorem c_barredBy0 {X : Nat × (Nat → Int32)} {S : Nat → Nat} {cl : Nat → Nat} {sn : SV} {sg : Nat → Option Nat} {sv : Nat → SV} {cd : Nat → Nat} {ln pe pr : Nat} {ba : Nat → Nat} {fo us : Nat} {fr : Bool} {sc : Nat} {hs : Bool} {m : MT} {o : Nat → Int64} {k : Nat} (hk : k < S 0) (hV : VC S) (hcl : ∀ k, k < S 0 → cl k = ecl S k) : Call 5 mX6_barredBy [.ref 0, .int (N k)] (KP X cl (S 0) (pk (CX S)) (S 61) (S 62) sn sg sv cd ln pe pr ba fo us fr sc hs m o) (.inl (some (.int (N (bdN S k 13824))))) (KP X cl (S 0) (pk (CX S)) (S 61) (S 62) sn sg sv cd ln pe pr ba fo us fr sc hs m o) 0 := by
  have h12 := hV.2.1
  refine Runs.go 2 (cs := []) (pc' := 2) (pl' := [some (.ref 0), some (.int (N k)), none, none]) (st' := [.int (N k), .ref 0]) (h' := (KP X cl (S 0) (pk (CX S)) (S 61) (S 62) sn sg sv cd ln pe pr ba fo us fr sc hs m o)) rfl trivial ?_
  refine Runs.cal (y := mX6_requireClue) (as := [.ref 0, .int (N k)]) (rest := []) (pc' := 5) (cs := []) (v := none) (h1 := (KP X cl (S 0) (pk (CX S)) (S 61) (S 62) sn sg sv cd ln pe pr ba fo us fr sc hs m o)) rfl trivial (by decide) (c_reqClue0 (by omega) (by omega)) ?_
  show Runs _ _ 5 _ [] _ _ _ _
  refine Runs.go 4 (cs := []) (pc' := 9) (pl' := [some (.ref 0), some (.int (N k)), some (.int (N 0)), some (.int (N 0))]) (st' := []) (h' := (KP X cl (S 0) (pk (CX S)) (S 61) (S 62) sn sg sv cd ln pe pr ba fo us fr sc hs m o)) rfl trivial ?_
  refine Runs.wk (pl' := [some (.ref 0), some (.int (N k)), some (.int (N (bdN S k 0))), some (.int (N 0))]) (st' := []) (h' := (KP X cl (S 0) (pk (CX S)) (S 61) (S 62) sn sg sv cd ln pe pr ba fo us fr sc hs m o)) ⟨Or.inr rfl, Or.inr rfl, Or.inr rfl, Or.inr rfl, trivial⟩ rfl rfl ?_
  refine Runs.loopN (fun n => [some (.ref 0), some (.int (N k)), some (.int (N (bdN S k n))), some (.int (N n))]) (fun n => (KP X cl (S 0) (pk (CX S)) (S 61) (S 62) sn sg sv cd ln pe pr ba fo us fr sc hs m o)) (fun n => True) 13824 trivial (fun n hn I1 K1 => ?_) (fun I1 => ?_)
  · show Runs _ _ 9 [some (.ref 0), some (.int (N k)), some (.int (N (bdN S k n))), some (.int (N n))] [] (KP X cl (S 0) (pk (CX S)) (S 61) (S 62) sn sg sv cd ln pe pr ba fo us fr sc hs m o) _ _ _
    have hbd := bdN_le S k n
    refine Runs.go 3 (cs := []) (pc' := bif decide ((N 13824) ≤ (N n)) then 44 else 16) (pl' := [some (.ref 0), some (.int (N k)), some (.int (N (bdN S k n))), some (.int (N n))]) (st' := []) (h' := (KP X cl (S 0) (pk (CX S)) (S 61) (S 62) sn sg sv cd ln pe pr ba fo us fr sc hs m o)) rfl trivial ?_
    refine Runs.brF (decide_eq_false (fun zq9 => absurd ((N_le (a := 13824) (b := n) (by omega) (by omega)).mp zq9) (by omega))) ?_
    refine Runs.topI 5 (cs := [vp_in (N k) 12]) (pc' := 25) (pl' := [some (.ref 0), some (.int (N k)), some (.int (N (bdN S k n))), some (.int (N n))]) (v := aN cl (N k).toNatClampNeg) (v' := N (ecl S k)) (st' := []) (h' := (KP X cl (S 0) (pk (CX S)) (S 61) (S 62) sn sg sv cd ln pe pr ba fo us fr sc hs m o)) rfl ⟨(N_in (by omega) (by decide)), trivial⟩ ((aN_at (by omega)).trans (congrArg N (hcl k (by omega)))) ?_
    refine Runs.go 1 (cs := []) (pc' := 26) (pl' := [some (.ref 0), some (.int (N k)), some (.int (N (bdN S k n))), some (.int (N n))]) (st' := [.int (N n), .int (N (ecl S k))]) (h' := (KP X cl (S 0) (pk (CX S)) (S 61) (S 62) sn sg sv cd ln pe pr ba fo us fr sc hs m o)) rfl trivial ?_
    refine Runs.cal (y := mX4_arrangement) (as := [.int (N n)]) (rest := [.int (N (ecl S k))]) (pc' := 29) (cs := []) (v := some (.long (L (pk (arM (arr odC n)))))) (h1 := (KP X cl (S 0) (pk (CX S)) (S 61) (S 62) sn sg sv cd ln pe pr ba fo us fr sc hs m o)) rfl trivial (by decide) (c_arrangement (by omega)) ?_
    show Runs _ _ 29 _ [.long (L (pk (arM (arr odC n)))), .int (N (ecl S k))] _ _ _ _
    refine Runs.cal (y := mX0_holds) (as := [.int (N (ecl S k)), .long (L (pk (arM (arr odC n))))]) (rest := []) (pc' := 32) (cs := []) (v := some (.int (bI (heldB S (arr odC n) k)))) (h1 := (KP X cl (S 0) (pk (CX S)) (S 61) (S 62) sn sg sv cd ln pe pr ba fo us fr sc hs m o)) rfl trivial (by decide) (c_holds hV (by omega) (arr_4 odC_4 n)) ?_
    show Runs _ _ 32 _ [.int (bI (heldB S (arr odC n) k))] _ _ _ _
    refine Runs.go 1 (cs := []) (pc' := bif decide (¬ (bI (heldB S (arr odC n) k)) = 0) then 38 else 35) (pl' := [some (.ref 0), some (.int (N k)), some (.int (N (bdN S k n))), some (.int (N n))]) (st' := []) (h' := (KP X cl (S 0) (pk (CX S)) (S 61) (S 62) sn sg sv cd ln pe pr ba fo us fr sc hs m o)) rfl trivial ?_
    refine Runs.br (fun z1 => ?_) (fun z1 => ?_)
    · replace z1 : ¬ ((heldB S (arr odC n) k) = false) := mt (bI_0 _).mpr (of_decide_eq_true z1)
      refine Runs.goL 1 (cs := []) (pc' := 41) (pl1 := [some (.ref 0), some (.int (N k)), some (.int (N (bdN S k n))), some (.int (N n + N 1))]) (pl' := [some (.ref 0), some (.int (N k)), some (.int (N (bdN S k n))), some (.int (N (n + 1)))]) (st' := []) (h' := (KP X cl (S 0) (pk (CX S)) (S 61) (S 62) sn sg sv cd ln pe pr ba fo us fr sc hs m o)) rfl trivial (congrArg (fun zq9 => ([some (.ref 0), some (.int (N k)), some (.int (N (bdN S k n))), some (.int zq9)] : PL)) (NA (by omega))) ?_
      refine Runs.go 1 (cs := []) (pc' := 9) (pl' := [some (.ref 0), some (.int (N k)), some (.int (N (bdN S k n))), some (.int (N (n + 1)))]) (st' := []) (h' := (KP X cl (S 0) (pk (CX S)) (S 61) (S 62) sn sg sv cd ln pe pr ba fo us fr sc hs m o)) rfl trivial ?_
      exact Runs.wk (pl' := [some (.ref 0), some (.int (N k)), some (.int (N (bdN S k (n + 1)))), some (.int (N (n + 1)))]) (st' := []) (h' := (KP X cl (S 0) (pk (CX S)) (S 61) (S 62) sn sg sv cd ln pe pr ba fo us fr sc hs m o)) ⟨Or.inr rfl, Or.inr rfl, Or.inr (congrArg (fun zq9 => some (Value.int zq9)) (congrArg N ((bdN_s S k n).trans (if_pos (bT z1))))), Or.inr rfl, trivial⟩ rfl rfl (K1 trivial)
    · replace z1 : (heldB S (arr odC n) k) = false := (bI_0 _).mp (Classical.not_not.mp (of_decide_eq_false z1))
      refine Runs.goL 1 (cs := []) (pc' := 38) (pl1 := [some (.ref 0), some (.int (N k)), some (.int (N (bdN S k n) + N 1)), some (.int (N n))]) (pl' := [some (.ref 0), some (.int (N k)), some (.int (N (bdN S k n + 1))), some (.int (N n))]) (st' := []) (h' := (KP X cl (S 0) (pk (CX S)) (S 61) (S 62) sn sg sv cd ln pe pr ba fo us fr sc hs m o)) rfl trivial (congrArg (fun zq9 => ([some (.ref 0), some (.int (N k)), some (.int zq9), some (.int (N n))] : PL)) (NA (by omega))) ?_
      refine Runs.goL 1 (cs := []) (pc' := 41) (pl1 := [some (.ref 0), some (.int (N k)), some (.int (N (bdN S k n + 1))), some (.int (N n + N 1))]) (pl' := [some (.ref 0), some (.int (N k)), some (.int (N (bdN S k n + 1))), some (.int (N (n + 1)))]) (st' := []) (h' := (KP X cl (S 0) (pk (CX S)) (S 61) (S 62) sn sg sv cd ln pe pr ba fo us fr sc hs m o)) rfl trivial (congrArg (fun zq9 => ([some (.ref 0), some (.int (N k)), some (.int (N (bdN S k n + 1))), some (.int zq9)] : PL)) (NA (by omega))) ?_
      refine Runs.go 1 (cs := []) (pc' := 9) (pl' := [some (.ref 0), some (.int (N k)), some (.int (N (bdN S k n + 1))), some (.int (N (n + 1)))]) (st' := []) (h' := (KP X cl (S 0) (pk (CX S)) (S 61) (S 62) sn sg sv cd ln pe pr ba fo us fr sc hs m o)) rfl trivial ?_
      exact Runs.wk (pl' := [some (.ref 0), some (.int (N k)), some (.int (N (bdN S k (n + 1)))), some (.int (N (n + 1)))]) (st' := []) (h' := (KP X cl (S 0) (pk (CX S)) (S 61) (S 62) sn sg sv cd ln pe pr ba fo us fr sc hs m o)) ⟨Or.inr rfl, Or.inr rfl, Or.inr (congrArg (fun zq9 => some (Value.int zq9)) (congrArg N ((bdN_s S k n).trans (if_neg (by rw [z1]; decide))))), Or.inr rfl, trivial⟩ rfl rfl (K1 trivial)
  · show Runs _ _ 9 _ [] _ _ _ _
    show Runs _ _ 9 [some (.ref 0), some (.int (N k)), some (.int (N (bdN S k 13824))), some (.int (N 13824))] [] (KP X cl (S 0) (pk (CX S)) (S 61) (S 62) sn sg sv cd ln pe pr ba fo us fr sc hs m o) _ _ _
    refine Runs.go 3 (cs := []) (pc' := bif decide ((N 13824) ≤ (N 13824)) then 44 else 16) (pl' := [some (.ref 0), some (.int (N k)), some (.int (N (bdN S k 13824))), some (.int (N 13824))]) (st' := []) (h' := (KP X cl (S 0) (pk (CX S)) (S 61) (S 62) sn sg sv cd ln pe pr ba fo us fr sc hs m o)) rfl trivial ?_
    refine Runs.brT (decide_eq_true (by decide)) ?_
    refine Runs.go 1 (cs := []) (pc' := 45) (pl' := [some (.ref 0), some (.int (N k)), some (.int (N (bdN S k 13824))), some (.int (N 13824))]) (st' := [.int (N (bdN S k 13824))]) (h' := (KP X cl (S 0) (pk (CX S)) (S 61) (S 62) sn sg sv cd ln pe pr ba fo us fr sc hs m o)) rfl trivial ?_
    exact Runs.retE (cs := []) rfl trivial (retI rfl) rfl
theorem c_isPlain {X : Nat × (Nat → Int32)} {S : Nat → Nat} {cl : Nat → Nat} {sn : SV} {sg : Nat → Option Nat} {sv : Nat → SV} {cd : Nat → Nat} {ln pe pr : Nat} {ba : Nat → Nat} {fo us : Nat} {fr : Bool} {sc : Nat} {hs : Bool} {m : MT} {o : Nat → Int64} (hV : VC S) (hcl : ∀ k, k < S 0 → cl k = ecl S k) (hba : Z12 ba) (hfr : fr = true → fo = SVO S ∧ us = pk (SVU S) ∧ ba = SVA S) : Call 6 mX6_isPlain [.ref 0] (KP X cl (S 0) (pk (CX S)) (S 61) (S 62) sn sg sv cd ln pe pr ba fo us fr sc hs m o) (.inl (some (.int (bI (decide (pk (LE S) = pk (SVU S))))))) (KP X cl (S 0) (pk (CX S)) (S 61) (S 62) sn sg sv cd ln (pk (PRP S)) (TRP S) (SVA S) (SVO S) (pk (SVU S)) true sc hs m o) 0 := by
  have h1 := zk_lt (LE_16 S)
  have h2 := zk_lt (cus_16 S 13824)
  have h2 : pk (SVU S) < 281474976710656 := h2
  refine Runs.go 4 (cs := []) (pc' := 8) (pl' := [some (.ref 0)]) (st' := [.ref 1, .ref 9]) (h' := (KP X cl (S 0) (pk (CX S)) (S 61) (S 62) sn sg sv cd ln pe pr ba fo us fr sc hs m o)) rfl trivial ?_
  refine Runs.cal (y := mX4_lookAt) (as := [.ref 9, .ref 1]) (rest := []) (pc' := 11) (cs := []) (v := none) (h1 := (KP X cl (S 0) (pk (CX S)) (S 61) (S 62) sn sg sv cd ln pe pr (SVA S) (SVO S) (pk (SVU S)) true sc hs m o)) rfl trivial (by decide) (c_lookAt hV hcl hba hfr) ?_
  show Runs _ _ 11 _ [] _ _ _ _
  refine Runs.go 1 (cs := []) (pc' := 12) (pl' := [some (.ref 0)]) (st' := [.ref 0]) (h' := (KP X cl (S 0) (pk (CX S)) (S 61) (S 62) sn sg sv cd ln pe pr (SVA S) (SVO S) (pk (SVU S)) true sc hs m o)) rfl trivial ?_
  refine Runs.cal (y := mX6_leftAtEnd) (as := [.ref 0]) (rest := []) (pc' := 15) (cs := []) (v := some (.long (L (pk (LE S))))) (h1 := (KP X cl (S 0) (pk (CX S)) (S 61) (S 62) sn sg sv cd ln (pk (PRP S)) (TRP S) (SVA S) (SVO S) (pk (SVU S)) true sc hs m o)) rfl trivial (by decide) (c_leftAtEnd hV hcl) ?_
  show Runs _ _ 15 _ [.long (L (pk (LE S)))] _ _ _ _
  refine Runs.go 5 (cs := []) (pc' := bif decide (¬ (lg_cmp (L (pk (LE S))) (L (pk (SVU S)))) = 0) then 30 else 26) (pl' := [some (.ref 0)]) (st' := []) (h' := (KP X cl (S 0) (pk (CX S)) (S 61) (S 62) sn sg sv cd ln (pk (PRP S)) (TRP S) (SVA S) (SVO S) (pk (SVU S)) true sc hs m o)) rfl trivial ?_
  refine Runs.br (fun z1 => ?_) (fun z1 => ?_)
  · replace z1 : ¬ (pk (LE S) = pk (SVU S)) := mt (L_cmp0 (by omega) (by omega)).mpr (of_decide_eq_true z1)
    refine Runs.go 1 (cs := []) (pc' := 31) (pl' := [some (.ref 0)]) (st' := [.int (N 0)]) (h' := (KP X cl (S 0) (pk (CX S)) (S 61) (S 62) sn sg sv cd ln (pk (PRP S)) (TRP S) (SVA S) (SVO S) (pk (SVU S)) true sc hs m o)) rfl trivial ?_
    refine Runs.retE (cs := [(N 0 : Int32) = 0 ∨ (N 0 : Int32) = 1]) rfl ⟨Or.inl rfl, trivial⟩ (retI (bIF ?_)) rfl
    simp [z1]
  · replace z1 : pk (LE S) = pk (SVU S) := (L_cmp0 (by omega) (by omega)).mp (Classical.not_not.mp (of_decide_eq_false z1))
    refine Runs.go 2 (cs := []) (pc' := 31) (pl' := [some (.ref 0)]) (st' := [.int (N 1)]) (h' := (KP X cl (S 0) (pk (CX S)) (S 61) (S 62) sn sg sv cd ln (pk (PRP S)) (TRP S) (SVA S) (SVO S) (pk (SVU S)) true sc hs m o)) rfl trivial ?_
    refine Runs.retE (cs := [(N 1 : Int32) = 0 ∨ (N 1 : Int32) = 1]) rfl ⟨Or.inr rfl, trivial⟩ (retI (bIT ?_)) rfl
    simp [z1]
theorem onesF_le (G : Nat → Nat) : onesF G ≤ 12 := by
  have h : ∀ k, pc4 (decide (pc4 (G k) = 1)).toNat ≤ 1 := fun k => by cases decide (pc4 (G k) = 1) <;> decide
  have h0 := h 0
  have h1 := h 1
  have h2 := h 2
  have h3 := h 3
  have h4 := h 4
  have h5 := h 5
  have h6 := h 6
  have h7 := h 7
  have h8 := h 8
  have h9 := h 9
  have h10 := h 10
  have h11 := h 11
  unfold onesF cntF
  dsimp only
  omega
theorem cntF_le (G : Nat → Nat) : cntF G ≤ 48 := by
  have h := fun k => pc4_le (G k)
  have h0 := h 0
  have h1 := h 1
  have h2 := h 2
  have h3 := h 3
  have h4 := h 4
  have h5 := h 5
  have h6 := h 6
  have h7 := h 7
  have h8 := h 8
  have h9 := h 9
  have h10 := h 10
  have h11 := h 11
  unfold cntF
  omega
def shrD (k : Nat) : UInt64 := FP.ddiv (FP.i2d (N k)) 4622945017495814144
def menF (k : Nat) : UInt32 := FP.fdiv (FP.i2f (N k)) 1094713344
theorem shrD_n : ∀ k, k < 13 → vf_n64 (shrD k) := by
  unfold vf_n64
  decide +kernel
theorem menF_n : ∀ k, k < 49 → vf_n32 (menF k) := by
  unfold vf_n32
  decide +kernel
theorem c_shareOf {G : Nat → Nat} {h : PH} (hG : M16 G) : Call 3 mX6_shareOf [.long (L (pk G))] h (.inl (some (.double (shrD (onesF G))))) h 0 := by
  refine Runs.go 1 (cs := []) (pc' := 1) (pl' := [some (.long (L (pk G))), none]) (st' := [.long (L (pk G))]) (h' := h) rfl trivial ?_
  refine Runs.cal (y := mX1_countWithOne) (as := [.long (L (pk G))]) (rest := []) (pc' := 4) (cs := []) (v := some (.int (N (onesF G)))) (h1 := h) rfl trivial (by decide) (c_countWithOne hG) ?_
  show Runs _ _ 4 _ [.int (N (onesF G))] _ _ _ _
  refine Runs.go 3 (cs := [vf_n64 (FP.ddiv (FP.i2d (N (onesF G))) 4622945017495814144)]) (pc' := 9) (pl' := [some (.long (L (pk G))), none]) (st' := [.double (FP.ddiv (FP.i2d (N (onesF G))) 4622945017495814144)]) (h' := h) rfl ⟨(shrD_n _ (Nat.lt_succ_of_le (onesF_le G))), trivial⟩ ?_
  exact Runs.retE (cs := []) rfl trivial rfl rfl
theorem c_meanOf {G : Nat → Nat} {h : PH} (hG : M16 G) : Call 3 mX6_meanOf [.long (L (pk G))] h (.inl (some (.float (menF (cntF G))))) h 0 := by
  refine Runs.go 1 (cs := []) (pc' := 1) (pl' := [some (.long (L (pk G))), none]) (st' := [.long (L (pk G))]) (h' := h) rfl trivial ?_
  refine Runs.cal (y := mJ13_bitCount_95d88) (as := [.long (L (pk G))]) (rest := []) (pc' := 4) (cs := []) (v := some (.int (N (cntF G)))) (h1 := h) rfl trivial (by decide) (c_lbc hG) ?_
  show Runs _ _ 4 _ [.int (N (cntF G))] _ _ _ _
  refine Runs.go 3 (cs := [vf_n32 (FP.fdiv (FP.i2f (N (cntF G))) 1094713344)]) (pc' := 9) (pl' := [some (.long (L (pk G))), none]) (st' := [.float (FP.fdiv (FP.i2f (N (cntF G))) 1094713344)]) (h' := h) rfl ⟨(menF_n _ (Nat.lt_succ_of_le (cntF_le G))), trivial⟩ ?_
  exact Runs.retE (cs := []) rfl trivial rfl rfl
theorem c_fixedShare {X : Nat × (Nat → Int32)} {S : Nat → Nat} {cl : Nat → Nat} {sn : SV} {sg : Nat → Option Nat} {sv : Nat → SV} {cd : Nat → Nat} {ln pe pr : Nat} {ba : Nat → Nat} {fo us : Nat} {fr : Bool} {sc : Nat} {hs : Bool} {m : MT} {o : Nat → Int64} (hV : VC S) (hcl : ∀ k, k < S 0 → cl k = ecl S k) : Call 6 mX6_fixedShare [.ref 0] (KP X cl (S 0) (pk (CX S)) (S 61) (S 62) sn sg sv cd ln pe pr ba fo us fr sc hs m o) (.inl (some (.double (shrD (onesF (LE S)))))) (KP X cl (S 0) (pk (CX S)) (S 61) (S 62) sn sg sv cd ln (pk (PRP S)) (TRP S) ba fo us fr sc hs m o) 0 := by
  refine Runs.go 1 (cs := []) (pc' := 1) (pl' := [some (.ref 0)]) (st' := [.ref 0]) (h' := (KP X cl (S 0) (pk (CX S)) (S 61) (S 62) sn sg sv cd ln pe pr ba fo us fr sc hs m o)) rfl trivial ?_
  refine Runs.cal (y := mX6_leftAtEnd) (as := [.ref 0]) (rest := []) (pc' := 4) (cs := []) (v := some (.long (L (pk (LE S))))) (h1 := (KP X cl (S 0) (pk (CX S)) (S 61) (S 62) sn sg sv cd ln (pk (PRP S)) (TRP S) ba fo us fr sc hs m o)) rfl trivial (by decide) (c_leftAtEnd hV hcl) ?_
  show Runs _ _ 4 _ [.long (L (pk (LE S)))] _ _ _ _
  refine Runs.cal (y := mX6_shareOf) (as := [.long (L (pk (LE S)))]) (rest := []) (pc' := 7) (cs := []) (v := some (.double (shrD (onesF (LE S))))) (h1 := (KP X cl (S 0) (pk (CX S)) (S 61) (S 62) sn sg sv cd ln (pk (PRP S)) (TRP S) ba fo us fr sc hs m o)) rfl trivial (by decide) (c_shareOf (LE_16 S)) ?_
  show Runs _ _ 7 _ [.double (shrD (onesF (LE S)))] _ _ _ _
  exact Runs.retE (cs := []) rfl trivial rfl rfl
theorem c_meanLeft {X : Nat × (Nat → Int32)} {S : Nat → Nat} {cl : Nat → Nat} {sn : SV} {sg : Nat → Option Nat} {sv : Nat → SV} {cd : Nat → Nat} {ln pe pr : Nat} {ba : Nat → Nat} {fo us : Nat} {fr : Bool} {sc : Nat} {hs : Bool} {m : MT} {o : Nat → Int64} (hV : VC S) (hcl : ∀ k, k < S 0 → cl k = ecl S k) : Call 6 mX6_meanLeft [.ref 0] (KP X cl (S 0) (pk (CX S)) (S 61) (S 62) sn sg sv cd ln pe pr ba fo us fr sc hs m o) (.inl (some (.float (menF (cntF (LE S)))))) (KP X cl (S 0) (pk (CX S)) (S 61) (S 62) sn sg sv cd ln (pk (PRP S)) (TRP S) ba fo us fr sc hs m o) 0 := by
  refine Runs.go 1 (cs := []) (pc' := 1) (pl' := [some (.ref 0)]) (st' := [.ref 0]) (h' := (KP X cl (S 0) (pk (CX S)) (S 61) (S 62) sn sg sv cd ln pe pr ba fo us fr sc hs m o)) rfl trivial ?_
  refine Runs.cal (y := mX6_leftAtEnd) (as := [.ref 0]) (rest := []) (pc' := 4) (cs := []) (v := some (.long (L (pk (LE S))))) (h1 := (KP X cl (S 0) (pk (CX S)) (S 61) (S 62) sn sg sv cd ln (pk (PRP S)) (TRP S) ba fo us fr sc hs m o)) rfl trivial (by decide) (c_leftAtEnd hV hcl) ?_
  show Runs _ _ 4 _ [.long (L (pk (LE S)))] _ _ _ _
  refine Runs.cal (y := mX6_meanOf) (as := [.long (L (pk (LE S)))]) (rest := []) (pc' := 7) (cs := []) (v := some (.float (menF (cntF (LE S))))) (h1 := (KP X cl (S 0) (pk (CX S)) (S 61) (S 62) sn sg sv cd ln (pk (PRP S)) (TRP S) ba fo us fr sc hs m o)) rfl trivial (by decide) (c_meanOf (LE_16 S)) ?_
  show Runs _ _ 7 _ [.float (menF (cntF (LE S)))] _ _ _ _
  exact Runs.retE (cs := []) rfl trivial rfl rfl
