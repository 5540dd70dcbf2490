/-! THE CLASS: its looks (gen_c9.py) -/
theorem inAp_out {v : Int32} (h : ¬ inB v (N 33) (N 126) = true) (h1 : ¬ v < N 33) : N 126 < v := by
  simp only [inB, Bool.and_eq_true, decide_eq_true_eq] at h
  exact Int32.not_le.mp (fun z => h ⟨Int32.not_lt.mp h1, z⟩)
theorem c_append1 {X : Nat × (Nat → Int32)} {S : Nat → Nat} {cl : Nat → Nat} {sn : SV} {sg : Nat → Option Nat} {sv : Nat → SV} {cd : Nat → Nat} {ln pe pr : Nat} {ba : Nat → Nat} {fo us : Nat} {fr : Bool} {sc : Nat} {hs : Bool} {m : MT} {o : Nat → Int64} {v : Int32} (hb : ¬ inB v (N 33) (N 126) = true) : Call 0 mX6_append [.ref 0, .int v] (KP X cl (S 0) (pk (CX S)) (S 61) (S 62) sn sg sv cd ln pe pr ba fo us fr sc hs m o) (.inr "java/lang/IllegalArgumentException") (KP X cl (S 0) (pk (CX S)) (S 61) (S 62) sn sg sv cd ln pe pr ba fo us fr sc hs m o) 1 := by
  refine Runs.go 3 (cs := []) (pc' := bif decide (v < (N 33)) then 12 else 6) (pl' := [some (.ref 0), some (.int v)]) (st' := []) (h' := (KP X cl (S 0) (pk (CX S)) (S 61) (S 62) sn sg sv cd ln pe pr ba fo us fr sc hs m o)) rfl trivial ?_
  refine Runs.br (fun z1 => ?_) (fun z1 => ?_)
  · replace z1 : v < (N 33) := Iff.rfl.mp (of_decide_eq_true z1)
    exact Runs.thr (cs := []) rfl trivial
  · replace z1 : ¬ (v < (N 33)) := mt Iff.rfl.mpr (of_decide_eq_false z1)
    refine Runs.go 3 (cs := []) (pc' := bif decide (v ≤ (N 126)) then 22 else 12) (pl' := [some (.ref 0), some (.int v)]) (st' := []) (h' := (KP X cl (S 0) (pk (CX S)) (S 61) (S 62) sn sg sv cd ln pe pr ba fo us fr sc hs m o)) rfl trivial ?_
    refine Runs.brF (decide_eq_false (fun zq9 => absurd (Iff.rfl.mp zq9) (Int32.not_le.mpr (inAp_out hb z1)))) ?_
    exact Runs.thr (cs := []) rfl trivial
theorem c_append2 {X : Nat × (Nat → Int32)} {S : Nat → Nat} {cl : Nat → Nat} {sn : SV} {sg : Nat → Option Nat} {sv : Nat → SV} {cd : Nat → Nat} {ln pe pr : Nat} {ba : Nat → Nat} {fo us : Nat} {fr : Bool} {sc : Nat} {hs : Bool} {m : MT} {o : Nat → Int64} {k : Nat} (hk1 : 33 ≤ k) (hk2 : k ≤ 126) (hl : ln = 60) : Call 0 mX6_append [.ref 0, .int (N k)] (KP X cl (S 0) (pk (CX S)) (S 61) (S 62) sn sg sv cd ln pe pr ba fo us fr sc hs m o) (.inr "java/lang/IllegalStateException") (KP X cl (S 0) (pk (CX S)) (S 61) (S 62) sn sg sv cd ln pe pr ba fo us fr sc hs m o) 1 := by
  refine Runs.go 3 (cs := []) (pc' := bif decide ((N k) < (N 33)) then 12 else 6) (pl' := [some (.ref 0), some (.int (N k))]) (st' := []) (h' := (KP X cl (S 0) (pk (CX S)) (S 61) (S 62) sn sg sv cd ln pe pr ba fo us fr sc hs m o)) rfl trivial ?_
  refine Runs.brF (decide_eq_false (fun zq9 => absurd ((N_lt (a := k) (b := 33) (by omega) (by omega)).mp zq9) (by omega))) ?_
  refine Runs.go 3 (cs := []) (pc' := bif decide ((N k) ≤ (N 126)) then 22 else 12) (pl' := [some (.ref 0), some (.int (N k))]) (st' := []) (h' := (KP X cl (S 0) (pk (CX S)) (S 61) (S 62) sn sg sv cd ln pe pr ba fo us fr sc hs m o)) rfl trivial ?_
  refine Runs.brT (decide_eq_true ((N_le (a := k) (b := 126) (by omega) (by omega)).mpr (by omega))) ?_
  refine Runs.go 5 (cs := []) (pc' := bif decide ((N ln) < (N 60)) then 44 else 34) (pl' := [some (.ref 0), some (.int (N k))]) (st' := []) (h' := (KP X cl (S 0) (pk (CX S)) (S 61) (S 62) sn sg sv cd ln pe pr ba fo us fr sc hs m o)) rfl trivial ?_
  refine Runs.brF (decide_eq_false (fun zq9 => absurd ((N_lt (a := ln) (b := 60) (by omega) (by omega)).mp zq9) (by omega))) ?_
  exact Runs.thr (cs := []) rfl trivial
theorem c_append0 {X : Nat × (Nat → Int32)} {S : Nat → Nat} {cl : Nat → Nat} {sn : SV} {sg : Nat → Option Nat} {sv : Nat → SV} {cd : Nat → Nat} {ln pe pr : Nat} {ba : Nat → Nat} {fo us : Nat} {fr : Bool} {sc : Nat} {hs : Bool} {m : MT} {o : Nat → Int64} {k : Nat} (hk1 : 33 ≤ k) (hk2 : k ≤ 126) (hl : ln < 60) : Call 0 mX6_append [.ref 0, .int (N k)] (KP X cl (S 0) (pk (CX S)) (S 61) (S 62) sn sg sv cd ln pe pr ba fo us fr sc hs m o) (.inl (some (.int (N (ln + 1))))) (KP X cl (S 0) (pk (CX S)) (S 61) (S 62) sn sg sv (upn cd ln k) (ln + 1) pe pr ba fo us fr sc hs m o) 0 := by
  refine Runs.go 3 (cs := []) (pc' := bif decide ((N k) < (N 33)) then 12 else 6) (pl' := [some (.ref 0), some (.int (N k))]) (st' := []) (h' := (KP X cl (S 0) (pk (CX S)) (S 61) (S 62) sn sg sv cd ln pe pr ba fo us fr sc hs m o)) rfl trivial ?_
  refine Runs.brF (decide_eq_false (fun zq9 => absurd ((N_lt (a := k) (b := 33) (by omega) (by omega)).mp zq9) (by omega))) ?_
  refine Runs.go 3 (cs := []) (pc' := bif decide ((N k) ≤ (N 126)) then 22 else 12) (pl' := [some (.ref 0), some (.int (N k))]) (st' := []) (h' := (KP X cl (S 0) (pk (CX S)) (S 61) (S 62) sn sg sv cd ln pe pr ba fo us fr sc hs m o)) rfl trivial ?_
  refine Runs.brT (decide_eq_true ((N_le (a := k) (b := 126) (by omega) (by omega)).mpr (by omega))) ?_
  refine Runs.go 5 (cs := []) (pc' := bif decide ((N ln) < (N 60)) then 44 else 34) (pl' := [some (.ref 0), some (.int (N k))]) (st' := []) (h' := (KP X cl (S 0) (pk (CX S)) (S 61) (S 62) sn sg sv cd ln pe pr ba fo us fr sc hs m o)) rfl trivial ?_
  refine Runs.brT (decide_eq_true ((N_lt (a := ln) (b := 60) (by omega) (by omega)).mpr (by omega))) ?_
  refine Runs.goH 8 (cs := [vp_in (N ln) 60]) (pc' := 60) (pl' := [some (.ref 0), some (.int (N k))]) (st' := []) (h1 := (FP X (aN cl) (N (S 0)) (L (pk (CX S))) (N (S 61)) (N (S 62)) sn sg sv (upd (aN cd) (N ln).toNatClampNeg (N k)) (N ln) (L pe) (N pr) (aN ba) (N fo) (L us) (bI fr) (N sc) (bI hs) m o)) (h' := (KP X cl (S 0) (pk (CX S)) (S 61) (S 62) sn sg sv (upn cd ln k) ln pe pr ba fo us fr sc hs m o)) rfl ⟨(N_in (by omega) (by decide)), trivial⟩ (congrArg (fun zq9 => (FP X (aN cl) (N (S 0)) (L (pk (CX S))) (N (S 61)) (N (S 62)) sn sg sv zq9 (N ln) (L pe) (N pr) (aN ba) (N fo) (L us) (bI fr) (N sc) (bI hs) m o)) ((aN_up (by omega)))) ?_
  refine Runs.topI 6 (cs := []) (pc' := 70) (pl' := [some (.ref 0), some (.int (N k))]) (v := (N ln) + (N 1)) (v' := N (ln + 1)) (st' := [.ref 6]) (h' := (KP X cl (S 0) (pk (CX S)) (S 61) (S 62) sn sg sv (upn cd ln k) ln pe pr ba fo us fr sc hs m o)) rfl trivial (NA (by omega)) ?_
  refine Runs.go 4 (cs := []) (pc' := 80) (pl' := [some (.ref 0), some (.int (N k))]) (st' := [.int (N (ln + 1))]) (h' := (KP X cl (S 0) (pk (CX S)) (S 61) (S 62) sn sg sv (upn cd ln k) (ln + 1) pe pr ba fo us fr sc hs m o)) rfl trivial ?_
  exact Runs.retE (cs := []) rfl trivial (retI rfl) rfl
theorem c_clearBuffer {X : Nat × (Nat → Int32)} {S : Nat → Nat} {cl : Nat → Nat} {sn : SV} {sg : Nat → Option Nat} {sv : Nat → SV} {cd : Nat → Nat} {ln pe pr : Nat} {ba : Nat → Nat} {fo us : Nat} {fr : Bool} {sc : Nat} {hs : Bool} {m : MT} {o : Nat → Int64} : Call 0 mX6_clearBuffer [.ref 0] (KP X cl (S 0) (pk (CX S)) (S 61) (S 62) sn sg sv cd ln pe pr ba fo us fr sc hs m o) (.inl (some (.int (N ln)))) (KP X cl (S 0) (pk (CX S)) (S 61) (S 62) sn sg sv cd 0 pe pr ba fo us fr sc hs m o) 0 := by
  refine Runs.go 9 (cs := []) (pc' := 17) (pl' := [some (.ref 0), some (.int (N ln))]) (st' := [.int (N ln)]) (h' := (KP X cl (S 0) (pk (CX S)) (S 61) (S 62) sn sg sv cd 0 pe pr ba fo us fr sc hs m o)) rfl trivial ?_
  exact Runs.retE (cs := []) rfl trivial (retI rfl) rfl
theorem c_keep {X : Nat × (Nat → Int32)} {S : Nat → Nat} {cl : Nat → Nat} {sn : SV} {sg : Nat → Option Nat} {sv : Nat → SV} {cd : Nat → Nat} {ln pe pr : Nat} {ba : Nat → Nat} {fo us : Nat} {fr : Bool} {sc : Nat} {hs : Bool} {m : MT} {o : Nat → Int64} : Call 1 mX6_keep [.ref 0] (KP X cl (S 0) (pk (CX S)) (S 61) (S 62) sn sg sv cd ln pe pr ba fo us fr sc hs m o) (.inl (some (.int (N (S 0))))) (KP X cl (S 0) (pk (CX S)) (S 61) (S 62) (nwV S cl sn.1) sg sv cd ln pe pr ba fo us fr sc true m o) 0 := by
  refine Runs.go 4 (cs := []) (pc' := 8) (pl' := [some (.ref 0)]) (st' := [.ref 1, .ref 3]) (h' := (KP X cl (S 0) (pk (CX S)) (S 61) (S 62) sn sg sv cd ln pe pr ba fo us fr sc hs m o)) rfl trivial ?_
  refine Runs.cal (y := mX3_copyFrom) (as := [.ref 3, .ref 1]) (rest := []) (pc' := 11) (cs := []) (v := none) (h1 := (KP X cl (S 0) (pk (CX S)) (S 61) (S 62) (nwV S cl sn.1) sg sv cd ln pe pr ba fo us fr sc hs m o)) rfl trivial (by decide) (c_copy_keep) ?_
  show Runs _ _ 11 _ [] _ _ _ _
  refine Runs.go 6 (cs := [(N 1 : Int32) = 0 ∨ (N 1 : Int32) = 1]) (pc' := 23) (pl' := [some (.ref 0)]) (st' := [.int (N (S 0))]) (h' := (KP X cl (S 0) (pk (CX S)) (S 61) (S 62) (nwV S cl sn.1) sg sv cd ln pe pr ba fo us fr sc true m o)) rfl ⟨(Or.inr rfl), trivial⟩ ?_
  exact Runs.retE (cs := []) rfl trivial (retI rfl) rfl
theorem c_goBack1 {X : Nat × (Nat → Int32)} {S : Nat → Nat} {cl : Nat → Nat} {sn : SV} {sg : Nat → Option Nat} {sv : Nat → SV} {cd : Nat → Nat} {ln pe pr : Nat} {ba : Nat → Nat} {fo us : Nat} {fr : Bool} {sc : Nat} {m : MT} {o : Nat → Int64} : Call 0 mX6_goBack [.ref 0] (KP X cl (S 0) (pk (CX S)) (S 61) (S 62) sn sg sv cd ln pe pr ba fo us fr sc false m o) (.inr "java/lang/IllegalStateException") (KP X cl (S 0) (pk (CX S)) (S 61) (S 62) sn sg sv cd ln pe pr ba fo us fr sc false m o) 1 := by
  refine Runs.go 3 (cs := []) (pc' := bif decide (¬ (bI false) = 0) then 17 else 7) (pl' := [some (.ref 0)]) (st' := []) (h' := (KP X cl (S 0) (pk (CX S)) (S 61) (S 62) sn sg sv cd ln pe pr ba fo us fr sc false m o)) rfl trivial ?_
  refine Runs.brF (decide_eq_false (by decide)) ?_
  exact Runs.thr (cs := []) rfl trivial
theorem c_goBack0 {X : Nat × (Nat → Int32)} {S : Nat → Nat} {cl : Nat → Nat} {r : Nat} {sv : Nat → SV} {cd : Nat → Nat} {ln pe pr : Nat} {ba : Nat → Nat} {fo us : Nat} {fr : Bool} {sc : Nat} {m : MT} {o : Nat → Int64} {g : Nat → Int32} {sc2 sx2 sa2 sr2 : Nat} {F : Nat → Nat} (hr : r < 6) (hsc : sc ≤ 6) (hF : cp12 g (aN cl) = aN F) : Call 3 mX6_goBack [.ref 0] (KP X cl (S 0) (pk (CX S)) (S 61) (S 62) (g, N sc2, L sx2, N sa2, N sr2) (sgR r) sv cd ln pe pr ba fo us fr sc true m o) (.inl (some (.int (N sc2)))) (KP X F sc2 sx2 sa2 sr2 (g, N sc2, L sx2, N sa2, N sr2) (sgR (svR r sc)) (upS sv (svJ r sc) (nwV S cl (sv (svJ r sc)).1)) cd ln pe pr ba fo us false (svK sc) true m o) 0 := by
  refine Runs.go 3 (cs := []) (pc' := bif decide (¬ (bI true) = 0) then 17 else 7) (pl' := [some (.ref 0)]) (st' := []) (h' := (KP X cl (S 0) (pk (CX S)) (S 61) (S 62) (g, N sc2, L sx2, N sa2, N sr2) (sgR r) sv cd ln pe pr ba fo us fr sc true m o)) rfl trivial ?_
  refine Runs.brT (decide_eq_true (by decide)) ?_
  refine Runs.go 1 (cs := []) (pc' := 18) (pl' := [some (.ref 0)]) (st' := [.ref 0]) (h' := (KP X cl (S 0) (pk (CX S)) (S 61) (S 62) (g, N sc2, L sx2, N sa2, N sr2) (sgR r) sv cd ln pe pr ba fo us fr sc true m o)) rfl trivial ?_
  refine Runs.cal (y := mX6_save) (as := [.ref 0]) (rest := []) (pc' := 21) (cs := []) (v := none) (h1 := (KP X cl (S 0) (pk (CX S)) (S 61) (S 62) (g, N sc2, L sx2, N sa2, N sr2) (sgR (svR r sc)) (upS sv (svJ r sc) (nwV S cl (sv (svJ r sc)).1)) cd ln pe pr ba fo us false (svK sc) true m o)) rfl trivial (by decide) (c_save (fr := fr) hr hsc) ?_
  show Runs _ _ 21 _ [] _ _ _ _
  refine Runs.go 4 (cs := []) (pc' := 29) (pl' := [some (.ref 0)]) (st' := [.ref 3, .ref 1]) (h' := (KP X cl (S 0) (pk (CX S)) (S 61) (S 62) (g, N sc2, L sx2, N sa2, N sr2) (sgR (svR r sc)) (upS sv (svJ r sc) (nwV S cl (sv (svJ r sc)).1)) cd ln pe pr ba fo us false (svK sc) true m o)) rfl trivial ?_
  have hcb := c_copy_back (X := X) (cl := aN cl) (cn := N (S 0)) (cx := L (pk (CX S))) (ma := N (S 61)) (ru := N (S 62)) (sn := (g, N sc2, L sx2, N sa2, N sr2)) (sg := sgR (svR r sc)) (sv := upS sv (svJ r sc) (nwV S cl (sv (svJ r sc)).1)) (cd := aN cd) (ln := N ln) (pe := L pe) (pr := N pr) (ba := aN ba) (fo := N fo) (us := L us) (fr := bI false) (sc := N (svK sc)) (hs := bI true) (m := m) (o := o)
  rw [show cp12 ((g, N sc2, L sx2, N sa2, N sr2) : SV).1 (aN cl) = aN F from hF] at hcb
  refine Runs.cal (y := mX3_copyFrom) (as := [.ref 1, .ref 3]) (rest := []) (pc' := 32) (cs := []) (v := none) (h1 := (KP X F sc2 sx2 sa2 sr2 (g, N sc2, L sx2, N sa2, N sr2) (sgR (svR r sc)) (upS sv (svJ r sc) (nwV S cl (sv (svJ r sc)).1)) cd ln pe pr ba fo us false (svK sc) true m o)) rfl trivial (by decide) (hcb) ?_
  show Runs _ _ 32 _ [] _ _ _ _
  refine Runs.go 3 (cs := []) (pc' := 39) (pl' := [some (.ref 0)]) (st' := [.int (N sc2)]) (h' := (KP X F sc2 sx2 sa2 sr2 (g, N sc2, L sx2, N sa2, N sr2) (sgR (svR r sc)) (upS sv (svJ r sc) (nwV S cl (sv (svJ r sc)).1)) cd ln pe pr ba fo us false (svK sc) true m o)) rfl trivial ?_
  exact Runs.retE (cs := []) rfl trivial (retI rfl) rfl
theorem c_undo1 {X : Nat × (Nat → Int32)} {S : Nat → Nat} {cl : Nat → Nat} {sn : SV} {sg : Nat → Option Nat} {sv : Nat → SV} {cd : Nat → Nat} {ln pe pr : Nat} {ba : Nat → Nat} {fo us : Nat} {fr : Bool} {hs : Bool} {m : MT} {o : Nat → Int64} : Call 0 mX6_undo [.ref 0] (KP X cl (S 0) (pk (CX S)) (S 61) (S 62) sn sg sv cd ln pe pr ba fo us fr 0 hs m o) (.inr "java/lang/IllegalStateException") (KP X cl (S 0) (pk (CX S)) (S 61) (S 62) sn sg sv cd ln pe pr ba fo us fr 0 hs m o) 1 := by
  refine Runs.go 3 (cs := []) (pc' := bif decide (0 < (N 0)) then 17 else 7) (pl' := [some (.ref 0)]) (st' := []) (h' := (KP X cl (S 0) (pk (CX S)) (S 61) (S 62) sn sg sv cd ln pe pr ba fo us fr 0 hs m o)) rfl trivial ?_
  refine Runs.brF (decide_eq_false (by decide)) ?_
  exact Runs.thr (cs := []) rfl trivial
theorem c_undo_0 {X : Nat × (Nat → Int32)} {S : Nat → Nat} {cl : Nat → Nat} {sn : SV} {sg : Nat → Option Nat} {sv : Nat → SV} {cd : Nat → Nat} {ln pe pr : Nat} {ba : Nat → Nat} {fo us : Nat} {fr : Bool} {sc : Nat} {hs : Bool} {m : MT} {o : Nat → Int64} {g : Nat → Int32} {sc2 sx2 sa2 sr2 : Nat} {F : Nat → Nat} (hsc : sc < 6) (hsg : sg sc = some 11) (hsv : sv 0 = (g, N sc2, L sx2, N sa2, N sr2)) (hF : cp12 g (aN cl) = aN F) : Call 1 mX6_undo [.ref 0] (KP X cl (S 0) (pk (CX S)) (S 61) (S 62) sn sg sv cd ln pe pr ba fo us fr (sc + 1) hs m o) (.inl (some (.int (N sc)))) (KP X F sc2 sx2 sa2 sr2 sn sg sv cd ln pe pr ba fo us false sc hs m o) 0 := by
  refine Runs.go 3 (cs := []) (pc' := bif decide (0 < (N (sc + 1))) then 17 else 7) (pl' := [some (.ref 0)]) (st' := []) (h' := (KP X cl (S 0) (pk (CX S)) (S 61) (S 62) sn sg sv cd ln pe pr ba fo us fr (sc + 1) hs m o)) rfl trivial ?_
  refine Runs.brT (decide_eq_true ((N_lt (a := 0) (b := sc + 1) (by omega) (by omega)).mpr (by omega))) ?_
  refine Runs.topI 5 (cs := []) (pc' := 24) (pl' := [some (.ref 0)]) (v := (N (sc + 1)) - (N 1)) (v' := N sc) (st' := [.ref 0]) (h' := (KP X cl (S 0) (pk (CX S)) (S 61) (S 62) sn sg sv cd ln pe pr ba fo us fr (sc + 1) hs m o)) rfl trivial (NS (by omega)) ?_
  refine Runs.go 8 (cs := [vp_in (N sc) 6]) (pc' := 40) (pl' := [some (.ref 0)]) (st' := [va_rf (sg (N sc).toNatClampNeg), .ref 1]) (h' := (KP X cl (S 0) (pk (CX S)) (S 61) (S 62) sn sg sv cd ln pe pr ba fo us fr sc hs m o)) rfl ⟨(N_in (by omega) (by decide)), trivial⟩ ?_
  rw [show va_rf (sg (N sc).toNatClampNeg) = Value.ref 11 from by rw [N_tc (by omega), hsg]; rfl]
  have hcb := c_copy_undo0 (X := X) (cl := aN cl) (cn := N (S 0)) (cx := L (pk (CX S))) (ma := N (S 61)) (ru := N (S 62)) (sn := sn) (sg := sg) (sv := sv) (cd := aN cd) (ln := N ln) (pe := L pe) (pr := N pr) (ba := aN ba) (fo := N fo) (us := L us) (fr := bI fr) (sc := N sc) (hs := bI hs) (m := m) (o := o)
  rw [hsv] at hcb
  rw [show cp12 ((g, N sc2, L sx2, N sa2, N sr2) : SV).1 (aN cl) = aN F from hF] at hcb
  refine Runs.cal (y := mX3_copyFrom) (as := [.ref 1, .ref 11]) (rest := []) (pc' := 43) (cs := []) (v := none) (h1 := (KP X F sc2 sx2 sa2 sr2 sn sg sv cd ln pe pr ba fo us fr sc hs m o)) rfl trivial (by decide) (hcb) ?_
  show Runs _ _ 43 _ [] _ _ _ _
  refine Runs.go 6 (cs := [(N 0 : Int32) = 0 ∨ (N 0 : Int32) = 1]) (pc' := 55) (pl' := [some (.ref 0)]) (st' := [.int (N sc)]) (h' := (KP X F sc2 sx2 sa2 sr2 sn sg sv cd ln pe pr ba fo us false sc hs m o)) rfl ⟨(Or.inl rfl), trivial⟩ ?_
  exact Runs.retE (cs := []) rfl trivial (retI rfl) rfl
theorem c_undo_1 {X : Nat × (Nat → Int32)} {S : Nat → Nat} {cl : Nat → Nat} {sn : SV} {sg : Nat → Option Nat} {sv : Nat → SV} {cd : Nat → Nat} {ln pe pr : Nat} {ba : Nat → Nat} {fo us : Nat} {fr : Bool} {sc : Nat} {hs : Bool} {m : MT} {o : Nat → Int64} {g : Nat → Int32} {sc2 sx2 sa2 sr2 : Nat} {F : Nat → Nat} (hsc : sc < 6) (hsg : sg sc = some 13) (hsv : sv 1 = (g, N sc2, L sx2, N sa2, N sr2)) (hF : cp12 g (aN cl) = aN F) : Call 1 mX6_undo [.ref 0] (KP X cl (S 0) (pk (CX S)) (S 61) (S 62) sn sg sv cd ln pe pr ba fo us fr (sc + 1) hs m o) (.inl (some (.int (N sc)))) (KP X F sc2 sx2 sa2 sr2 sn sg sv cd ln pe pr ba fo us false sc hs m o) 0 := by
  refine Runs.go 3 (cs := []) (pc' := bif decide (0 < (N (sc + 1))) then 17 else 7) (pl' := [some (.ref 0)]) (st' := []) (h' := (KP X cl (S 0) (pk (CX S)) (S 61) (S 62) sn sg sv cd ln pe pr ba fo us fr (sc + 1) hs m o)) rfl trivial ?_
  refine Runs.brT (decide_eq_true ((N_lt (a := 0) (b := sc + 1) (by omega) (by omega)).mpr (by omega))) ?_
  refine Runs.topI 5 (cs := []) (pc' := 24) (pl' := [some (.ref 0)]) (v := (N (sc + 1)) - (N 1)) (v' := N sc) (st' := [.ref 0]) (h' := (KP X cl (S 0) (pk (CX S)) (S 61) (S 62) sn sg sv cd ln pe pr ba fo us fr (sc + 1) hs m o)) rfl trivial (NS (by omega)) ?_
  refine Runs.go 8 (cs := [vp_in (N sc) 6]) (pc' := 40) (pl' := [some (.ref 0)]) (st' := [va_rf (sg (N sc).toNatClampNeg), .ref 1]) (h' := (KP X cl (S 0) (pk (CX S)) (S 61) (S 62) sn sg sv cd ln pe pr ba fo us fr sc hs m o)) rfl ⟨(N_in (by omega) (by decide)), trivial⟩ ?_
  rw [show va_rf (sg (N sc).toNatClampNeg) = Value.ref 13 from by rw [N_tc (by omega), hsg]; rfl]
  have hcb := c_copy_undo1 (X := X) (cl := aN cl) (cn := N (S 0)) (cx := L (pk (CX S))) (ma := N (S 61)) (ru := N (S 62)) (sn := sn) (sg := sg) (sv := sv) (cd := aN cd) (ln := N ln) (pe := L pe) (pr := N pr) (ba := aN ba) (fo := N fo) (us := L us) (fr := bI fr) (sc := N sc) (hs := bI hs) (m := m) (o := o)
  rw [hsv] at hcb
  rw [show cp12 ((g, N sc2, L sx2, N sa2, N sr2) : SV).1 (aN cl) = aN F from hF] at hcb
  refine Runs.cal (y := mX3_copyFrom) (as := [.ref 1, .ref 13]) (rest := []) (pc' := 43) (cs := []) (v := none) (h1 := (KP X F sc2 sx2 sa2 sr2 sn sg sv cd ln pe pr ba fo us fr sc hs m o)) rfl trivial (by decide) (hcb) ?_
  show Runs _ _ 43 _ [] _ _ _ _
  refine Runs.go 6 (cs := [(N 0 : Int32) = 0 ∨ (N 0 : Int32) = 1]) (pc' := 55) (pl' := [some (.ref 0)]) (st' := [.int (N sc)]) (h' := (KP X F sc2 sx2 sa2 sr2 sn sg sv cd ln pe pr ba fo us false sc hs m o)) rfl ⟨(Or.inl rfl), trivial⟩ ?_
  exact Runs.retE (cs := []) rfl trivial (retI rfl) rfl
theorem c_undo_2 {X : Nat × (Nat → Int32)} {S : Nat → Nat} {cl : Nat → Nat} {sn : SV} {sg : Nat → Option Nat} {sv : Nat → SV} {cd : Nat → Nat} {ln pe pr : Nat} {ba : Nat → Nat} {fo us : Nat} {fr : Bool} {sc : Nat} {hs : Bool} {m : MT} {o : Nat → Int64} {g : Nat → Int32} {sc2 sx2 sa2 sr2 : Nat} {F : Nat → Nat} (hsc : sc < 6) (hsg : sg sc = some 15) (hsv : sv 2 = (g, N sc2, L sx2, N sa2, N sr2)) (hF : cp12 g (aN cl) = aN F) : Call 1 mX6_undo [.ref 0] (KP X cl (S 0) (pk (CX S)) (S 61) (S 62) sn sg sv cd ln pe pr ba fo us fr (sc + 1) hs m o) (.inl (some (.int (N sc)))) (KP X F sc2 sx2 sa2 sr2 sn sg sv cd ln pe pr ba fo us false sc hs m o) 0 := by
  refine Runs.go 3 (cs := []) (pc' := bif decide (0 < (N (sc + 1))) then 17 else 7) (pl' := [some (.ref 0)]) (st' := []) (h' := (KP X cl (S 0) (pk (CX S)) (S 61) (S 62) sn sg sv cd ln pe pr ba fo us fr (sc + 1) hs m o)) rfl trivial ?_
  refine Runs.brT (decide_eq_true ((N_lt (a := 0) (b := sc + 1) (by omega) (by omega)).mpr (by omega))) ?_
  refine Runs.topI 5 (cs := []) (pc' := 24) (pl' := [some (.ref 0)]) (v := (N (sc + 1)) - (N 1)) (v' := N sc) (st' := [.ref 0]) (h' := (KP X cl (S 0) (pk (CX S)) (S 61) (S 62) sn sg sv cd ln pe pr ba fo us fr (sc + 1) hs m o)) rfl trivial (NS (by omega)) ?_
  refine Runs.go 8 (cs := [vp_in (N sc) 6]) (pc' := 40) (pl' := [some (.ref 0)]) (st' := [va_rf (sg (N sc).toNatClampNeg), .ref 1]) (h' := (KP X cl (S 0) (pk (CX S)) (S 61) (S 62) sn sg sv cd ln pe pr ba fo us fr sc hs m o)) rfl ⟨(N_in (by omega) (by decide)), trivial⟩ ?_
  rw [show va_rf (sg (N sc).toNatClampNeg) = Value.ref 15 from by rw [N_tc (by omega), hsg]; rfl]
  have hcb := c_copy_undo2 (X := X) (cl := aN cl) (cn := N (S 0)) (cx := L (pk (CX S))) (ma := N (S 61)) (ru := N (S 62)) (sn := sn) (sg := sg) (sv := sv) (cd := aN cd) (ln := N ln) (pe := L pe) (pr := N pr) (ba := aN ba) (fo := N fo) (us := L us) (fr := bI fr) (sc := N sc) (hs := bI hs) (m := m) (o := o)
  rw [hsv] at hcb
  rw [show cp12 ((g, N sc2, L sx2, N sa2, N sr2) : SV).1 (aN cl) = aN F from hF] at hcb
  refine Runs.cal (y := mX3_copyFrom) (as := [.ref 1, .ref 15]) (rest := []) (pc' := 43) (cs := []) (v := none) (h1 := (KP X F sc2 sx2 sa2 sr2 sn sg sv cd ln pe pr ba fo us fr sc hs m o)) rfl trivial (by decide) (hcb) ?_
  show Runs _ _ 43 _ [] _ _ _ _
  refine Runs.go 6 (cs := [(N 0 : Int32) = 0 ∨ (N 0 : Int32) = 1]) (pc' := 55) (pl' := [some (.ref 0)]) (st' := [.int (N sc)]) (h' := (KP X F sc2 sx2 sa2 sr2 sn sg sv cd ln pe pr ba fo us false sc hs m o)) rfl ⟨(Or.inl rfl), trivial⟩ ?_
  exact Runs.retE (cs := []) rfl trivial (retI rfl) rfl
theorem c_undo_3 {X : Nat × (Nat → Int32)} {S : Nat → Nat} {cl : Nat → Nat} {sn : SV} {sg : Nat → Option Nat} {sv : Nat → SV} {cd : Nat → Nat} {ln pe pr : Nat} {ba : Nat → Nat} {fo us : Nat} {fr : Bool} {sc : Nat} {hs : Bool} {m : MT} {o : Nat → Int64} {g : Nat → Int32} {sc2 sx2 sa2 sr2 : Nat} {F : Nat → Nat} (hsc : sc < 6) (hsg : sg sc = some 17) (hsv : sv 3 = (g, N sc2, L sx2, N sa2, N sr2)) (hF : cp12 g (aN cl) = aN F) : Call 1 mX6_undo [.ref 0] (KP X cl (S 0) (pk (CX S)) (S 61) (S 62) sn sg sv cd ln pe pr ba fo us fr (sc + 1) hs m o) (.inl (some (.int (N sc)))) (KP X F sc2 sx2 sa2 sr2 sn sg sv cd ln pe pr ba fo us false sc hs m o) 0 := by
  refine Runs.go 3 (cs := []) (pc' := bif decide (0 < (N (sc + 1))) then 17 else 7) (pl' := [some (.ref 0)]) (st' := []) (h' := (KP X cl (S 0) (pk (CX S)) (S 61) (S 62) sn sg sv cd ln pe pr ba fo us fr (sc + 1) hs m o)) rfl trivial ?_
  refine Runs.brT (decide_eq_true ((N_lt (a := 0) (b := sc + 1) (by omega) (by omega)).mpr (by omega))) ?_
  refine Runs.topI 5 (cs := []) (pc' := 24) (pl' := [some (.ref 0)]) (v := (N (sc + 1)) - (N 1)) (v' := N sc) (st' := [.ref 0]) (h' := (KP X cl (S 0) (pk (CX S)) (S 61) (S 62) sn sg sv cd ln pe pr ba fo us fr (sc + 1) hs m o)) rfl trivial (NS (by omega)) ?_
  refine Runs.go 8 (cs := [vp_in (N sc) 6]) (pc' := 40) (pl' := [some (.ref 0)]) (st' := [va_rf (sg (N sc).toNatClampNeg), .ref 1]) (h' := (KP X cl (S 0) (pk (CX S)) (S 61) (S 62) sn sg sv cd ln pe pr ba fo us fr sc hs m o)) rfl ⟨(N_in (by omega) (by decide)), trivial⟩ ?_
  rw [show va_rf (sg (N sc).toNatClampNeg) = Value.ref 17 from by rw [N_tc (by omega), hsg]; rfl]
  have hcb := c_copy_undo3 (X := X) (cl := aN cl) (cn := N (S 0)) (cx := L (pk (CX S))) (ma := N (S 61)) (ru := N (S 62)) (sn := sn) (sg := sg) (sv := sv) (cd := aN cd) (ln := N ln) (pe := L pe) (pr := N pr) (ba := aN ba) (fo := N fo) (us := L us) (fr := bI fr) (sc := N sc) (hs := bI hs) (m := m) (o := o)
  rw [hsv] at hcb
  rw [show cp12 ((g, N sc2, L sx2, N sa2, N sr2) : SV).1 (aN cl) = aN F from hF] at hcb
  refine Runs.cal (y := mX3_copyFrom) (as := [.ref 1, .ref 17]) (rest := []) (pc' := 43) (cs := []) (v := none) (h1 := (KP X F sc2 sx2 sa2 sr2 sn sg sv cd ln pe pr ba fo us fr sc hs m o)) rfl trivial (by decide) (hcb) ?_
  show Runs _ _ 43 _ [] _ _ _ _
  refine Runs.go 6 (cs := [(N 0 : Int32) = 0 ∨ (N 0 : Int32) = 1]) (pc' := 55) (pl' := [some (.ref 0)]) (st' := [.int (N sc)]) (h' := (KP X F sc2 sx2 sa2 sr2 sn sg sv cd ln pe pr ba fo us false sc hs m o)) rfl ⟨(Or.inl rfl), trivial⟩ ?_
  exact Runs.retE (cs := []) rfl trivial (retI rfl) rfl
theorem c_undo_4 {X : Nat × (Nat → Int32)} {S : Nat → Nat} {cl : Nat → Nat} {sn : SV} {sg : Nat → Option Nat} {sv : Nat → SV} {cd : Nat → Nat} {ln pe pr : Nat} {ba : Nat → Nat} {fo us : Nat} {fr : Bool} {sc : Nat} {hs : Bool} {m : MT} {o : Nat → Int64} {g : Nat → Int32} {sc2 sx2 sa2 sr2 : Nat} {F : Nat → Nat} (hsc : sc < 6) (hsg : sg sc = some 19) (hsv : sv 4 = (g, N sc2, L sx2, N sa2, N sr2)) (hF : cp12 g (aN cl) = aN F) : Call 1 mX6_undo [.ref 0] (KP X cl (S 0) (pk (CX S)) (S 61) (S 62) sn sg sv cd ln pe pr ba fo us fr (sc + 1) hs m o) (.inl (some (.int (N sc)))) (KP X F sc2 sx2 sa2 sr2 sn sg sv cd ln pe pr ba fo us false sc hs m o) 0 := by
  refine Runs.go 3 (cs := []) (pc' := bif decide (0 < (N (sc + 1))) then 17 else 7) (pl' := [some (.ref 0)]) (st' := []) (h' := (KP X cl (S 0) (pk (CX S)) (S 61) (S 62) sn sg sv cd ln pe pr ba fo us fr (sc + 1) hs m o)) rfl trivial ?_
  refine Runs.brT (decide_eq_true ((N_lt (a := 0) (b := sc + 1) (by omega) (by omega)).mpr (by omega))) ?_
  refine Runs.topI 5 (cs := []) (pc' := 24) (pl' := [some (.ref 0)]) (v := (N (sc + 1)) - (N 1)) (v' := N sc) (st' := [.ref 0]) (h' := (KP X cl (S 0) (pk (CX S)) (S 61) (S 62) sn sg sv cd ln pe pr ba fo us fr (sc + 1) hs m o)) rfl trivial (NS (by omega)) ?_
  refine Runs.go 8 (cs := [vp_in (N sc) 6]) (pc' := 40) (pl' := [some (.ref 0)]) (st' := [va_rf (sg (N sc).toNatClampNeg), .ref 1]) (h' := (KP X cl (S 0) (pk (CX S)) (S 61) (S 62) sn sg sv cd ln pe pr ba fo us fr sc hs m o)) rfl ⟨(N_in (by omega) (by decide)), trivial⟩ ?_
  rw [show va_rf (sg (N sc).toNatClampNeg) = Value.ref 19 from by rw [N_tc (by omega), hsg]; rfl]
  have hcb := c_copy_undo4 (X := X) (cl := aN cl) (cn := N (S 0)) (cx := L (pk (CX S))) (ma := N (S 61)) (ru := N (S 62)) (sn := sn) (sg := sg) (sv := sv) (cd := aN cd) (ln := N ln) (pe := L pe) (pr := N pr) (ba := aN ba) (fo := N fo) (us := L us) (fr := bI fr) (sc := N sc) (hs := bI hs) (m := m) (o := o)
  rw [hsv] at hcb
  rw [show cp12 ((g, N sc2, L sx2, N sa2, N sr2) : SV).1 (aN cl) = aN F from hF] at hcb
  refine Runs.cal (y := mX3_copyFrom) (as := [.ref 1, .ref 19]) (rest := []) (pc' := 43) (cs := []) (v := none) (h1 := (KP X F sc2 sx2 sa2 sr2 sn sg sv cd ln pe pr ba fo us fr sc hs m o)) rfl trivial (by decide) (hcb) ?_
  show Runs _ _ 43 _ [] _ _ _ _
  refine Runs.go 6 (cs := [(N 0 : Int32) = 0 ∨ (N 0 : Int32) = 1]) (pc' := 55) (pl' := [some (.ref 0)]) (st' := [.int (N sc)]) (h' := (KP X F sc2 sx2 sa2 sr2 sn sg sv cd ln pe pr ba fo us false sc hs m o)) rfl ⟨(Or.inl rfl), trivial⟩ ?_
  exact Runs.retE (cs := []) rfl trivial (retI rfl) rfl
theorem c_undo_5 {X : Nat × (Nat → Int32)} {S : Nat → Nat} {cl : Nat → Nat} {sn : SV} {sg : Nat → Option Nat} {sv : Nat → SV} {cd : Nat → Nat} {ln pe pr : Nat} {ba : Nat → Nat} {fo us : Nat} {fr : Bool} {sc : Nat} {hs : Bool} {m : MT} {o : Nat → Int64} {g : Nat → Int32} {sc2 sx2 sa2 sr2 : Nat} {F : Nat → Nat} (hsc : sc < 6) (hsg : sg sc = some 21) (hsv : sv 5 = (g, N sc2, L sx2, N sa2, N sr2)) (hF : cp12 g (aN cl) = aN F) : Call 1 mX6_undo [.ref 0] (KP X cl (S 0) (pk (CX S)) (S 61) (S 62) sn sg sv cd ln pe pr ba fo us fr (sc + 1) hs m o) (.inl (some (.int (N sc)))) (KP X F sc2 sx2 sa2 sr2 sn sg sv cd ln pe pr ba fo us false sc hs m o) 0 := by
  refine Runs.go 3 (cs := []) (pc' := bif decide (0 < (N (sc + 1))) then 17 else 7) (pl' := [some (.ref 0)]) (st' := []) (h' := (KP X cl (S 0) (pk (CX S)) (S 61) (S 62) sn sg sv cd ln pe pr ba fo us fr (sc + 1) hs m o)) rfl trivial ?_
  refine Runs.brT (decide_eq_true ((N_lt (a := 0) (b := sc + 1) (by omega) (by omega)).mpr (by omega))) ?_
  refine Runs.topI 5 (cs := []) (pc' := 24) (pl' := [some (.ref 0)]) (v := (N (sc + 1)) - (N 1)) (v' := N sc) (st' := [.ref 0]) (h' := (KP X cl (S 0) (pk (CX S)) (S 61) (S 62) sn sg sv cd ln pe pr ba fo us fr (sc + 1) hs m o)) rfl trivial (NS (by omega)) ?_
  refine Runs.go 8 (cs := [vp_in (N sc) 6]) (pc' := 40) (pl' := [some (.ref 0)]) (st' := [va_rf (sg (N sc).toNatClampNeg), .ref 1]) (h' := (KP X cl (S 0) (pk (CX S)) (S 61) (S 62) sn sg sv cd ln pe pr ba fo us fr sc hs m o)) rfl ⟨(N_in (by omega) (by decide)), trivial⟩ ?_
  rw [show va_rf (sg (N sc).toNatClampNeg) = Value.ref 21 from by rw [N_tc (by omega), hsg]; rfl]
  have hcb := c_copy_undo5 (X := X) (cl := aN cl) (cn := N (S 0)) (cx := L (pk (CX S))) (ma := N (S 61)) (ru := N (S 62)) (sn := sn) (sg := sg) (sv := sv) (cd := aN cd) (ln := N ln) (pe := L pe) (pr := N pr) (ba := aN ba) (fo := N fo) (us := L us) (fr := bI fr) (sc := N sc) (hs := bI hs) (m := m) (o := o)
  rw [hsv] at hcb
  rw [show cp12 ((g, N sc2, L sx2, N sa2, N sr2) : SV).1 (aN cl) = aN F from hF] at hcb
  refine Runs.cal (y := mX3_copyFrom) (as := [.ref 1, .ref 21]) (rest := []) (pc' := 43) (cs := []) (v := none) (h1 := (KP X F sc2 sx2 sa2 sr2 sn sg sv cd ln pe pr ba fo us fr sc hs m o)) rfl trivial (by decide) (hcb) ?_
  show Runs _ _ 43 _ [] _ _ _ _
  refine Runs.go 6 (cs := [(N 0 : Int32) = 0 ∨ (N 0 : Int32) = 1]) (pc' := 55) (pl' := [some (.ref 0)]) (st' := [.int (N sc)]) (h' := (KP X F sc2 sx2 sa2 sr2 sn sg sv cd ln pe pr ba fo us false sc hs m o)) rfl ⟨(Or.inl rfl), trivial⟩ ?_
  exact Runs.retE (cs := []) rfl trivial (retI rfl) rfl
theorem c_undo0 {X : Nat × (Nat → Int32)} {S : Nat → Nat} {cl : Nat → Nat} {sn : SV} {r : Nat} {sv : Nat → SV} {cd : Nat → Nat} {ln pe pr : Nat} {ba : Nat → Nat} {fo us : Nat} {fr : Bool} {sc : Nat} {hs : Bool} {m : MT} {o : Nat → Int64} {g : Nat → Int32} {sc2 sx2 sa2 sr2 : Nat} {F : Nat → Nat} (hr : r < 6) (hsc : sc < 6) (hsv : sv ((r + sc) % 6) = (g, N sc2, L sx2, N sa2, N sr2)) (hF : cp12 g (aN cl) = aN F) : Call 1 mX6_undo [.ref 0] (KP X cl (S 0) (pk (CX S)) (S 61) (S 62) sn (sgR r) sv cd ln pe pr ba fo us fr (sc + 1) hs m o) (.inl (some (.int (N sc)))) (KP X F sc2 sx2 sa2 sr2 sn (sgR r) sv cd ln pe pr ba fo us false sc hs m o) 0 := by
  rcases (show (r + sc) % 6 = 0 ∨ (r + sc) % 6 = 1 ∨ (r + sc) % 6 = 2 ∨ (r + sc) % 6 = 3 ∨ (r + sc) % 6 = 4 ∨ (r + sc) % 6 = 5 by omega) with h | h | h | h | h | h
  · rw [h] at hsv
    exact c_undo_0 (fr := fr) hsc (sgR_at hsc h) hsv hF
  · rw [h] at hsv
    exact c_undo_1 (fr := fr) hsc (sgR_at hsc h) hsv hF
  · rw [h] at hsv
    exact c_undo_2 (fr := fr) hsc (sgR_at hsc h) hsv hF
  · rw [h] at hsv
    exact c_undo_3 (fr := fr) hsc (sgR_at hsc h) hsv hF
  · rw [h] at hsv
    exact c_undo_4 (fr := fr) hsc (sgR_at hsc h) hsv hF
  · rw [h] at hsv
    exact c_undo_5 (fr := fr) hsc (sgR_at hsc h) hsv hF
theorem c_clues {X : Nat × (Nat → Int32)} {S : Nat → Nat} {cl : Nat → Nat} {sn : SV} {sg : Nat → Option Nat} {sv : Nat → SV} {cd : Nat → Nat} {ln pe pr : Nat} {ba : Nat → Nat} {fo us : Nat} {fr : Bool} {sc : Nat} {hs : Bool} {m : MT} {o : Nat → Int64} : Call 0 mX6_clues [.ref 0] (KP X cl (S 0) (pk (CX S)) (S 61) (S 62) sn sg sv cd ln pe pr ba fo us fr sc hs m o) (.inl (some (.int (N (S 0))))) (KP X cl (S 0) (pk (CX S)) (S 61) (S 62) sn sg sv cd ln pe pr ba fo us fr sc hs m o) 0 := by
  refine Runs.go 3 (cs := []) (pc' := 7) (pl' := [some (.ref 0)]) (st' := [.int (N (S 0))]) (h' := (KP X cl (S 0) (pk (CX S)) (S 61) (S 62) sn sg sv cd ln pe pr ba fo us fr sc hs m o)) rfl trivial ?_
  exact Runs.retE (cs := []) rfl trivial (retI rfl) rfl
theorem ecl_lt {S : Nat → Nat} {k : Nat} (hV : VC S) (hk : k < S 0) : ecl S k < 1048576 := by
  have h12 := hV.2.1
  have a1 := hV.1 (4 * k + 1) (by omega)
  have a2 := hV.1 (4 * k + 2) (by omega)
  have a3 := hV.1 (4 * k + 3) (by omega)
  have a4 := hV.1 (4 * k + 4) (by omega)
  unfold ecl
  split
  · exact enc_lt a1 a2 (by omega) (by omega) a3
  · refine enc_lt a1 a2 a3 ?_ (by omega)
    split
    · exact a4
    · decide
theorem ecl_s {S : Nat → Nat} {k : Nat} (hV : VC S) (hk : k < S 0) : ecl S k % 16 = S (4 * k + 1) := by
  have a1 := hV.1 (4 * k + 1) (by have := hV.2.1; omega)
  unfold ecl
  split <;> exact enc_s a1
def onI (v : Nat) : Int32 := if v = 15 then -1 else N v
theorem ecl_i {S : Nat → Nat} {k p : Nat} (hV : VC S) (hk : k < S 0) (hp : p < 3) : onI (itC (ecl S k) p) = itmI S k p := by
  have h12 := hV.2.1
  obtain ⟨c1, hx, c3, c4, c5⟩ := hV.2.2 k hk
  have a1 := hV.1 (4 * k + 1) (by omega)
  have a4 := hV.1 (4 * k + 4) (by omega)
  have on : ∀ v, v < 12 → onI v = N v := fun v hv => if_neg (by omega)
  rcases (show p = 0 ∨ p = 1 ∨ p = 2 by omega) with rfl | rfl | rfl
  · have e : itmI S k 0 = N (S (4 * k + 2)) := rfl
    rw [e]
    unfold ecl
    split
    · rw [enc_x a1 (by omega), on _ hx]
    · rw [enc_x a1 (by omega), on _ hx]
  · unfold ecl
    by_cases h : S (4 * k + 1) = 4 ∨ S (4 * k + 1) = 5
    · have e : itmI S k 1 = -1 := by
        unfold itmI hasP
        rcases h with h | h <;> rw [h] <;> rfl
      rw [e, if_pos h, enc_y a1 (by omega) (by omega)]
      rfl
    · obtain ⟨hy, -⟩ := c4 (fun z => h (Or.inl z)) (fun z => h (Or.inr z))
      have e : itmI S k 1 = N (S (4 * k + 3)) := by
        unfold itmI hasP
        rw [decide_eq_false (fun z => h (Or.inl z)), decide_eq_false (fun z => h (Or.inr z))]
        rfl
      rw [e, if_neg h, enc_y a1 (by omega) (by omega), on _ hy]
  · unfold ecl
    by_cases h : S (4 * k + 1) = 4 ∨ S (4 * k + 1) = 5
    · have e : itmI S k 2 = -1 := by
        unfold itmI hasP
        rcases h with h | h <;> rw [h] <;> rfl
      rw [e, if_pos h, enc_z a1 (by omega) (by omega) (by omega)]
      rfl
    · obtain ⟨hy, -⟩ := c4 (fun z => h (Or.inl z)) (fun z => h (Or.inr z))
      by_cases h6 : S (4 * k + 1) = 6
      · obtain ⟨hz, -⟩ := c5 h6
        have e : itmI S k 2 = N (S (4 * k + 4)) := by
          unfold itmI hasP
          rw [h6]
          rfl
        rw [e, if_neg h, if_pos h6, enc_z a1 (by omega) (by omega) (by omega), on _ hz]
      · have e : itmI S k 2 = -1 := by
          unfold itmI hasP
          rw [decide_eq_false h6]
          rfl
        rw [e, if_neg h, if_neg h6, enc_z a1 (by omega) (by omega) (by omega)]
        rfl
theorem ecl_p {S : Nat → Nat} {k : Nat} (hV : VC S) (hk : k < S 0) : onI (ecl S k / 65536 % 16) = plI S k := by
  have h12 := hV.2.1
  obtain ⟨c1, hx, c3, c4, c5⟩ := hV.2.2 k hk
  have a1 := hV.1 (4 * k + 1) (by omega)
  have a3 := hV.1 (4 * k + 3) (by omega)
  have a4 := hV.1 (4 * k + 4) (by omega)
  unfold ecl plI
  by_cases h : S (4 * k + 1) = 4 ∨ S (4 * k + 1) = 5
  · have hp := c3 h
    rw [if_pos h, if_pos h, enc_p a1 (by omega) (by omega) (by omega) a3]
    exact if_neg (by omega)
  · rw [if_neg h, if_neg h, enc_p a1 (by omega) a3 (by split <;> omega) (by omega)]
    rfl
theorem c_sortOf1 {X : Nat × (Nat → Int32)} {S : Nat → Nat} {cl : Nat → Nat} {sn : SV} {sg : Nat → Option Nat} {sv : Nat → SV} {cd : Nat → Nat} {ln pe pr : Nat} {ba : Nat → Nat} {fo us : Nat} {fr : Bool} {sc : Nat} {hs : Bool} {m : MT} {o : Nat → Int64} {v : Int32} (h12 : S 0 ≤ 12) (hb : ¬ inB v (N 0) (N (S 0) - N 1) = true) : Call 4 mX6_sortOf [.ref 0, .int v] (KP X cl (S 0) (pk (CX S)) (S 61) (S 62) sn sg sv cd ln pe pr ba fo us fr sc hs m o) (.inr "java/lang/IndexOutOfBoundsException") (KP X cl (S 0) (pk (CX S)) (S 61) (S 62) sn sg sv cd ln pe pr ba fo us fr sc hs m o) 1 := by
  refine Runs.go 2 (cs := []) (pc' := 2) (pl' := [some (.ref 0), some (.int v)]) (st' := [.int v, .ref 0]) (h' := (KP X cl (S 0) (pk (CX S)) (S 61) (S 62) sn sg sv cd ln pe pr ba fo us fr sc hs m o)) rfl trivial ?_
  refine Runs.callX (y := mX6_requireClue) (as := [.ref 0, .int v]) (rest := []) (pc' := 5) (cs := []) rfl trivial (by decide) (c_reqClue1 (by omega) hb) rfl rfl
theorem c_sortOf0 {X : Nat × (Nat → Int32)} {S : Nat → Nat} {cl : Nat → Nat} {sn : SV} {sg : Nat → Option Nat} {sv : Nat → SV} {cd : Nat → Nat} {ln pe pr : Nat} {ba : Nat → Nat} {fo us : Nat} {fr : Bool} {sc : Nat} {hs : Bool} {m : MT} {o : Nat → Int64} {k : Nat} (hk : k < S 0) (hV : VC S) (hcl : ∀ k, k < S 0 → cl k = ecl S k) : Call 4 mX6_sortOf [.ref 0, .int (N k)] (KP X cl (S 0) (pk (CX S)) (S 61) (S 62) sn sg sv cd ln pe pr ba fo us fr sc hs m o) (.inl (some (.int (N (S (4 * k + 1)))))) (KP X cl (S 0) (pk (CX S)) (S 61) (S 62) sn sg sv cd ln pe pr ba fo us fr sc hs m o) 0 := by
  have h12 := hV.2.1
  refine Runs.go 2 (cs := []) (pc' := 2) (pl' := [some (.ref 0), some (.int (N k))]) (st' := [.int (N k), .ref 0]) (h' := (KP X cl (S 0) (pk (CX S)) (S 61) (S 62) sn sg sv cd ln pe pr ba fo us fr sc hs m o)) rfl trivial ?_
  refine Runs.cal (y := mX6_requireClue) (as := [.ref 0, .int (N k)]) (rest := []) (pc' := 5) (cs := []) (v := none) (h1 := (KP X cl (S 0) (pk (CX S)) (S 61) (S 62) sn sg sv cd ln pe pr ba fo us fr sc hs m o)) rfl trivial (by decide) (c_reqClue0 (by omega) (by omega)) ?_
  show Runs _ _ 5 _ [] _ _ _ _
  refine Runs.topI 5 (cs := [vp_in (N k) 12]) (pc' := 14) (pl' := [some (.ref 0), some (.int (N k))]) (v := aN cl (N k).toNatClampNeg) (v' := N (ecl S k)) (st' := []) (h' := (KP X cl (S 0) (pk (CX S)) (S 61) (S 62) sn sg sv cd ln pe pr ba fo us fr sc hs m o)) rfl ⟨(N_in (by omega) (by decide)), trivial⟩ ((aN_at (by omega)).trans (congrArg N (hcl k (by omega)))) ?_
  refine Runs.cal (y := mX0_sort) (as := [.int (N (ecl S k))]) (rest := []) (pc' := 17) (cs := []) (v := some (.int (N ((ecl S k) % 16)))) (h1 := (KP X cl (S 0) (pk (CX S)) (S 61) (S 62) sn sg sv cd ln pe pr ba fo us fr sc hs m o)) rfl trivial (by decide) (c_sort) ?_
  show Runs _ _ 17 _ [.int (N ((ecl S k) % 16))] _ _ _ _
  rw [show N ((ecl S k) % 16) = N (S (4 * k + 1)) from congrArg N (ecl_s hV hk)]
  exact Runs.retE (cs := []) rfl trivial (retI rfl) rfl
theorem c_orNone {v : Nat} {h : PH} (hv : v < 16) : Call 0 mX6_orNone [.int (N v)] h (.inl (some (.int (onI v)))) h 0 := by
  refine Runs.go 3 (cs := []) (pc' := bif decide (¬ (N v) = (N 15)) then 10 else 6) (pl' := [some (.int (N v))]) (st' := []) (h' := h) rfl trivial ?_
  refine Runs.br (fun z1 => ?_) (fun z1 => ?_)
  · replace z1 : ¬ (v = 15) := mt (N_eq (a := v) (b := 15) (by omega) (by omega)).mpr (of_decide_eq_true z1)
    refine Runs.go 1 (cs := []) (pc' := 11) (pl' := [some (.int (N v))]) (st' := [.int (N v)]) (h' := h) rfl trivial ?_
    refine Runs.retE (cs := []) rfl trivial (retI ?_) rfl
    exact if_neg z1
  · replace z1 : v = 15 := (N_eq (a := v) (b := 15) (by omega) (by omega)).mp (Classical.not_not.mp (of_decide_eq_false z1))
    refine Runs.go 2 (cs := []) (pc' := 11) (pl' := [some (.int (N v))]) (st' := [.int (-1 : Int32)]) (h' := h) rfl trivial ?_
    refine Runs.retE (cs := []) rfl trivial (retI ?_) rfl
    exact if_pos z1
theorem c_itemOf1a {X : Nat × (Nat → Int32)} {S : Nat → Nat} {cl : Nat → Nat} {sn : SV} {sg : Nat → Option Nat} {sv : Nat → SV} {cd : Nat → Nat} {ln pe pr : Nat} {ba : Nat → Nat} {fo us : Nat} {fr : Bool} {sc : Nat} {hs : Bool} {m : MT} {o : Nat → Int64} {p : Int32} {v : Int32} (h12 : S 0 ≤ 12) (hb : ¬ inB v (N 0) (N (S 0) - N 1) = true) : Call 4 mX6_itemOf [.ref 0, .int v, .int p] (KP X cl (S 0) (pk (CX S)) (S 61) (S 62) sn sg sv cd ln pe pr ba fo us fr sc hs m o) (.inr "java/lang/IndexOutOfBoundsException") (KP X cl (S 0) (pk (CX S)) (S 61) (S 62) sn sg sv cd ln pe pr ba fo us fr sc hs m o) 1 := by
  refine Runs.go 2 (cs := []) (pc' := 2) (pl' := [some (.ref 0), some (.int v), some (.int p)]) (st' := [.int v, .ref 0]) (h' := (KP X cl (S 0) (pk (CX S)) (S 61) (S 62) sn sg sv cd ln pe pr ba fo us fr sc hs m o)) rfl trivial ?_
  refine Runs.callX (y := mX6_requireClue) (as := [.ref 0, .int v]) (rest := []) (pc' := 5) (cs := []) rfl trivial (by decide) (c_reqClue1 (by omega) hb) rfl rfl
theorem c_itemOf1b {X : Nat × (Nat → Int32)} {S : Nat → Nat} {cl : Nat → Nat} {sn : SV} {sg : Nat → Option Nat} {sv : Nat → SV} {cd : Nat → Nat} {ln pe pr : Nat} {ba : Nat → Nat} {fo us : Nat} {fr : Bool} {sc : Nat} {hs : Bool} {m : MT} {o : Nat → Int64} {k : Nat} {p : Int32} (hk : k < S 0) (h12 : S 0 ≤ 12) (hb : ¬ inB p (N 0) (N 2) = true) : Call 4 mX6_itemOf [.ref 0, .int (N k), .int p] (KP X cl (S 0) (pk (CX S)) (S 61) (S 62) sn sg sv cd ln pe pr ba fo us fr sc hs m o) (.inr "java/lang/IndexOutOfBoundsException") (KP X cl (S 0) (pk (CX S)) (S 61) (S 62) sn sg sv cd ln pe pr ba fo us fr sc hs m o) 1 := by
  refine Runs.go 2 (cs := []) (pc' := 2) (pl' := [some (.ref 0), some (.int (N k)), some (.int p)]) (st' := [.int (N k), .ref 0]) (h' := (KP X cl (S 0) (pk (CX S)) (S 61) (S 62) sn sg sv cd ln pe pr ba fo us fr sc hs m o)) rfl trivial ?_
  refine Runs.cal (y := mX6_requireClue) (as := [.ref 0, .int (N k)]) (rest := []) (pc' := 5) (cs := []) (v := none) (h1 := (KP X cl (S 0) (pk (CX S)) (S 61) (S 62) sn sg sv cd ln pe pr ba fo us fr sc hs m o)) rfl trivial (by decide) (c_reqClue0 (by omega) (by omega)) ?_
  show Runs _ _ 5 _ [] _ _ _ _
  refine Runs.go 2 (cs := []) (pc' := bif decide (p < 0) then 14 else 9) (pl' := [some (.ref 0), some (.int (N k)), some (.int p)]) (st' := []) (h' := (KP X cl (S 0) (pk (CX S)) (S 61) (S 62) sn sg sv cd ln pe pr ba fo us fr sc hs m o)) rfl trivial ?_
  refine Runs.br (fun z1 => ?_) (fun z1 => ?_)
  · replace z1 : p < 0 := Iff.rfl.mp (of_decide_eq_true z1)
    exact Runs.thr (cs := []) rfl trivial
  · replace z1 : ¬ (p < 0) := mt Iff.rfl.mpr (of_decide_eq_false z1)
    refine Runs.go 3 (cs := []) (pc' := bif decide (p < (N 3)) then 24 else 14) (pl' := [some (.ref 0), some (.int (N k)), some (.int p)]) (st' := []) (h' := (KP X cl (S 0) (pk (CX S)) (S 61) (S 62) sn sg sv cd ln pe pr ba fo us fr sc hs m o)) rfl trivial ?_
    refine Runs.brF (decide_eq_false (fun zq9 => absurd (Iff.rfl.mp zq9) (Int32.not_lt.mpr (inB_out (by omega) hb z1)))) ?_
    exact Runs.thr (cs := []) rfl trivial
theorem c_itemOf0 {X : Nat × (Nat → Int32)} {S : Nat → Nat} {cl : Nat → Nat} {sn : SV} {sg : Nat → Option Nat} {sv : Nat → SV} {cd : Nat → Nat} {ln pe pr : Nat} {ba : Nat → Nat} {fo us : Nat} {fr : Bool} {sc : Nat} {hs : Bool} {m : MT} {o : Nat → Int64} {p : Nat} (hp : p < 3) {k : Nat} (hk : k < S 0) (hV : VC S) (hcl : ∀ k, k < S 0 → cl k = ecl S k) : Call 4 mX6_itemOf [.ref 0, .int (N k), .int (N p)] (KP X cl (S 0) (pk (CX S)) (S 61) (S 62) sn sg sv cd ln pe pr ba fo us fr sc hs m o) (.inl (some (.int (itmI S k p)))) (KP X cl (S 0) (pk (CX S)) (S 61) (S 62) sn sg sv cd ln pe pr ba fo us fr sc hs m o) 0 := by
  have h12 := hV.2.1
  refine Runs.go 2 (cs := []) (pc' := 2) (pl' := [some (.ref 0), some (.int (N k)), some (.int (N p))]) (st' := [.int (N k), .ref 0]) (h' := (KP X cl (S 0) (pk (CX S)) (S 61) (S 62) sn sg sv cd ln pe pr ba fo us fr sc hs m o)) rfl trivial ?_
  refine Runs.cal (y := mX6_requireClue) (as := [.ref 0, .int (N k)]) (rest := []) (pc' := 5) (cs := []) (v := none) (h1 := (KP X cl (S 0) (pk (CX S)) (S 61) (S 62) sn sg sv cd ln pe pr ba fo us fr sc hs m o)) rfl trivial (by decide) (c_reqClue0 (by omega) (by omega)) ?_
  show Runs _ _ 5 _ [] _ _ _ _
  refine Runs.go 2 (cs := []) (pc' := bif decide ((N p) < 0) then 14 else 9) (pl' := [some (.ref 0), some (.int (N k)), some (.int (N p))]) (st' := []) (h' := (KP X cl (S 0) (pk (CX S)) (S 61) (S 62) sn sg sv cd ln pe pr ba fo us fr sc hs m o)) rfl trivial ?_
  refine Runs.brF (decide_eq_false (fun zq9 => absurd ((N_lt (a := p) (b := 0) (by omega) (by omega)).mp zq9) (by omega))) ?_
  refine Runs.go 3 (cs := []) (pc' := bif decide ((N p) < (N 3)) then 24 else 14) (pl' := [some (.ref 0), some (.int (N k)), some (.int (N p))]) (st' := []) (h' := (KP X cl (S 0) (pk (CX S)) (S 61) (S 62) sn sg sv cd ln pe pr ba fo us fr sc hs m o)) rfl trivial ?_
  refine Runs.brT (decide_eq_true ((N_lt (a := p) (b := 3) (by omega) (by omega)).mpr (by omega))) ?_
  refine Runs.topI 5 (cs := [vp_in (N k) 12]) (pc' := 33) (pl' := [some (.ref 0), some (.int (N k)), some (.int (N p))]) (v := aN cl (N k).toNatClampNeg) (v' := N (ecl S k)) (st' := []) (h' := (KP X cl (S 0) (pk (CX S)) (S 61) (S 62) sn sg sv cd ln pe pr ba fo us fr sc hs m o)) rfl ⟨(N_in (by omega) (by decide)), trivial⟩ ((aN_at (by omega)).trans (congrArg N (hcl k (by omega)))) ?_
  refine Runs.go 1 (cs := []) (pc' := 34) (pl' := [some (.ref 0), some (.int (N k)), some (.int (N p))]) (st' := [.int (N p), .int (N (ecl S k))]) (h' := (KP X cl (S 0) (pk (CX S)) (S 61) (S 62) sn sg sv cd ln pe pr ba fo us fr sc hs m o)) rfl trivial ?_
  refine Runs.cal (y := mX0_item) (as := [.int (N (ecl S k)), .int (N p)]) (rest := []) (pc' := 37) (cs := []) (v := some (.int (N (itC (ecl S k) p)))) (h1 := (KP X cl (S 0) (pk (CX S)) (S 61) (S 62) sn sg sv cd ln pe pr ba fo us fr sc hs m o)) rfl trivial (by decide) (c_item (ecl_lt hV hk) hp) ?_
  show Runs _ _ 37 _ [.int (N (itC (ecl S k) p))] _ _ _ _
  refine Runs.cal (y := mX6_orNone) (as := [.int (N (itC (ecl S k) p))]) (rest := []) (pc' := 40) (cs := []) (v := some (.int (onI (itC (ecl S k) p)))) (h1 := (KP X cl (S 0) (pk (CX S)) (S 61) (S 62) sn sg sv cd ln pe pr ba fo us fr sc hs m o)) rfl trivial (by decide) (c_orNone (it_16 _ _)) ?_
  show Runs _ _ 40 _ [.int (onI (itC (ecl S k) p))] _ _ _ _
  rw [ecl_i hV hk hp]
  exact Runs.retE (cs := []) rfl trivial (retI rfl) rfl
theorem c_placeOf1 {X : Nat × (Nat → Int32)} {S : Nat → Nat} {cl : Nat → Nat} {sn : SV} {sg : Nat → Option Nat} {sv : Nat → SV} {cd : Nat → Nat} {ln pe pr : Nat} {ba : Nat → Nat} {fo us : Nat} {fr : Bool} {sc : Nat} {hs : Bool} {m : MT} {o : Nat → Int64} {v : Int32} (h12 : S 0 ≤ 12) (hb : ¬ inB v (N 0) (N (S 0) - N 1) = true) : Call 4 mX6_placeOf [.ref 0, .int v] (KP X cl (S 0) (pk (CX S)) (S 61) (S 62) sn sg sv cd ln pe pr ba fo us fr sc hs m o) (.inr "java/lang/IndexOutOfBoundsException") (KP X cl (S 0) (pk (CX S)) (S 61) (S 62) sn sg sv cd ln pe pr ba fo us fr sc hs m o) 1 := by
  refine Runs.go 2 (cs := []) (pc' := 2) (pl' := [some (.ref 0), some (.int v)]) (st' := [.int v, .ref 0]) (h' := (KP X cl (S 0) (pk (CX S)) (S 61) (S 62) sn sg sv cd ln pe pr ba fo us fr sc hs m o)) rfl trivial ?_
  refine Runs.callX (y := mX6_requireClue) (as := [.ref 0, .int v]) (rest := []) (pc' := 5) (cs := []) rfl trivial (by decide) (c_reqClue1 (by omega) hb) rfl rfl
theorem c_placeOf0 {X : Nat × (Nat → Int32)} {S : Nat → Nat} {cl : Nat → Nat} {sn : SV} {sg : Nat → Option Nat} {sv : Nat → SV} {cd : Nat → Nat} {ln pe pr : Nat} {ba : Nat → Nat} {fo us : Nat} {fr : Bool} {sc : Nat} {hs : Bool} {m : MT} {o : Nat → Int64} {k : Nat} (hk : k < S 0) (hV : VC S) (hcl : ∀ k, k < S 0 → cl k = ecl S k) : Call 4 mX6_placeOf [.ref 0, .int (N k)] (KP X cl (S 0) (pk (CX S)) (S 61) (S 62) sn sg sv cd ln pe pr ba fo us fr sc hs m o) (.inl (some (.int (plI S k)))) (KP X cl (S 0) (pk (CX S)) (S 61) (S 62) sn sg sv cd ln pe pr ba fo us fr sc hs m o) 0 := by
  have h12 := hV.2.1
  refine Runs.go 2 (cs := []) (pc' := 2) (pl' := [some (.ref 0), some (.int (N k))]) (st' := [.int (N k), .ref 0]) (h' := (KP X cl (S 0) (pk (CX S)) (S 61) (S 62) sn sg sv cd ln pe pr ba fo us fr sc hs m o)) rfl trivial ?_
  refine Runs.cal (y := mX6_requireClue) (as := [.ref 0, .int (N k)]) (rest := []) (pc' := 5) (cs := []) (v := none) (h1 := (KP X cl (S 0) (pk (CX S)) (S 61) (S 62) sn sg sv cd ln pe pr ba fo us fr sc hs m o)) rfl trivial (by decide) (c_reqClue0 (by omega) (by omega)) ?_
  show Runs _ _ 5 _ [] _ _ _ _
  refine Runs.topI 5 (cs := [vp_in (N k) 12]) (pc' := 14) (pl' := [some (.ref 0), some (.int (N k))]) (v := aN cl (N k).toNatClampNeg) (v' := N (ecl S k)) (st' := []) (h' := (KP X cl (S 0) (pk (CX S)) (S 61) (S 62) sn sg sv cd ln pe pr ba fo us fr sc hs m o)) rfl ⟨(N_in (by omega) (by decide)), trivial⟩ ((aN_at (by omega)).trans (congrArg N (hcl k (by omega)))) ?_
  refine Runs.cal (y := mX0_place) (as := [.int (N (ecl S k))]) (rest := []) (pc' := 17) (cs := []) (v := some (.int (N (ecl S k / 65536 % 16)))) (h1 := (KP X cl (S 0) (pk (CX S)) (S 61) (S 62) sn sg sv cd ln pe pr ba fo us fr sc hs m o)) rfl trivial (by decide) (c_place (ecl_lt hV hk)) ?_
  show Runs _ _ 17 _ [.int (N (ecl S k / 65536 % 16))] _ _ _ _
  refine Runs.cal (y := mX6_orNone) (as := [.int (N (ecl S k / 65536 % 16))]) (rest := []) (pc' := 20) (cs := []) (v := some (.int (onI (ecl S k / 65536 % 16)))) (h1 := (KP X cl (S 0) (pk (CX S)) (S 61) (S 62) sn sg sv cd ln pe pr ba fo us fr sc hs m o)) rfl trivial (by decide) (c_orNone (Nat.mod_lt _ (by decide))) ?_
  show Runs _ _ 20 _ [.int (onI (ecl S k / 65536 % 16))] _ _ _ _
  rw [ecl_p hV hk]
  exact Runs.retE (cs := []) rfl trivial (retI rfl) rfl
theorem c_isCrossed1a {X : Nat × (Nat → Int32)} {S : Nat → Nat} {cl : Nat → Nat} {sn : SV} {sg : Nat → Option Nat} {sv : Nat → SV} {cd : Nat → Nat} {ln pe pr : Nat} {ba : Nat → Nat} {fo us : Nat} {fr : Bool} {sc : Nat} {hs : Bool} {m : MT} {o : Nat → Int64} {a b : Int32} (hb : ¬ inB a (N 0) (N 11) = true) : Call 4 mX6_isCrossed [.ref 0, .int a, .int b] (KP X cl (S 0) (pk (CX S)) (S 61) (S 62) sn sg sv cd ln pe pr ba fo us fr sc hs m o) (.inr "java/lang/IndexOutOfBoundsException") (KP X cl (S 0) (pk (CX S)) (S 61) (S 62) sn sg sv cd ln pe pr ba fo us fr sc hs m o) 1 := by
  refine Runs.go 1 (cs := []) (pc' := 1) (pl' := [some (.ref 0), some (.int a), some (.int b)]) (st' := [.int a]) (h' := (KP X cl (S 0) (pk (CX S)) (S 61) (S 62) sn sg sv cd ln pe pr ba fo us fr sc hs m o)) rfl trivial ?_
  refine Runs.callX (y := mX6_requireItem) (as := [.int a]) (rest := []) (pc' := 4) (cs := []) rfl trivial (by decide) (c_reqItem1 hb) rfl rfl
theorem c_isCrossed1b {X : Nat × (Nat → Int32)} {S : Nat → Nat} {cl : Nat → Nat} {sn : SV} {sg : Nat → Option Nat} {sv : Nat → SV} {cd : Nat → Nat} {ln pe pr : Nat} {ba : Nat → Nat} {fo us : Nat} {fr : Bool} {sc : Nat} {hs : Bool} {m : MT} {o : Nat → Int64} {x : Nat} {b : Int32} (hx : x ≤ 11) (hb : ¬ inB b (N 0) (N 3) = true) : Call 4 mX6_isCrossed [.ref 0, .int (N x), .int b] (KP X cl (S 0) (pk (CX S)) (S 61) (S 62) sn sg sv cd ln pe pr ba fo us fr sc hs m o) (.inr "java/lang/IndexOutOfBoundsException") (KP X cl (S 0) (pk (CX S)) (S 61) (S 62) sn sg sv cd ln pe pr ba fo us fr sc hs m o) 1 := by
  refine Runs.go 1 (cs := []) (pc' := 1) (pl' := [some (.ref 0), some (.int (N x)), some (.int b)]) (st' := [.int (N x)]) (h' := (KP X cl (S 0) (pk (CX S)) (S 61) (S 62) sn sg sv cd ln pe pr ba fo us fr sc hs m o)) rfl trivial ?_
  refine Runs.cal (y := mX6_requireItem) (as := [.int (N x)]) (rest := []) (pc' := 4) (cs := []) (v := none) (h1 := (KP X cl (S 0) (pk (CX S)) (S 61) (S 62) sn sg sv cd ln pe pr ba fo us fr sc hs m o)) rfl trivial (by decide) (c_reqItem0 (by omega)) ?_
  show Runs _ _ 4 _ [] _ _ _ _
  refine Runs.go 1 (cs := []) (pc' := 5) (pl' := [some (.ref 0), some (.int (N x)), some (.int b)]) (st' := [.int b]) (h' := (KP X cl (S 0) (pk (CX S)) (S 61) (S 62) sn sg sv cd ln pe pr ba fo us fr sc hs m o)) rfl trivial ?_
  refine Runs.callX (y := mX6_requirePlace) (as := [.int b]) (rest := []) (pc' := 8) (cs := []) rfl trivial (by decide) (c_reqPlace1 hb) rfl rfl
theorem c_isCrossed1 {X : Nat × (Nat → Int32)} {S : Nat → Nat} {cl : Nat → Nat} {sn : SV} {sg : Nat → Option Nat} {sv : Nat → SV} {cd : Nat → Nat} {ln pe pr : Nat} {ba : Nat → Nat} {fo us : Nat} {fr : Bool} {sc : Nat} {hs : Bool} {m : MT} {o : Nat → Int64} {a b : Int32} (h : ¬ (inB a (N 0) (N 11) = true ∧ inB b (N 0) (N 3) = true)) : Call 4 mX6_isCrossed [.ref 0, .int a, .int b] (KP X cl (S 0) (pk (CX S)) (S 61) (S 62) sn sg sv cd ln pe pr ba fo us fr sc hs m o) (.inr "java/lang/IndexOutOfBoundsException") (KP X cl (S 0) (pk (CX S)) (S 61) (S 62) sn sg sv cd ln pe pr ba fo us fr sc hs m o) 1 := by
  by_cases ha : inB a (N 0) (N 11) = true
  · obtain ⟨x, hx, rfl⟩ := inB_ex (by omega) ha
    exact c_isCrossed1b hx (fun z => h ⟨ha, z⟩)
  · exact c_isCrossed1a ha
theorem c_itemOf1 {X : Nat × (Nat → Int32)} {S : Nat → Nat} {cl : Nat → Nat} {sn : SV} {sg : Nat → Option Nat} {sv : Nat → SV} {cd : Nat → Nat} {ln pe pr : Nat} {ba : Nat → Nat} {fo us : Nat} {fr : Bool} {sc : Nat} {hs : Bool} {m : MT} {o : Nat → Int64} {v p : Int32} (h12 : S 0 ≤ 12) (h : ¬ (inB v (N 0) (N (S 0) - N 1) = true ∧ inB p (N 0) (N 2) = true)) : Call 4 mX6_itemOf [.ref 0, .int v, .int p] (KP X cl (S 0) (pk (CX S)) (S 61) (S 62) sn sg sv cd ln pe pr ba fo us fr sc hs m o) (.inr "java/lang/IndexOutOfBoundsException") (KP X cl (S 0) (pk (CX S)) (S 61) (S 62) sn sg sv cd ln pe pr ba fo us fr sc hs m o) 1 := by
  by_cases ha : inB v (N 0) (N (S 0) - N 1) = true
  · obtain ⟨x, hx, rfl⟩ := inC_ex h12 ha
    exact c_itemOf1b hx h12 (fun z => h ⟨ha, z⟩)
  · exact c_itemOf1a h12 ha
theorem c_isCrossed0 {X : Nat × (Nat → Int32)} {S : Nat → Nat} {cl : Nat → Nat} {sn : SV} {sg : Nat → Option Nat} {sv : Nat → SV} {cd : Nat → Nat} {ln pe pr : Nat} {ba : Nat → Nat} {fo us : Nat} {fr : Bool} {sc : Nat} {hs : Bool} {m : MT} {o : Nat → Int64} {x y : Nat} (hV : VC S) (hx : x ≤ 11) (hy : y ≤ 3) : Call 4 mX6_isCrossed [.ref 0, .int (N x), .int (N y)] (KP X cl (S 0) (pk (CX S)) (S 61) (S 62) sn sg sv cd ln pe pr ba fo us fr sc hs m o) (.inl (some (.int (bI (bt (CX S x) y))))) (KP X cl (S 0) (pk (CX S)) (S 61) (S 62) sn sg sv cd ln pe pr ba fo us fr sc hs m o) 0 := by
  refine Runs.go 1 (cs := []) (pc' := 1) (pl' := [some (.ref 0), some (.int (N x)), some (.int (N y))]) (st' := [.int (N x)]) (h' := (KP X cl (S 0) (pk (CX S)) (S 61) (S 62) sn sg sv cd ln pe pr ba fo us fr sc hs m o)) rfl trivial ?_
  refine Runs.cal (y := mX6_requireItem) (as := [.int (N x)]) (rest := []) (pc' := 4) (cs := []) (v := none) (h1 := (KP X cl (S 0) (pk (CX S)) (S 61) (S 62) sn sg sv cd ln pe pr ba fo us fr sc hs m o)) rfl trivial (by decide) (c_reqItem0 (by omega)) ?_
  show Runs _ _ 4 _ [] _ _ _ _
  refine Runs.go 1 (cs := []) (pc' := 5) (pl' := [some (.ref 0), some (.int (N x)), some (.int (N y))]) (st' := [.int (N y)]) (h' := (KP X cl (S 0) (pk (CX S)) (S 61) (S 62) sn sg sv cd ln pe pr ba fo us fr sc hs m o)) rfl trivial ?_
  refine Runs.cal (y := mX6_requirePlace) (as := [.int (N y)]) (rest := []) (pc' := 8) (cs := []) (v := none) (h1 := (KP X cl (S 0) (pk (CX S)) (S 61) (S 62) sn sg sv cd ln pe pr ba fo us fr sc hs m o)) rfl trivial (by decide) (c_reqPlace0 (by omega)) ?_
  show Runs _ _ 8 _ [] _ _ _ _
  refine Runs.go 5 (cs := []) (pc' := 17) (pl' := [some (.ref 0), some (.int (N x)), some (.int (N y))]) (st' := [.int (N y), .int (N x), .long (L (pk (CX S)))]) (h' := (KP X cl (S 0) (pk (CX S)) (S 61) (S 62) sn sg sv cd ln pe pr ba fo us fr sc hs m o)) rfl trivial ?_
  refine Runs.cal (y := mX1_has) (as := [.long (L (pk (CX S))), .int (N x), .int (N y)]) (rest := []) (pc' := 20) (cs := []) (v := some (.int (bI (bt (pk (CX S)) (4 * x + y))))) (h1 := (KP X cl (S 0) (pk (CX S)) (S 61) (S 62) sn sg sv cd ln pe pr ba fo us fr sc hs m o)) rfl trivial (by decide) (c_has (zk_lt (CX_16 hV)) (by omega) (by omega)) ?_
  show Runs _ _ 20 _ [.int (bI (bt (pk (CX S)) (4 * x + y)))] _ _ _ _
  rw [zk_bt (CX_16 hV) (by omega) (by omega)]
  exact Runs.retE (cs := [(bI (bt (CX S x) y) : Int32) = 0 ∨ (bI (bt (CX S x) y) : Int32) = 1]) rfl ⟨(bI_01 _), trivial⟩ (retI rfl) rfl
theorem crN_s (S : Nat → Nat) (t : Nat) : crN S (t + 1) = crN S t + pc4 (S (t + 49)) := rfl
theorem CX_at {S : Nat → Nat} {t : Nat} (h : t < 12) : CX S t = S (t + 49) := if_pos h
theorem c_crosses {X : Nat × (Nat → Int32)} {S : Nat → Nat} {cl : Nat → Nat} {sn : SV} {sg : Nat → Option Nat} {sv : Nat → SV} {cd : Nat → Nat} {ln pe pr : Nat} {ba : Nat → Nat} {fo us : Nat} {fr : Bool} {sc : Nat} {hs : Bool} {m : MT} {o : Nat → Int64} (hV : VC S) : Call 2 mX6_crosses [.ref 0] (KP X cl (S 0) (pk (CX S)) (S 61) (S 62) sn sg sv cd ln pe pr ba fo us fr sc hs m o) (.inl (some (.int (N (crN S 12))))) (KP X cl (S 0) (pk (CX S)) (S 61) (S 62) sn sg sv cd ln pe pr ba fo us fr sc hs m o) 0 := by
  refine Runs.go 4 (cs := []) (pc' := 4) (pl' := [some (.ref 0), some (.int (N 0)), some (.int (N 0))]) (st' := []) (h' := (KP X cl (S 0) (pk (CX S)) (S 61) (S 62) sn sg sv cd ln pe pr ba fo us fr sc hs m o)) rfl trivial ?_
  refine Runs.wk (pl' := [some (.ref 0), some (.int (N (crN S 0))), some (.int (N 0))]) (st' := []) (h' := (KP X cl (S 0) (pk (CX S)) (S 61) (S 62) sn sg sv cd ln pe pr ba fo us fr sc hs m o)) ⟨Or.inr rfl, Or.inr rfl, Or.inr rfl, trivial⟩ rfl rfl ?_
  refine Runs.loopN (fun t => [some (.ref 0), some (.int (N (crN S t))), some (.int (N t))]) (fun t => (KP X cl (S 0) (pk (CX S)) (S 61) (S 62) sn sg sv cd ln pe pr ba fo us fr sc hs m o)) (fun t => True) 12 trivial (fun t ht I1 K1 => ?_) (fun I1 => ?_)
  · show Runs _ _ 4 [some (.ref 0), some (.int (N (crN S t))), some (.int (N t))] [] (KP X cl (S 0) (pk (CX S)) (S 61) (S 62) sn sg sv cd ln pe pr ba fo us fr sc hs m o) _ _ _
    have hcn := crN_le S t
    have hp4 := pc4_le (S (t + 49))
    refine Runs.go 3 (cs := []) (pc' := bif decide ((N 12) ≤ (N t)) then 27 else 10) (pl' := [some (.ref 0), some (.int (N (crN S t))), some (.int (N t))]) (st' := []) (h' := (KP X cl (S 0) (pk (CX S)) (S 61) (S 62) sn sg sv cd ln pe pr ba fo us fr sc hs m o)) rfl trivial ?_
    refine Runs.brF (decide_eq_false (fun zq9 => absurd ((N_le (a := 12) (b := t) (by omega) (by omega)).mp zq9) (by omega))) ?_
    refine Runs.go 4 (cs := []) (pc' := 16) (pl' := [some (.ref 0), some (.int (N (crN S t))), some (.int (N t))]) (st' := [.int (N t), .ref 1, .int (N (crN S t))]) (h' := (KP X cl (S 0) (pk (CX S)) (S 61) (S 62) sn sg sv cd ln pe pr ba fo us fr sc hs m o)) rfl trivial ?_
    refine Runs.cal (y := mX3_crossesOf) (as := [.ref 1, .int (N t)]) (rest := [.int (N (crN S t))]) (pc' := 19) (cs := []) (v := some (.int (N (pc4 (CX S t))))) (h1 := (KP X cl (S 0) (pk (CX S)) (S 61) (S 62) sn sg sv cd ln pe pr ba fo us fr sc hs m o)) rfl trivial (by decide) (c_crossesOf hV (by omega)) ?_
    show Runs _ _ 19 _ [.int (N (pc4 (CX S t))), .int (N (crN S t))] _ _ _ _
    rw [show N (pc4 (CX S t)) = N (pc4 (S (t + 49))) by rw [CX_at (by omega)]]
    refine Runs.topI 1 (cs := []) (pc' := 20) (pl' := [some (.ref 0), some (.int (N (crN S t))), some (.int (N t))]) (v := (N (crN S t)) + (N (pc4 (S (t + 49))))) (v' := N (crN S t + pc4 (S (t + 49)))) (st' := []) (h' := (KP X cl (S 0) (pk (CX S)) (S 61) (S 62) sn sg sv cd ln pe pr ba fo us fr sc hs m o)) rfl trivial (NA (by omega)) ?_
    refine Runs.goL 2 (cs := []) (pc' := 24) (pl1 := [some (.ref 0), some (.int (N (crN S t + pc4 (S (t + 49))))), some (.int (N t + N 1))]) (pl' := [some (.ref 0), some (.int (N (crN S t + pc4 (S (t + 49))))), some (.int (N (t + 1)))]) (st' := []) (h' := (KP X cl (S 0) (pk (CX S)) (S 61) (S 62) sn sg sv cd ln pe pr ba fo us fr sc hs m o)) rfl trivial (congrArg (fun zq9 => ([some (.ref 0), some (.int (N (crN S t + pc4 (S (t + 49))))), some (.int zq9)] : PL)) (NA (by omega))) ?_
    refine Runs.go 1 (cs := []) (pc' := 4) (pl' := [some (.ref 0), some (.int (N (crN S t + pc4 (S (t + 49))))), some (.int (N (t + 1)))]) (st' := []) (h' := (KP X cl (S 0) (pk (CX S)) (S 61) (S 62) sn sg sv cd ln pe pr ba fo us fr sc hs m o)) rfl trivial ?_
    exact Runs.wk (pl' := [some (.ref 0), some (.int (N (crN S (t + 1)))), some (.int (N (t + 1)))]) (st' := []) (h' := (KP X cl (S 0) (pk (CX S)) (S 61) (S 62) sn sg sv cd ln pe pr ba fo us fr sc hs m o)) ⟨Or.inr rfl, Or.inr (congrArg (fun zq9 => some (Value.int zq9)) (congrArg N (crN_s S t))), Or.inr rfl, trivial⟩ rfl rfl (K1 trivial)
  · show Runs _ _ 4 _ [] _ _ _ _
    show Runs _ _ 4 [some (.ref 0), some (.int (N (crN S 12))), some (.int (N 12))] [] (KP X cl (S 0) (pk (CX S)) (S 61) (S 62) sn sg sv cd ln pe pr ba fo us fr sc hs m o) _ _ _
    refine Runs.go 3 (cs := []) (pc' := bif decide ((N 12) ≤ (N 12)) then 27 else 10) (pl' := [some (.ref 0), some (.int (N (crN S 12))), some (.int (N 12))]) (st' := []) (h' := (KP X cl (S 0) (pk (CX S)) (S 61) (S 62) sn sg sv cd ln pe pr ba fo us fr sc hs m o)) rfl trivial ?_
    refine Runs.brT (decide_eq_true (by decide)) ?_
    refine Runs.go 1 (cs := []) (pc' := 28) (pl' := [some (.ref 0), some (.int (N (crN S 12))), some (.int (N 12))]) (st' := [.int (N (crN S 12))]) (h' := (KP X cl (S 0) (pk (CX S)) (S 61) (S 62) sn sg sv cd ln pe pr ba fo us fr sc hs m o)) rfl trivial ?_
    exact Runs.retE (cs := []) rfl trivial (retI rfl) rfl
theorem c_crossesByAccount {X : Nat × (Nat → Int32)} {S : Nat → Nat} {cl : Nat → Nat} {sn : SV} {sg : Nat → Option Nat} {sv : Nat → SV} {cd : Nat → Nat} {ln pe pr : Nat} {ba : Nat → Nat} {fo us : Nat} {fr : Bool} {sc : Nat} {hs : Bool} {m : MT} {o : Nat → Int64} : Call 0 mX6_crossesByAccount [.ref 0] (KP X cl (S 0) (pk (CX S)) (S 61) (S 62) sn sg sv cd ln pe pr ba fo us fr sc hs m o) (.inl (some (.int (N (S 61) - N (S 62))))) (KP X cl (S 0) (pk (CX S)) (S 61) (S 62) sn sg sv cd ln pe pr ba fo us fr sc hs m o) 0 := by
  refine Runs.topI 7 (cs := []) (pc' := 15) (pl' := [some (.ref 0)]) (v := (N (S 61)) - (N (S 62))) (v' := N (S 61) - N (S 62)) (st' := []) (h' := (KP X cl (S 0) (pk (CX S)) (S 61) (S 62) sn sg sv cd ln pe pr ba fo us fr sc hs m o)) rfl trivial rfl ?_
  exact Runs.retE (cs := []) rfl trivial (retI rfl) rfl
theorem c_made {X : Nat × (Nat → Int32)} {S : Nat → Nat} {cl : Nat → Nat} {sn : SV} {sg : Nat → Option Nat} {sv : Nat → SV} {cd : Nat → Nat} {ln pe pr : Nat} {ba : Nat → Nat} {fo us : Nat} {fr : Bool} {sc : Nat} {hs : Bool} {m : MT} {o : Nat → Int64} : Call 0 mX6_made [.ref 0] (KP X cl (S 0) (pk (CX S)) (S 61) (S 62) sn sg sv cd ln pe pr ba fo us fr sc hs m o) (.inl (some (.int (N (S 61))))) (KP X cl (S 0) (pk (CX S)) (S 61) (S 62) sn sg sv cd ln pe pr ba fo us fr sc hs m o) 0 := by
  refine Runs.go 3 (cs := []) (pc' := 7) (pl' := [some (.ref 0)]) (st' := [.int (N (S 61))]) (h' := (KP X cl (S 0) (pk (CX S)) (S 61) (S 62) sn sg sv cd ln pe pr ba fo us fr sc hs m o)) rfl trivial ?_
  exact Runs.retE (cs := []) rfl trivial (retI rfl) rfl
theorem c_left1 {X : Nat × (Nat → Int32)} {S : Nat → Nat} {cl : Nat → Nat} {sn : SV} {sg : Nat → Option Nat} {sv : Nat → SV} {cd : Nat → Nat} {ln pe pr : Nat} {ba : Nat → Nat} {fo us : Nat} {fr : Bool} {sc : Nat} {hs : Bool} {m : MT} {o : Nat → Int64} {a : Int32} (hb : ¬ inB a (N 0) (N 11) = true) : Call 6 mX6_left [.ref 0, .int a] (KP X cl (S 0) (pk (CX S)) (S 61) (S 62) sn sg sv cd ln pe pr ba fo us fr sc hs m o) (.inr "java/lang/IndexOutOfBoundsException") (KP X cl (S 0) (pk (CX S)) (S 61) (S 62) sn sg sv cd ln pe pr ba fo us fr sc hs m o) 1 := by
  refine Runs.go 1 (cs := []) (pc' := 1) (pl' := [some (.ref 0), some (.int a)]) (st' := [.int a]) (h' := (KP X cl (S 0) (pk (CX S)) (S 61) (S 62) sn sg sv cd ln pe pr ba fo us fr sc hs m o)) rfl trivial ?_
  refine Runs.callX (y := mX6_requireItem) (as := [.int a]) (rest := []) (pc' := 4) (cs := []) rfl trivial (by decide) (c_reqItem1 hb) rfl rfl
theorem c_left0 {X : Nat × (Nat → Int32)} {S : Nat → Nat} {cl : Nat → Nat} {sn : SV} {sg : Nat → Option Nat} {sv : Nat → SV} {cd : Nat → Nat} {ln pe pr : Nat} {ba : Nat → Nat} {fo us : Nat} {fr : Bool} {sc : Nat} {hs : Bool} {m : MT} {o : Nat → Int64} {x : Nat} (hx : x ≤ 11) (hV : VC S) (hcl : ∀ k, k < S 0 → cl k = ecl S k) : Call 6 mX6_left [.ref 0, .int (N x)] (KP X cl (S 0) (pk (CX S)) (S 61) (S 62) sn sg sv cd ln pe pr ba fo us fr sc hs m o) (.inl (some (.int (N (LE S x))))) (KP X cl (S 0) (pk (CX S)) (S 61) (S 62) sn sg sv cd ln (pk (PRP S)) (TRP S) ba fo us fr sc hs m o) 0 := by
  refine Runs.go 1 (cs := []) (pc' := 1) (pl' := [some (.ref 0), some (.int (N x))]) (st' := [.int (N x)]) (h' := (KP X cl (S 0) (pk (CX S)) (S 61) (S 62) sn sg sv cd ln pe pr ba fo us fr sc hs m o)) rfl trivial ?_
  refine Runs.cal (y := mX6_requireItem) (as := [.int (N x)]) (rest := []) (pc' := 4) (cs := []) (v := none) (h1 := (KP X cl (S 0) (pk (CX S)) (S 61) (S 62) sn sg sv cd ln pe pr ba fo us fr sc hs m o)) rfl trivial (by decide) (c_reqItem0 (by omega)) ?_
  show Runs _ _ 4 _ [] _ _ _ _
  refine Runs.go 1 (cs := []) (pc' := 5) (pl' := [some (.ref 0), some (.int (N x))]) (st' := [.ref 0]) (h' := (KP X cl (S 0) (pk (CX S)) (S 61) (S 62) sn sg sv cd ln pe pr ba fo us fr sc hs m o)) rfl trivial ?_
  refine Runs.cal (y := mX6_leftAtEnd) (as := [.ref 0]) (rest := []) (pc' := 8) (cs := []) (v := some (.long (L (pk (LE S))))) (h1 := (KP X cl (S 0) (pk (CX S)) (S 61) (S 62) sn sg sv cd ln (pk (PRP S)) (TRP S) ba fo us fr sc hs m o)) rfl trivial (by decide) (c_leftAtEnd hV hcl) ?_
  show Runs _ _ 8 _ [.long (L (pk (LE S)))] _ _ _ _
  refine Runs.go 1 (cs := []) (pc' := 9) (pl' := [some (.ref 0), some (.int (N x))]) (st' := [.int (N x), .long (L (pk (LE S)))]) (h' := (KP X cl (S 0) (pk (CX S)) (S 61) (S 62) sn sg sv cd ln (pk (PRP S)) (TRP S) ba fo us fr sc hs m o)) rfl trivial ?_
  refine Runs.cal (y := mX1_placesOf) (as := [.long (L (pk (LE S))), .int (N x)]) (rest := []) (pc' := 12) (cs := []) (v := some (.int (N (LE S x)))) (h1 := (KP X cl (S 0) (pk (CX S)) (S 61) (S 62) sn sg sv cd ln (pk (PRP S)) (TRP S) ba fo us fr sc hs m o)) rfl trivial (by decide) (c_placesOf (LE_16 S) (LE_z S) (by omega)) ?_
  show Runs _ _ 12 _ [.int (N (LE S x))] _ _ _ _
  exact Runs.retE (cs := []) rfl trivial (retI rfl) rfl
theorem c_leftByTurns1 {X : Nat × (Nat → Int32)} {S : Nat → Nat} {cl : Nat → Nat} {sn : SV} {sg : Nat → Option Nat} {sv : Nat → SV} {cd : Nat → Nat} {ln pe pr : Nat} {ba : Nat → Nat} {fo us : Nat} {fr : Bool} {sc : Nat} {hs : Bool} {m : MT} {o : Nat → Int64} {a : Int32} (hb : ¬ inB a (N 0) (N 11) = true) : Call 6 mX6_leftByTurns [.ref 0, .int a] (KP X cl (S 0) (pk (CX S)) (S 61) (S 62) sn sg sv cd ln pe pr ba fo us fr sc hs m o) (.inr "java/lang/IndexOutOfBoundsException") (KP X cl (S 0) (pk (CX S)) (S 61) (S 62) sn sg sv cd ln pe pr ba fo us fr sc hs m o) 1 := by
  refine Runs.go 1 (cs := []) (pc' := 1) (pl' := [some (.ref 0), some (.int a)]) (st' := [.int a]) (h' := (KP X cl (S 0) (pk (CX S)) (S 61) (S 62) sn sg sv cd ln pe pr ba fo us fr sc hs m o)) rfl trivial ?_
  refine Runs.callX (y := mX6_requireItem) (as := [.int a]) (rest := []) (pc' := 4) (cs := []) rfl trivial (by decide) (c_reqItem1 hb) rfl rfl
theorem c_leftByTurns0 {X : Nat × (Nat → Int32)} {S : Nat → Nat} {cl : Nat → Nat} {sn : SV} {sg : Nat → Option Nat} {sv : Nat → SV} {cd : Nat → Nat} {ln pe pr : Nat} {ba : Nat → Nat} {fo us : Nat} {fr : Bool} {sc : Nat} {hs : Bool} {m : MT} {o : Nat → Int64} {x : Nat} (hx : x ≤ 11) (hV : VC S) (hcl : ∀ k, k < S 0 → cl k = ecl S k) : Call 6 mX6_leftByTurns [.ref 0, .int (N x)] (KP X cl (S 0) (pk (CX S)) (S 61) (S 62) sn sg sv cd ln pe pr ba fo us fr sc hs m o) (.inl (some (.int (N (LE S x))))) (KP X cl (S 0) (pk (CX S)) (S 61) (S 62) sn sg sv cd ln pe pr ba fo us fr sc hs m o) 0 := by
  refine Runs.go 1 (cs := []) (pc' := 1) (pl' := [some (.ref 0), some (.int (N x))]) (st' := [.int (N x)]) (h' := (KP X cl (S 0) (pk (CX S)) (S 61) (S 62) sn sg sv cd ln pe pr ba fo us fr sc hs m o)) rfl trivial ?_
  refine Runs.cal (y := mX6_requireItem) (as := [.int (N x)]) (rest := []) (pc' := 4) (cs := []) (v := none) (h1 := (KP X cl (S 0) (pk (CX S)) (S 61) (S 62) sn sg sv cd ln pe pr ba fo us fr sc hs m o)) rfl trivial (by decide) (c_reqItem0 (by omega)) ?_
  show Runs _ _ 4 _ [] _ _ _ _
  refine Runs.go 1 (cs := []) (pc' := 5) (pl' := [some (.ref 0), some (.int (N x))]) (st' := [.ref 0]) (h' := (KP X cl (S 0) (pk (CX S)) (S 61) (S 62) sn sg sv cd ln pe pr ba fo us fr sc hs m o)) rfl trivial ?_
  refine Runs.cal (y := mX6_leftAtEndByTurns) (as := [.ref 0]) (rest := []) (pc' := 8) (cs := []) (v := some (.long (L (pk (LE S))))) (h1 := (KP X cl (S 0) (pk (CX S)) (S 61) (S 62) sn sg sv cd ln pe pr ba fo us fr sc hs m o)) rfl trivial (by decide) (c_leftAtEndByTurns hV hcl) ?_
  show Runs _ _ 8 _ [.long (L (pk (LE S)))] _ _ _ _
  refine Runs.go 1 (cs := []) (pc' := 9) (pl' := [some (.ref 0), some (.int (N x))]) (st' := [.int (N x), .long (L (pk (LE S)))]) (h' := (KP X cl (S 0) (pk (CX S)) (S 61) (S 62) sn sg sv cd ln pe pr ba fo us fr sc hs m o)) rfl trivial ?_
  refine Runs.cal (y := mX1_placesOf) (as := [.long (L (pk (LE S))), .int (N x)]) (rest := []) (pc' := 12) (cs := []) (v := some (.int (N (LE S x)))) (h1 := (KP X cl (S 0) (pk (CX S)) (S 61) (S 62) sn sg sv cd ln pe pr ba fo us fr sc hs m o)) rfl trivial (by decide) (c_placesOf (LE_16 S) (LE_z S) (by omega)) ?_
  show Runs _ _ 12 _ [.int (N (LE S x))] _ _ _ _
  exact Runs.retE (cs := []) rfl trivial (retI rfl) rfl
theorem c_rounds {X : Nat × (Nat → Int32)} {S : Nat → Nat} {cl : Nat → Nat} {sn : SV} {sg : Nat → Option Nat} {sv : Nat → SV} {cd : Nat → Nat} {ln pe pr : Nat} {ba : Nat → Nat} {fo us : Nat} {fr : Bool} {sc : Nat} {hs : Bool} {m : MT} {o : Nat → Int64} (hV : VC S) (hcl : ∀ k, k < S 0 → cl k = ecl S k) : Call 5 mX6_rounds [.ref 0] (KP X cl (S 0) (pk (CX S)) (S 61) (S 62) sn sg sv cd ln pe pr ba fo us fr sc hs m o) (.inl (some (.int (N (TRP S))))) (KP X cl (S 0) (pk (CX S)) (S 61) (S 62) sn sg sv cd ln (pk (PRP S)) (TRP S) ba fo us fr sc hs m o) 0 := by
  refine Runs.go 4 (cs := []) (pc' := 8) (pl' := [some (.ref 0)]) (st' := [.ref 1, .ref 8]) (h' := (KP X cl (S 0) (pk (CX S)) (S 61) (S 62) sn sg sv cd ln pe pr ba fo us fr sc hs m o)) rfl trivial ?_
  refine Runs.cal (y := mX2_run) (as := [.ref 8, .ref 1]) (rest := []) (pc' := 11) (cs := []) (v := none) (h1 := (KP X cl (S 0) (pk (CX S)) (S 61) (S 62) sn sg sv cd ln (pk (PRP S)) (TRP S) ba fo us fr sc hs m o)) rfl trivial (by decide) (c_run hV hcl) ?_
  show Runs _ _ 11 _ [] _ _ _ _
  refine Runs.go 3 (cs := []) (pc' := 18) (pl' := [some (.ref 0)]) (st' := [.int (N (TRP S))]) (h' := (KP X cl (S 0) (pk (CX S)) (S 61) (S 62) sn sg sv cd ln (pk (PRP S)) (TRP S) ba fo us fr sc hs m o)) rfl trivial ?_
  exact Runs.retE (cs := []) rfl trivial (retI rfl) rfl
theorem c_isContradiction {X : Nat × (Nat → Int32)} {S : Nat → Nat} {cl : Nat → Nat} {sn : SV} {sg : Nat → Option Nat} {sv : Nat → SV} {cd : Nat → Nat} {ln pe pr : Nat} {ba : Nat → Nat} {fo us : Nat} {fr : Bool} {sc : Nat} {hs : Bool} {m : MT} {o : Nat → Int64} (hV : VC S) (hcl : ∀ k, k < S 0 → cl k = ecl S k) : Call 5 mX6_isContradiction [.ref 0] (KP X cl (S 0) (pk (CX S)) (S 61) (S 62) sn sg sv cd ln pe pr ba fo us fr sc hs m o) (.inl (some (.int (bI (conF (PRP S)))))) (KP X cl (S 0) (pk (CX S)) (S 61) (S 62) sn sg sv cd ln (pk (PRP S)) (TRP S) ba fo us fr sc hs m o) 0 := by
  refine Runs.go 4 (cs := []) (pc' := 8) (pl' := [some (.ref 0)]) (st' := [.ref 1, .ref 8]) (h' := (KP X cl (S 0) (pk (CX S)) (S 61) (S 62) sn sg sv cd ln pe pr ba fo us fr sc hs m o)) rfl trivial ?_
  refine Runs.cal (y := mX2_run) (as := [.ref 8, .ref 1]) (rest := []) (pc' := 11) (cs := []) (v := none) (h1 := (KP X cl (S 0) (pk (CX S)) (S 61) (S 62) sn sg sv cd ln (pk (PRP S)) (TRP S) ba fo us fr sc hs m o)) rfl trivial (by decide) (c_run hV hcl) ?_
  show Runs _ _ 11 _ [] _ _ _ _
  refine Runs.go 3 (cs := []) (pc' := 18) (pl' := [some (.ref 0)]) (st' := [.long (L (pk (PRP S)))]) (h' := (KP X cl (S 0) (pk (CX S)) (S 61) (S 62) sn sg sv cd ln (pk (PRP S)) (TRP S) ba fo us fr sc hs m o)) rfl trivial ?_
  refine Runs.cal (y := mX1_isContradictory) (as := [.long (L (pk (PRP S)))]) (rest := []) (pc' := 21) (cs := []) (v := some (.int (bI (conF (PRP S))))) (h1 := (KP X cl (S 0) (pk (CX S)) (S 61) (S 62) sn sg sv cd ln (pk (PRP S)) (TRP S) ba fo us fr sc hs m o)) rfl trivial (by decide) (c_isContradictory (PRP_16 S)) ?_
  show Runs _ _ 21 _ [.int (bI (conF (PRP S)))] _ _ _ _
  exact Runs.retE (cs := [(bI (conF (PRP S)) : Int32) = 0 ∨ (bI (conF (PRP S)) : Int32) = 1]) rfl ⟨(bI_01 _), trivial⟩ (retI rfl) rfl
theorem c_fixedAt1 {X : Nat × (Nat → Int32)} {S : Nat → Nat} {cl : Nat → Nat} {sn : SV} {sg : Nat → Option Nat} {sv : Nat → SV} {cd : Nat → Nat} {ln pe pr : Nat} {ba : Nat → Nat} {fo us : Nat} {fr : Bool} {sc : Nat} {hs : Bool} {m : MT} {o : Nat → Int64} {a : Int32} (hb : ¬ inB a (N 0) (N 11) = true) : Call 6 mX6_fixedAt [.ref 0, .int a] (KP X cl (S 0) (pk (CX S)) (S 61) (S 62) sn sg sv cd ln pe pr ba fo us fr sc hs m o) (.inr "java/lang/IndexOutOfBoundsException") (KP X cl (S 0) (pk (CX S)) (S 61) (S 62) sn sg sv cd ln pe pr ba fo us fr sc hs m o) 1 := by
  refine Runs.go 1 (cs := []) (pc' := 1) (pl' := [some (.ref 0), some (.int a)]) (st' := [.int a]) (h' := (KP X cl (S 0) (pk (CX S)) (S 61) (S 62) sn sg sv cd ln pe pr ba fo us fr sc hs m o)) rfl trivial ?_
  refine Runs.callX (y := mX6_requireItem) (as := [.int a]) (rest := []) (pc' := 4) (cs := []) rfl trivial (by decide) (c_reqItem1 hb) rfl rfl
theorem c_fixedAt0 {X : Nat × (Nat → Int32)} {S : Nat → Nat} {cl : Nat → Nat} {sn : SV} {sg : Nat → Option Nat} {sv : Nat → SV} {cd : Nat → Nat} {ln pe pr : Nat} {ba : Nat → Nat} {fo us : Nat} {fr : Bool} {sc : Nat} {hs : Bool} {m : MT} {o : Nat → Int64} {x : Nat} (hx : x ≤ 11) (hV : VC S) (hcl : ∀ k, k < S 0 → cl k = ecl S k) : Call 6 mX6_fixedAt [.ref 0, .int (N x)] (KP X cl (S 0) (pk (CX S)) (S 61) (S 62) sn sg sv cd ln pe pr ba fo us fr sc hs m o) (.inl (some (.int (fxI (LE S x))))) (KP X cl (S 0) (pk (CX S)) (S 61) (S 62) sn sg sv cd ln (pk (PRP S)) (TRP S) ba fo us fr sc hs m o) 0 := by
  refine Runs.go 1 (cs := []) (pc' := 1) (pl' := [some (.ref 0), some (.int (N x))]) (st' := [.int (N x)]) (h' := (KP X cl (S 0) (pk (CX S)) (S 61) (S 62) sn sg sv cd ln pe pr ba fo us fr sc hs m o)) rfl trivial ?_
  refine Runs.cal (y := mX6_requireItem) (as := [.int (N x)]) (rest := []) (pc' := 4) (cs := []) (v := none) (h1 := (KP X cl (S 0) (pk (CX S)) (S 61) (S 62) sn sg sv cd ln pe pr ba fo us fr sc hs m o)) rfl trivial (by decide) (c_reqItem0 (by omega)) ?_
  show Runs _ _ 4 _ [] _ _ _ _
  refine Runs.go 1 (cs := []) (pc' := 5) (pl' := [some (.ref 0), some (.int (N x))]) (st' := [.ref 0]) (h' := (KP X cl (S 0) (pk (CX S)) (S 61) (S 62) sn sg sv cd ln pe pr ba fo us fr sc hs m o)) rfl trivial ?_
  refine Runs.cal (y := mX6_leftAtEnd) (as := [.ref 0]) (rest := []) (pc' := 8) (cs := []) (v := some (.long (L (pk (LE S))))) (h1 := (KP X cl (S 0) (pk (CX S)) (S 61) (S 62) sn sg sv cd ln (pk (PRP S)) (TRP S) ba fo us fr sc hs m o)) rfl trivial (by decide) (c_leftAtEnd hV hcl) ?_
  show Runs _ _ 8 _ [.long (L (pk (LE S)))] _ _ _ _
  refine Runs.go 1 (cs := []) (pc' := 9) (pl' := [some (.ref 0), some (.int (N x))]) (st' := [.int (N x), .long (L (pk (LE S)))]) (h' := (KP X cl (S 0) (pk (CX S)) (S 61) (S 62) sn sg sv cd ln (pk (PRP S)) (TRP S) ba fo us fr sc hs m o)) rfl trivial ?_
  refine Runs.cal (y := mX1_onlyPlaceOf) (as := [.long (L (pk (LE S))), .int (N x)]) (rest := []) (pc' := 12) (cs := []) (v := some (.int (fxI (LE S x)))) (h1 := (KP X cl (S 0) (pk (CX S)) (S 61) (S 62) sn sg sv cd ln (pk (PRP S)) (TRP S) ba fo us fr sc hs m o)) rfl trivial (by decide) (c_onlyPlaceOf (LE_16 S) (LE_z S) (by omega)) ?_
  show Runs _ _ 12 _ [.int (fxI (LE S x))] _ _ _ _
  exact Runs.retE (cs := []) rfl trivial (retI rfl) rfl
theorem c_fixedItems {X : Nat × (Nat → Int32)} {S : Nat → Nat} {cl : Nat → Nat} {sn : SV} {sg : Nat → Option Nat} {sv : Nat → SV} {cd : Nat → Nat} {ln pe pr : Nat} {ba : Nat → Nat} {fo us : Nat} {fr : Bool} {sc : Nat} {hs : Bool} {m : MT} {o : Nat → Int64} (hV : VC S) (hcl : ∀ k, k < S 0 → cl k = ecl S k) : Call 6 mX6_fixedItems [.ref 0] (KP X cl (S 0) (pk (CX S)) (S 61) (S 62) sn sg sv cd ln pe pr ba fo us fr sc hs m o) (.inl (some (.int (N (onesF (LE S)))))) (KP X cl (S 0) (pk (CX S)) (S 61) (S 62) sn sg sv cd ln (pk (PRP S)) (TRP S) ba fo us fr sc hs m o) 0 := by
  refine Runs.go 1 (cs := []) (pc' := 1) (pl' := [some (.ref 0)]) (st' := [.ref 0]) (h' := (KP X cl (S 0) (pk (CX S)) (S 61) (S 62) sn sg sv cd ln pe pr ba fo us fr sc hs m o)) rfl trivial ?_
  refine Runs.cal (y := mX6_leftAtEnd) (as := [.ref 0]) (rest := []) (pc' := 4) (cs := []) (v := some (.long (L (pk (LE S))))) (h1 := (KP X cl (S 0) (pk (CX S)) (S 61) (S 62) sn sg sv cd ln (pk (PRP S)) (TRP S) ba fo us fr sc hs m o)) rfl trivial (by decide) (c_leftAtEnd hV hcl) ?_
  show Runs _ _ 4 _ [.long (L (pk (LE S)))] _ _ _ _
  refine Runs.cal (y := mX1_countWithOne) (as := [.long (L (pk (LE S)))]) (rest := []) (pc' := 7) (cs := []) (v := some (.int (N (onesF (LE S))))) (h1 := (KP X cl (S 0) (pk (CX S)) (S 61) (S 62) sn sg sv cd ln (pk (PRP S)) (TRP S) ba fo us fr sc hs m o)) rfl trivial (by decide) (c_countWithOne (LE_16 S)) ?_
  show Runs _ _ 7 _ [.int (N (onesF (LE S)))] _ _ _ _
  exact Runs.retE (cs := []) rfl trivial (retI rfl) rfl
/-- what is ruled out first in the first round -/
def hnB (S : Nat → Nat) (k : Nat) : Bool := rld S (FR S) (k / 4) (k % 4)
def hnO (S : Nat → Nat) : Option Nat := fs (hnB S) 0 48
theorem fs_congr {f g : Nat → Bool} : ∀ (n i : Nat), (∀ k, i ≤ k → k < i + n → f k = g k) → fs f i n = fs g i n
  | 0, _, _ => rfl
  | n + 1, i, h => by
    rw [fs, fs, h i (Nat.le_refl _) (by omega), fs_congr n (i + 1) (fun k h1 h2 => h k (by omega) (by omega))]
theorem pk_btk {G : Nat → Nat} (hG : M16 G) {k : Nat} (hk : k < 48) : bt (pk G) k = bt (G (k / 4)) (k % 4) := by
  have := zk_bt hG (i := k / 4) (p := k % 4) (by omega) (by omega)
  rw [Nat.div_add_mod] at this
  exact this
theorem hn_ro {S : Nat → Nat} (h12 : S 0 ≤ 12) : fs (bt (pk (roN S (FR S) (S 0)))) 0 48 = hnO S := fs_congr 48 0 (fun k _ hk => by
  rw [pk_btk (roN_16 (FR_m16 S) _) (by omega), ro_rld (FR_m16 S) h12 (by omega) (by omega)]
  rfl)
theorem c_hint {X : Nat × (Nat → Int32)} {S : Nat → Nat} {cl : Nat → Nat} {sn : SV} {sg : Nat → Option Nat} {sv : Nat → SV} {cd : Nat → Nat} {ln pe pr : Nat} {ba : Nat → Nat} {fo us : Nat} {fr : Bool} {sc : Nat} {hs : Bool} {m : MT} {o : Nat → Int64} (hV : VC S) (hcl : ∀ k, k < S 0 → cl k = ecl S k) : Call 5 mX6_hint [.ref 0] (KP X cl (S 0) (pk (CX S)) (S 61) (S 62) sn sg sv cd ln pe pr ba fo us fr sc hs m o) (.inl (some (.int (optI (hnO S))))) (KP X cl (S 0) (pk (CX S)) (S 61) (S 62) sn sg sv cd ln pe pr ba fo us fr sc hs m o) 0 := by
  refine Runs.go 4 (cs := []) (pc' := 8) (pl' := [some (.ref 0)]) (st' := [.ref 1, .ref 1]) (h' := (KP X cl (S 0) (pk (CX S)) (S 61) (S 62) sn sg sv cd ln pe pr ba fo us fr sc hs m o)) rfl trivial ?_
  refine Runs.cal (y := mX2_leftAtFirst) (as := [.ref 1]) (rest := [.ref 1]) (pc' := 11) (cs := []) (v := some (.long (L (pk (FR S))))) (h1 := (KP X cl (S 0) (pk (CX S)) (S 61) (S 62) sn sg sv cd ln pe pr ba fo us fr sc hs m o)) rfl trivial (by decide) (c_leftAtFirst hV) ?_
  show Runs _ _ 11 _ [.long (L (pk (FR S))), .ref 1] _ _ _ _
  refine Runs.cal (y := mX2_ruledOut) (as := [.ref 1, .long (L (pk (FR S)))]) (rest := []) (pc' := 14) (cs := []) (v := some (.long (L (pk (roN S (FR S) (S 0)))))) (h1 := (KP X cl (S 0) (pk (CX S)) (S 61) (S 62) sn sg sv cd ln pe pr ba fo us fr sc hs m o)) rfl trivial (by decide) (c_ruledOutP hV hcl (FR_m16 S) (FR_z S)) ?_
  show Runs _ _ 14 _ [.long (L (pk (roN S (FR S) (S 0))))] _ _ _ _
  refine Runs.cal (y := mX1_leastBit) (as := [.long (L (pk (roN S (FR S) (S 0))))]) (rest := []) (pc' := 17) (cs := []) (v := some (.int (optI (fs (bt (pk (roN S (FR S) (S 0)))) 0 48)))) (h1 := (KP X cl (S 0) (pk (CX S)) (S 61) (S 62) sn sg sv cd ln pe pr ba fo us fr sc hs m o)) rfl trivial (by decide) (c_leastBit (zk_lt (roN_16 (FR_m16 S) _))) ?_
  show Runs _ _ 17 _ [.int (optI (fs (bt (pk (roN S (FR S) (S 0)))) 0 48))] _ _ _ _
  rw [show optI (fs (bt (pk (roN S (FR S) (S 0)))) 0 48) = optI (hnO S) by rw [hn_ro hV.2.1]]
  exact Runs.retE (cs := []) rfl trivial (retI rfl) rfl
theorem c_hintByN {X : Nat × (Nat → Int32)} {S : Nat → Nat} {cl : Nat → Nat} {sn : SV} {sg : Nat → Option Nat} {sv : Nat → SV} {cd : Nat → Nat} {ln pe pr : Nat} {ba : Nat → Nat} {fo us : Nat} {fr : Bool} {sc : Nat} {hs : Bool} {m : MT} {o : Nat → Int64} (hV : VC S) (hcl : ∀ k, k < S 0 → cl k = ecl S k) (hn : hnO S = none) : Call 5 mX6_hintBy [.ref 0] (KP X cl (S 0) (pk (CX S)) (S 61) (S 62) sn sg sv cd ln pe pr ba fo us fr sc hs m o) (.inl (some (.int (-1 : Int32)))) (KP X cl (S 0) (pk (CX S)) (S 61) (S 62) sn sg sv cd ln pe pr ba fo us fr sc hs m o) 0 := by
  refine Runs.go 2 (cs := []) (pc' := 4) (pl' := [some (.ref 0), none, none, none, none]) (st' := [.ref 1]) (h' := (KP X cl (S 0) (pk (CX S)) (S 61) (S 62) sn sg sv cd ln pe pr ba fo us fr sc hs m o)) rfl trivial ?_
  refine Runs.cal (y := mX2_leftAtFirst) (as := [.ref 1]) (rest := []) (pc' := 7) (cs := []) (v := some (.long (L (pk (FR S))))) (h1 := (KP X cl (S 0) (pk (CX S)) (S 61) (S 62) sn sg sv cd ln pe pr ba fo us fr sc hs m o)) rfl trivial (by decide) (c_leftAtFirst hV) ?_
  show Runs _ _ 7 _ [.long (L (pk (FR S)))] _ _ _ _
  refine Runs.go 4 (cs := []) (pc' := 13) (pl' := [some (.ref 0), some (.long (L (pk (FR S)))), none, none, none]) (st' := [.long (L (pk (FR S))), .ref 1]) (h' := (KP X cl (S 0) (pk (CX S)) (S 61) (S 62) sn sg sv cd ln pe pr ba fo us fr sc hs m o)) rfl trivial ?_
  refine Runs.cal (y := mX2_ruledOut) (as := [.ref 1, .long (L (pk (FR S)))]) (rest := []) (pc' := 16) (cs := []) (v := some (.long (L (pk (roN S (FR S) (S 0)))))) (h1 := (KP X cl (S 0) (pk (CX S)) (S 61) (S 62) sn sg sv cd ln pe pr ba fo us fr sc hs m o)) rfl trivial (by decide) (c_ruledOutP hV hcl (FR_m16 S) (FR_z S)) ?_
  show Runs _ _ 16 _ [.long (L (pk (roN S (FR S) (S 0))))] _ _ _ _
  refine Runs.cal (y := mX1_leastBit) (as := [.long (L (pk (roN S (FR S) (S 0))))]) (rest := []) (pc' := 19) (cs := []) (v := some (.int (optI (fs (bt (pk (roN S (FR S) (S 0)))) 0 48)))) (h1 := (KP X cl (S 0) (pk (CX S)) (S 61) (S 62) sn sg sv cd ln pe pr ba fo us fr sc hs m o)) rfl trivial (by decide) (c_leastBit (zk_lt (roN_16 (FR_m16 S) _))) ?_
  show Runs _ _ 19 _ [.int (optI (fs (bt (pk (roN S (FR S) (S 0)))) 0 48))] _ _ _ _
  rw [show optI (fs (bt (pk (roN S (FR S) (S 0)))) 0 48) = (-1 : Int32) by rw [hn_ro hV.2.1, hn]; rfl]
  refine Runs.go 4 (cs := []) (pc' := bif decide (¬ (-1 : Int32) = (-1 : Int32)) then 27 else 25) (pl' := [some (.ref 0), some (.long (L (pk (FR S)))), none, some (.int (-1 : Int32)), none]) (st' := []) (h' := (KP X cl (S 0) (pk (CX S)) (S 61) (S 62) sn sg sv cd ln pe pr ba fo us fr sc hs m o)) rfl trivial ?_
  refine Runs.brF (decide_eq_false (by decide)) ?_
  refine Runs.go 1 (cs := []) (pc' := 26) (pl' := [some (.ref 0), some (.long (L (pk (FR S)))), none, some (.int (-1 : Int32)), none]) (st' := [.int (-1 : Int32)]) (h' := (KP X cl (S 0) (pk (CX S)) (S 61) (S 62) sn sg sv cd ln pe pr ba fo us fr sc hs m o)) rfl trivial ?_
  exact Runs.retE (cs := []) rfl trivial (retI rfl) rfl
theorem ruC_btk {S : Nat → Nat} {t b : Nat} (hb : b < 48) (hh : hnB S b = true) : bt (pk (ruC S (FR S) t)) b = rul S (FR S) (b / 4) (b % 4) t := by
  unfold hnB rld at hh
  rw [Bool.and_eq_true] at hh
  rw [pk_btk (ruC_16 _ _ _) hb, ruC_bt (by omega) (by omega), hh.1, Bool.true_and]
theorem tak_btk {S : Nat → Nat} {b : Nat} (hb : b < 48) (hh : hnB S b = true) : bt (pk (takF (FR S))) b = aloN (FR S) (b / 4) (b % 4) 4 := by
  unfold hnB rld at hh
  rw [Bool.and_eq_true] at hh
  rw [pk_btk (tak_16 (FR_m16 S)) hb, tak_bt (FR_m16 S) (by omega) (by omega), hh.1, Bool.true_and]
theorem rbI_some {S f : Nat → Nat} {i p k : Nat} (h : fs (rul S f i p) 0 (S 0) = some k) : rbI S f i p = N k := by
  unfold rbI
  rw [h]
theorem rbI_alo {S f : Nat → Nat} {i p : Nat} (h : fs (rul S f i p) 0 (S 0) = none) (h2 : aloN f i p 4 = true) : rbI S f i p = N 12 := by
  unfold rbI
  rw [h]
  exact if_pos h2
theorem rbI_own {S f : Nat → Nat} {i p : Nat} (h : fs (rul S f i p) 0 (S 0) = none) (h2 : aloN f i p 4 = false) (h3 : rld S f i p = true) : rbI S f i p = N 13 := by
  unfold rld at h3
  rw [Bool.and_eq_true] at h3
  have h4 := h3.2
  unfold rbI at h4 ⊢
  rw [h] at h4 ⊢
  have hn : ¬ aloN f i p 4 = true := by rw [h2]; decide
  have e : rbT f i p = if ¬ ownN f i p = 0 then N 13 else -1 := if_neg hn
  show rbT f i p = N 13
  have h5 : (!decide (rbT f i p = -1)) = true := h4
  rw [e] at h5 ⊢
  by_cases ho : ownN f i p = 0
  · rw [if_neg (not_not_intro ho)] at h5
    exact absurd h5 (by decide)
  · exact if_pos ho
theorem c_hintByS {X : Nat × (Nat → Int32)} {S : Nat → Nat} {cl : Nat → Nat} {sn : SV} {sg : Nat → Option Nat} {sv : Nat → SV} {cd : Nat → Nat} {ln pe pr : Nat} {ba : Nat → Nat} {fo us : Nat} {fr : Bool} {sc : Nat} {hs : Bool} {m : MT} {o : Nat → Int64} {b : Nat} (hV : VC S) (hcl : ∀ k, k < S 0 → cl k = ecl S k) (hn : hnO S = some b) (hb : b < 48) (hh : hnB S b = true) : Call 5 mX6_hintBy [.ref 0] (KP X cl (S 0) (pk (CX S)) (S 61) (S 62) sn sg sv cd ln pe pr ba fo us fr sc hs m o) (.inl (some (.int (rbI S (FR S) (b / 4) (b % 4))))) (KP X cl (S 0) (pk (CX S)) (S 61) (S 62) sn sg sv cd ln pe pr ba fo us fr sc hs m o) 0 := by
  have h12 := hV.2.1
  refine Runs.go 2 (cs := []) (pc' := 4) (pl' := [some (.ref 0), none, none, none, none]) (st' := [.ref 1]) (h' := (KP X cl (S 0) (pk (CX S)) (S 61) (S 62) sn sg sv cd ln pe pr ba fo us fr sc hs m o)) rfl trivial ?_
  refine Runs.cal (y := mX2_leftAtFirst) (as := [.ref 1]) (rest := []) (pc' := 7) (cs := []) (v := some (.long (L (pk (FR S))))) (h1 := (KP X cl (S 0) (pk (CX S)) (S 61) (S 62) sn sg sv cd ln pe pr ba fo us fr sc hs m o)) rfl trivial (by decide) (c_leftAtFirst hV) ?_
  show Runs _ _ 7 _ [.long (L (pk (FR S)))] _ _ _ _
  refine Runs.go 4 (cs := []) (pc' := 13) (pl' := [some (.ref 0), some (.long (L (pk (FR S)))), none, none, none]) (st' := [.long (L (pk (FR S))), .ref 1]) (h' := (KP X cl (S 0) (pk (CX S)) (S 61) (S 62) sn sg sv cd ln pe pr ba fo us fr sc hs m o)) rfl trivial ?_
  refine Runs.cal (y := mX2_ruledOut) (as := [.ref 1, .long (L (pk (FR S)))]) (rest := []) (pc' := 16) (cs := []) (v := some (.long (L (pk (roN S (FR S) (S 0)))))) (h1 := (KP X cl (S 0) (pk (CX S)) (S 61) (S 62) sn sg sv cd ln pe pr ba fo us fr sc hs m o)) rfl trivial (by decide) (c_ruledOutP hV hcl (FR_m16 S) (FR_z S)) ?_
  show Runs _ _ 16 _ [.long (L (pk (roN S (FR S) (S 0))))] _ _ _ _
  refine Runs.cal (y := mX1_leastBit) (as := [.long (L (pk (roN S (FR S) (S 0))))]) (rest := []) (pc' := 19) (cs := []) (v := some (.int (optI (fs (bt (pk (roN S (FR S) (S 0)))) 0 48)))) (h1 := (KP X cl (S 0) (pk (CX S)) (S 61) (S 62) sn sg sv cd ln pe pr ba fo us fr sc hs m o)) rfl trivial (by decide) (c_leastBit (zk_lt (roN_16 (FR_m16 S) _))) ?_
  show Runs _ _ 19 _ [.int (optI (fs (bt (pk (roN S (FR S) (S 0)))) 0 48))] _ _ _ _
  rw [show optI (fs (bt (pk (roN S (FR S) (S 0)))) 0 48) = N b by rw [hn_ro hV.2.1, hn]; rfl]
  refine Runs.go 4 (cs := []) (pc' := bif decide (¬ (N b) = (-1 : Int32)) then 27 else 25) (pl' := [some (.ref 0), some (.long (L (pk (FR S)))), none, some (.int (N b)), none]) (st' := []) (h' := (KP X cl (S 0) (pk (CX S)) (S 61) (S 62) sn sg sv cd ln pe pr ba fo us fr sc hs m o)) rfl trivial ?_
  refine Runs.brT (decide_eq_true (fun zq9 => absurd (Iff.rfl.mp zq9) (N_nm1 (by omega)))) ?_
  refine Runs.go 2 (cs := []) (pc' := 30) (pl' := [some (.ref 0), some (.long (L (pk (FR S)))), none, some (.int (N b)), some (.int (N 0))]) (st' := []) (h' := (KP X cl (S 0) (pk (CX S)) (S 61) (S 62) sn sg sv cd ln pe pr ba fo us fr sc hs m o)) rfl trivial ?_
  refine Runs.wk (pl' := [some (.ref 0), some (.long (L (pk (FR S)))), none, some (.int (N b)), some (.int (N 0))]) (st' := []) (h' := (KP X cl (S 0) (pk (CX S)) (S 61) (S 62) sn sg sv cd ln pe pr ba fo us fr sc hs m o)) ⟨Or.inr rfl, Or.inr rfl, Or.inl rfl, Or.inr rfl, Or.inr rfl, trivial⟩ rfl rfl ?_
  refine Runs.loopN (fun t => [some (.ref 0), some (.long (L (pk (FR S)))), none, some (.int (N b)), some (.int (N t))]) (fun t => (KP X cl (S 0) (pk (CX S)) (S 61) (S 62) sn sg sv cd ln pe pr ba fo us fr sc hs m o)) (fun t => fs (rul S (FR S) (b / 4) (b % 4)) 0 (S 0) = fs (rul S (FR S) (b / 4) (b % 4)) t (S 0 - t)) (S 0) (by rw [Nat.sub_zero]) (fun t ht I1 K1 => ?_) (fun I1 => ?_)
  · show Runs _ _ 30 [some (.ref 0), some (.long (L (pk (FR S)))), none, some (.int (N b)), some (.int (N t))] [] (KP X cl (S 0) (pk (CX S)) (S 61) (S 62) sn sg sv cd ln pe pr ba fo us fr sc hs m o) _ _ _
    refine Runs.go 5 (cs := []) (pc' := bif decide ((N (S 0)) ≤ (N t)) then 72 else 42) (pl' := [some (.ref 0), some (.long (L (pk (FR S)))), none, some (.int (N b)), some (.int (N t))]) (st' := []) (h' := (KP X cl (S 0) (pk (CX S)) (S 61) (S 62) sn sg sv cd ln pe pr ba fo us fr sc hs m o)) rfl trivial ?_
    refine Runs.brF (decide_eq_false (fun zq9 => absurd ((N_le (a := S 0) (b := t) (by omega) (by omega)).mp zq9) (by omega))) ?_
    refine Runs.topI 5 (cs := [vp_in (N t) 12]) (pc' := 52) (pl' := [some (.ref 0), some (.long (L (pk (FR S)))), none, some (.int (N b)), some (.int (N t))]) (v := aN cl (N t).toNatClampNeg) (v' := N (ecl S t)) (st' := []) (h' := (KP X cl (S 0) (pk (CX S)) (S 61) (S 62) sn sg sv cd ln pe pr ba fo us fr sc hs m o)) rfl ⟨(N_in (by omega) (by decide)), trivial⟩ ((aN_at (by omega)).trans (congrArg N (hcl t (by omega)))) ?_
    refine Runs.go 1 (cs := []) (pc' := 53) (pl' := [some (.ref 0), some (.long (L (pk (FR S)))), none, some (.int (N b)), some (.int (N t))]) (st' := [.long (L (pk (FR S))), .int (N (ecl S t))]) (h' := (KP X cl (S 0) (pk (CX S)) (S 61) (S 62) sn sg sv cd ln pe pr ba fo us fr sc hs m o)) rfl trivial ?_
    refine Runs.cal (y := mX0_ruledOut) (as := [.int (N (ecl S t)), .long (L (pk (FR S)))]) (rest := []) (pc' := 56) (cs := []) (v := some (.long (L (pk (ruC S (FR S) t))))) (h1 := (KP X cl (S 0) (pk (CX S)) (S 61) (S 62) sn sg sv cd ln pe pr ba fo us fr sc hs m o)) rfl trivial (by decide) (c_ruledOut hV (by omega) (FR_m16 S) (FR_z S)) ?_
    show Runs _ _ 56 _ [.long (L (pk (ruC S (FR S) t)))] _ _ _ _
    refine Runs.go 1 (cs := []) (pc' := 57) (pl' := [some (.ref 0), some (.long (L (pk (FR S)))), none, some (.int (N b)), some (.int (N t))]) (st' := [.int (N b), .long (L (pk (ruC S (FR S) t)))]) (h' := (KP X cl (S 0) (pk (CX S)) (S 61) (S 62) sn sg sv cd ln pe pr ba fo us fr sc hs m o)) rfl trivial ?_
    refine Runs.cal (y := mX1_hasBit) (as := [.long (L (pk (ruC S (FR S) t))), .int (N b)]) (rest := []) (pc' := 60) (cs := []) (v := some (.int (bI (bt (pk (ruC S (FR S) t)) b)))) (h1 := (KP X cl (S 0) (pk (CX S)) (S 61) (S 62) sn sg sv cd ln pe pr ba fo us fr sc hs m o)) rfl trivial (by decide) (c_hasBit (zk_lt (ruC_16 S (FR S) t)) (by omega)) ?_
    show Runs _ _ 60 _ [.int (bI (bt (pk (ruC S (FR S) t)) b))] _ _ _ _
    refine Runs.go 1 (cs := []) (pc' := bif decide ((bI (bt (pk (ruC S (FR S) t)) b)) = 0) then 66 else 63) (pl' := [some (.ref 0), some (.long (L (pk (FR S)))), none, some (.int (N b)), some (.int (N t))]) (st' := []) (h' := (KP X cl (S 0) (pk (CX S)) (S 61) (S 62) sn sg sv cd ln pe pr ba fo us fr sc hs m o)) rfl trivial ?_
    refine Runs.br (fun z1 => ?_) (fun z1 => ?_)
    · replace z1 : (bt (pk (ruC S (FR S) t)) b) = false := (bI_0 _).mp (of_decide_eq_true z1)
      refine Runs.goL 1 (cs := []) (pc' := 69) (pl1 := [some (.ref 0), some (.long (L (pk (FR S)))), none, some (.int (N b)), some (.int (N t + N 1))]) (pl' := [some (.ref 0), some (.long (L (pk (FR S)))), none, some (.int (N b)), some (.int (N (t + 1)))]) (st' := []) (h' := (KP X cl (S 0) (pk (CX S)) (S 61) (S 62) sn sg sv cd ln pe pr ba fo us fr sc hs m o)) rfl trivial (congrArg (fun zq9 => ([some (.ref 0), some (.long (L (pk (FR S)))), none, some (.int (N b)), some (.int zq9)] : PL)) (NA (by omega))) ?_
      refine Runs.go 1 (cs := []) (pc' := 30) (pl' := [some (.ref 0), some (.long (L (pk (FR S)))), none, some (.int (N b)), some (.int (N (t + 1)))]) (st' := []) (h' := (KP X cl (S 0) (pk (CX S)) (S 61) (S 62) sn sg sv cd ln pe pr ba fo us fr sc hs m o)) rfl trivial ?_
      exact Runs.wk (pl' := [some (.ref 0), some (.long (L (pk (FR S)))), none, some (.int (N b)), some (.int (N (t + 1)))]) (st' := []) (h' := (KP X cl (S 0) (pk (CX S)) (S 61) (S 62) sn sg sv cd ln pe pr ba fo us fr sc hs m o)) ⟨Or.inr rfl, Or.inr rfl, Or.inl rfl, Or.inr rfl, Or.inr rfl, trivial⟩ rfl rfl (K1 (I1.trans ((fs_step ht).trans (if_neg (by rw [← ruC_btk hb hh, z1]; decide)))))
    · replace z1 : ¬ ((bt (pk (ruC S (FR S) t)) b) = false) := mt (bI_0 _).mpr (of_decide_eq_false z1)
      refine Runs.go 1 (cs := []) (pc' := 65) (pl' := [some (.ref 0), some (.long (L (pk (FR S)))), none, some (.int (N b)), some (.int (N t))]) (st' := [.int (N t)]) (h' := (KP X cl (S 0) (pk (CX S)) (S 61) (S 62) sn sg sv cd ln pe pr ba fo us fr sc hs m o)) rfl trivial ?_
      exact Runs.retE (cs := []) rfl trivial (retI (rbI_some (I1.trans ((fs_step ht).trans (if_pos ((ruC_btk hb hh).symm.trans (bT z1))))))) rfl
  · show Runs _ _ 30 _ [] _ _ _ _
    show Runs _ _ 30 [some (.ref 0), some (.long (L (pk (FR S)))), none, some (.int (N b)), some (.int (N (S 0)))] [] (KP X cl (S 0) (pk (CX S)) (S 61) (S 62) sn sg sv cd ln pe pr ba fo us fr sc hs m o) _ _ _
    have hno := I1.trans fs_end
    refine Runs.go 5 (cs := []) (pc' := bif decide ((N (S 0)) ≤ (N (S 0))) then 72 else 42) (pl' := [some (.ref 0), some (.long (L (pk (FR S)))), none, some (.int (N b)), some (.int (N (S 0)))]) (st' := []) (h' := (KP X cl (S 0) (pk (CX S)) (S 61) (S 62) sn sg sv cd ln pe pr ba fo us fr sc hs m o)) rfl trivial ?_
    refine Runs.brT (decide_eq_true ((N_le (a := S 0) (b := S 0) (by omega) (by omega)).mpr (by omega))) ?_
    refine Runs.go 1 (cs := []) (pc' := 73) (pl' := [some (.ref 0), some (.long (L (pk (FR S)))), none, some (.int (N b)), some (.int (N (S 0)))]) (st' := [.long (L (pk (FR S)))]) (h' := (KP X cl (S 0) (pk (CX S)) (S 61) (S 62) sn sg sv cd ln pe pr ba fo us fr sc hs m o)) rfl trivial ?_
    refine Runs.cal (y := mX1_takenByAnother) (as := [.long (L (pk (FR S)))]) (rest := []) (pc' := 76) (cs := []) (v := some (.long (L (pk (takF (FR S)))))) (h1 := (KP X cl (S 0) (pk (CX S)) (S 61) (S 62) sn sg sv cd ln pe pr ba fo us fr sc hs m o)) rfl trivial (by decide) (c_takenByAnother (FR_m16 S)) ?_
    show Runs _ _ 76 _ [.long (L (pk (takF (FR S))))] _ _ _ _
    refine Runs.go 1 (cs := []) (pc' := 77) (pl' := [some (.ref 0), some (.long (L (pk (FR S)))), none, some (.int (N b)), some (.int (N (S 0)))]) (st' := [.int (N b), .long (L (pk (takF (FR S))))]) (h' := (KP X cl (S 0) (pk (CX S)) (S 61) (S 62) sn sg sv cd ln pe pr ba fo us fr sc hs m o)) rfl trivial ?_
    refine Runs.cal (y := mX1_hasBit) (as := [.long (L (pk (takF (FR S)))), .int (N b)]) (rest := []) (pc' := 80) (cs := []) (v := some (.int (bI (bt (pk (takF (FR S))) b)))) (h1 := (KP X cl (S 0) (pk (CX S)) (S 61) (S 62) sn sg sv cd ln pe pr ba fo us fr sc hs m o)) rfl trivial (by decide) (c_hasBit (zk_lt (tak_16 (FR_m16 S))) (by omega)) ?_
    show Runs _ _ 80 _ [.int (bI (bt (pk (takF (FR S))) b))] _ _ _ _
    refine Runs.go 1 (cs := []) (pc' := bif decide ((bI (bt (pk (takF (FR S))) b)) = 0) then 88 else 83) (pl' := [some (.ref 0), some (.long (L (pk (FR S)))), none, some (.int (N b)), some (.int (N (S 0)))]) (st' := []) (h' := (KP X cl (S 0) (pk (CX S)) (S 61) (S 62) sn sg sv cd ln pe pr ba fo us fr sc hs m o)) rfl trivial ?_
    refine Runs.br (fun z2 => ?_) (fun z2 => ?_)
    · replace z2 : (bt (pk (takF (FR S))) b) = false := (bI_0 _).mp (of_decide_eq_true z2)
      refine Runs.go 1 (cs := []) (pc' := 90) (pl' := [some (.ref 0), some (.long (L (pk (FR S)))), none, some (.int (N b)), some (.int (N (S 0)))]) (st' := [.int (N 13)]) (h' := (KP X cl (S 0) (pk (CX S)) (S 61) (S 62) sn sg sv cd ln pe pr ba fo us fr sc hs m o)) rfl trivial ?_
      exact Runs.retE (cs := []) rfl trivial (retI (rbI_own hno ((tak_btk hb hh).symm.trans z2) hh)) rfl
    · replace z2 : ¬ ((bt (pk (takF (FR S))) b) = false) := mt (bI_0 _).mpr (of_decide_eq_false z2)
      refine Runs.go 2 (cs := []) (pc' := 90) (pl' := [some (.ref 0), some (.long (L (pk (FR S)))), none, some (.int (N b)), some (.int (N (S 0)))]) (st' := [.int (N 12)]) (h' := (KP X cl (S 0) (pk (CX S)) (S 61) (S 62) sn sg sv cd ln pe pr ba fo us fr sc hs m o)) rfl trivial ?_
      exact Runs.retE (cs := []) rfl trivial (retI (rbI_alo hno ((tak_btk hb hh).symm.trans (bT z2)))) rfl
