/-! THE LAW: its helpers (gen_j1.py) -/
theorem l_same0 {X : Nat × (Nat → Int32)} {c c1 : CT} {m : MT} {o : Nat → Int64} {a b : Int32} {v : Int32} (h : Call 30 mX6_same [.ref 0, .int a, .int b] (HP X c m o) (.inl (some (.int v))) (HP X c1 m o) 0) : Call 31 mL_same [.ref 0, .int a, .int b, .ref 36] (HP X c m o) (.inl (some (.int (N 0)))) (HP X c1 m (va_up o 0 v.toInt64)) 0 := by
  refine Runs.go 5 (cs := []) (pc' := 5) (pl' := [some (.ref 0), some (.int a), some (.int b), some (.ref 36), none]) (st' := [.int b, .int a, .ref 0, .int (N 0), .ref 36]) (h' := HP X c m o) rfl trivial ?_
  refine Runs.cal (y := mX6_same) (as := [.ref 0, .int a, .int b]) (rest := [.int (N 0), .ref 36]) (pc' := 8) (cs := []) (v := some (.int v)) (h1 := HP X c1 m o) rfl trivial (by decide) h ?_
  show Runs _ _ 8 _ [.int v, .int (N 0), .ref 36] _ _ _ _
  refine Runs.goH 4 (cs := [vp_in (N 0) 1]) (pc' := 26) (pl' := [some (.ref 0), some (.int a), some (.int b), some (.ref 36), none]) (st' := [.int (N 0)]) (h1 := HP X c1 m (va_up o (N 0).toNatClampNeg v.toInt64)) (h' := HP X c1 m (va_up o 0 v.toInt64)) rfl ⟨(N_in (by decide) (by decide)), trivial⟩ rfl ?_
  exact Runs.retE (cs := []) rfl trivial (retI rfl) rfl
theorem l_same1 {X : Nat × (Nat → Int32)} {c c1 : CT} {m : MT} {o : Nat → Int64} {a b : Int32} (h : Call 30 mX6_same [.ref 0, .int a, .int b] (HP X c m o) (.inr "java/lang/IndexOutOfBoundsException") (HP X c1 m o) 1) : Call 31 mL_same [.ref 0, .int a, .int b, .ref 36] (HP X c m o) (.inl (some (.int (N 1)))) (HP X c1 m o) 1 := by
  refine Runs.go 5 (cs := []) (pc' := 5) (pl' := [some (.ref 0), some (.int a), some (.int b), some (.ref 36), none]) (st' := [.int b, .int a, .ref 0, .int (N 0), .ref 36]) (h' := HP X c m o) rfl trivial ?_
  refine Runs.callH (k := 0) (y := mX6_same) (as := [.ref 0, .int a, .int b]) (rest := [.int (N 0), .ref 36]) (pc' := 8) (cs := []) (ph := 15) (i := 4) (h1 := HP X c1 m o) rfl trivial (by decide) h rfl rfl ?_
  refine Runs.go 1 (cs := []) (pc' := 16) (pl' := [some (.ref 0), some (.int a), some (.int b), some (.ref 36), none]) (st' := [.int (N 1)]) (h' := HP X c1 m o) rfl trivial ?_
  exact Runs.retE (cs := []) rfl trivial (retI rfl) rfl
theorem l_same2 {X : Nat × (Nat → Int32)} {c c1 : CT} {m : MT} {o : Nat → Int64} {a b : Int32} (h : Call 30 mX6_same [.ref 0, .int a, .int b] (HP X c m o) (.inr "java/lang/IllegalArgumentException") (HP X c1 m o) 1) : Call 31 mL_same [.ref 0, .int a, .int b, .ref 36] (HP X c m o) (.inl (some (.int (N 2)))) (HP X c1 m o) 1 := by
  refine Runs.go 5 (cs := []) (pc' := 5) (pl' := [some (.ref 0), some (.int a), some (.int b), some (.ref 36), none]) (st' := [.int b, .int a, .ref 0, .int (N 0), .ref 36]) (h' := HP X c m o) rfl trivial ?_
  refine Runs.callH (k := 0) (y := mX6_same) (as := [.ref 0, .int a, .int b]) (rest := [.int (N 0), .ref 36]) (pc' := 8) (cs := []) (ph := 19) (i := 4) (h1 := HP X c1 m o) rfl trivial (by decide) h rfl rfl ?_
  refine Runs.go 1 (cs := []) (pc' := 20) (pl' := [some (.ref 0), some (.int a), some (.int b), some (.ref 36), none]) (st' := [.int (N 2)]) (h' := HP X c1 m o) rfl trivial ?_
  exact Runs.retE (cs := []) rfl trivial (retI rfl) rfl
theorem l_same3 {X : Nat × (Nat → Int32)} {c c1 : CT} {m : MT} {o : Nat → Int64} {a b : Int32} (h : Call 30 mX6_same [.ref 0, .int a, .int b] (HP X c m o) (.inr "java/lang/IllegalStateException") (HP X c1 m o) 1) : Call 31 mL_same [.ref 0, .int a, .int b, .ref 36] (HP X c m o) (.inl (some (.int (N 3)))) (HP X c1 m o) 1 := by
  refine Runs.go 5 (cs := []) (pc' := 5) (pl' := [some (.ref 0), some (.int a), some (.int b), some (.ref 36), none]) (st' := [.int b, .int a, .ref 0, .int (N 0), .ref 36]) (h' := HP X c m o) rfl trivial ?_
  refine Runs.callH (k := 0) (y := mX6_same) (as := [.ref 0, .int a, .int b]) (rest := [.int (N 0), .ref 36]) (pc' := 8) (cs := []) (ph := 23) (i := 4) (h1 := HP X c1 m o) rfl trivial (by decide) h rfl rfl ?_
  refine Runs.go 1 (cs := []) (pc' := 24) (pl' := [some (.ref 0), some (.int a), some (.int b), some (.ref 36), none]) (st' := [.int (N 3)]) (h' := HP X c1 m o) rfl trivial ?_
  exact Runs.retE (cs := []) rfl trivial (retI rfl) rfl
theorem l_apart0 {X : Nat × (Nat → Int32)} {c c1 : CT} {m : MT} {o : Nat → Int64} {a b : Int32} {v : Int32} (h : Call 30 mX6_apart [.ref 0, .int a, .int b] (HP X c m o) (.inl (some (.int v))) (HP X c1 m o) 0) : Call 31 mL_apart [.ref 0, .int a, .int b, .ref 36] (HP X c m o) (.inl (some (.int (N 0)))) (HP X c1 m (va_up o 0 v.toInt64)) 0 := by
  refine Runs.go 5 (cs := []) (pc' := 5) (pl' := [some (.ref 0), some (.int a), some (.int b), some (.ref 36), none]) (st' := [.int b, .int a, .ref 0, .int (N 0), .ref 36]) (h' := HP X c m o) rfl trivial ?_
  refine Runs.cal (y := mX6_apart) (as := [.ref 0, .int a, .int b]) (rest := [.int (N 0), .ref 36]) (pc' := 8) (cs := []) (v := some (.int v)) (h1 := HP X c1 m o) rfl trivial (by decide) h ?_
  show Runs _ _ 8 _ [.int v, .int (N 0), .ref 36] _ _ _ _
  refine Runs.goH 4 (cs := [vp_in (N 0) 1]) (pc' := 26) (pl' := [some (.ref 0), some (.int a), some (.int b), some (.ref 36), none]) (st' := [.int (N 0)]) (h1 := HP X c1 m (va_up o (N 0).toNatClampNeg v.toInt64)) (h' := HP X c1 m (va_up o 0 v.toInt64)) rfl ⟨(N_in (by decide) (by decide)), trivial⟩ rfl ?_
  exact Runs.retE (cs := []) rfl trivial (retI rfl) rfl
theorem l_apart1 {X : Nat × (Nat → Int32)} {c c1 : CT} {m : MT} {o : Nat → Int64} {a b : Int32} (h : Call 30 mX6_apart [.ref 0, .int a, .int b] (HP X c m o) (.inr "java/lang/IndexOutOfBoundsException") (HP X c1 m o) 1) : Call 31 mL_apart [.ref 0, .int a, .int b, .ref 36] (HP X c m o) (.inl (some (.int (N 1)))) (HP X c1 m o) 1 := by
  refine Runs.go 5 (cs := []) (pc' := 5) (pl' := [some (.ref 0), some (.int a), some (.int b), some (.ref 36), none]) (st' := [.int b, .int a, .ref 0, .int (N 0), .ref 36]) (h' := HP X c m o) rfl trivial ?_
  refine Runs.callH (k := 0) (y := mX6_apart) (as := [.ref 0, .int a, .int b]) (rest := [.int (N 0), .ref 36]) (pc' := 8) (cs := []) (ph := 15) (i := 4) (h1 := HP X c1 m o) rfl trivial (by decide) h rfl rfl ?_
  refine Runs.go 1 (cs := []) (pc' := 16) (pl' := [some (.ref 0), some (.int a), some (.int b), some (.ref 36), none]) (st' := [.int (N 1)]) (h' := HP X c1 m o) rfl trivial ?_
  exact Runs.retE (cs := []) rfl trivial (retI rfl) rfl
theorem l_apart2 {X : Nat × (Nat → Int32)} {c c1 : CT} {m : MT} {o : Nat → Int64} {a b : Int32} (h : Call 30 mX6_apart [.ref 0, .int a, .int b] (HP X c m o) (.inr "java/lang/IllegalArgumentException") (HP X c1 m o) 1) : Call 31 mL_apart [.ref 0, .int a, .int b, .ref 36] (HP X c m o) (.inl (some (.int (N 2)))) (HP X c1 m o) 1 := by
  refine Runs.go 5 (cs := []) (pc' := 5) (pl' := [some (.ref 0), some (.int a), some (.int b), some (.ref 36), none]) (st' := [.int b, .int a, .ref 0, .int (N 0), .ref 36]) (h' := HP X c m o) rfl trivial ?_
  refine Runs.callH (k := 0) (y := mX6_apart) (as := [.ref 0, .int a, .int b]) (rest := [.int (N 0), .ref 36]) (pc' := 8) (cs := []) (ph := 19) (i := 4) (h1 := HP X c1 m o) rfl trivial (by decide) h rfl rfl ?_
  refine Runs.go 1 (cs := []) (pc' := 20) (pl' := [some (.ref 0), some (.int a), some (.int b), some (.ref 36), none]) (st' := [.int (N 2)]) (h' := HP X c1 m o) rfl trivial ?_
  exact Runs.retE (cs := []) rfl trivial (retI rfl) rfl
theorem l_apart3 {X : Nat × (Nat → Int32)} {c c1 : CT} {m : MT} {o : Nat → Int64} {a b : Int32} (h : Call 30 mX6_apart [.ref 0, .int a, .int b] (HP X c m o) (.inr "java/lang/IllegalStateException") (HP X c1 m o) 1) : Call 31 mL_apart [.ref 0, .int a, .int b, .ref 36] (HP X c m o) (.inl (some (.int (N 3)))) (HP X c1 m o) 1 := by
  refine Runs.go 5 (cs := []) (pc' := 5) (pl' := [some (.ref 0), some (.int a), some (.int b), some (.ref 36), none]) (st' := [.int b, .int a, .ref 0, .int (N 0), .ref 36]) (h' := HP X c m o) rfl trivial ?_
  refine Runs.callH (k := 0) (y := mX6_apart) (as := [.ref 0, .int a, .int b]) (rest := [.int (N 0), .ref 36]) (pc' := 8) (cs := []) (ph := 23) (i := 4) (h1 := HP X c1 m o) rfl trivial (by decide) h rfl rfl ?_
  refine Runs.go 1 (cs := []) (pc' := 24) (pl' := [some (.ref 0), some (.int a), some (.int b), some (.ref 36), none]) (st' := [.int (N 3)]) (h' := HP X c1 m o) rfl trivial ?_
  exact Runs.retE (cs := []) rfl trivial (retI rfl) rfl
theorem l_leftOf0 {X : Nat × (Nat → Int32)} {c c1 : CT} {m : MT} {o : Nat → Int64} {a b : Int32} {v : Int32} (h : Call 30 mX6_leftOf [.ref 0, .int a, .int b] (HP X c m o) (.inl (some (.int v))) (HP X c1 m o) 0) : Call 31 mL_leftOf [.ref 0, .int a, .int b, .ref 36] (HP X c m o) (.inl (some (.int (N 0)))) (HP X c1 m (va_up o 0 v.toInt64)) 0 := by
  refine Runs.go 5 (cs := []) (pc' := 5) (pl' := [some (.ref 0), some (.int a), some (.int b), some (.ref 36), none]) (st' := [.int b, .int a, .ref 0, .int (N 0), .ref 36]) (h' := HP X c m o) rfl trivial ?_
  refine Runs.cal (y := mX6_leftOf) (as := [.ref 0, .int a, .int b]) (rest := [.int (N 0), .ref 36]) (pc' := 8) (cs := []) (v := some (.int v)) (h1 := HP X c1 m o) rfl trivial (by decide) h ?_
  show Runs _ _ 8 _ [.int v, .int (N 0), .ref 36] _ _ _ _
  refine Runs.goH 4 (cs := [vp_in (N 0) 1]) (pc' := 26) (pl' := [some (.ref 0), some (.int a), some (.int b), some (.ref 36), none]) (st' := [.int (N 0)]) (h1 := HP X c1 m (va_up o (N 0).toNatClampNeg v.toInt64)) (h' := HP X c1 m (va_up o 0 v.toInt64)) rfl ⟨(N_in (by decide) (by decide)), trivial⟩ rfl ?_
  exact Runs.retE (cs := []) rfl trivial (retI rfl) rfl
theorem l_leftOf1 {X : Nat × (Nat → Int32)} {c c1 : CT} {m : MT} {o : Nat → Int64} {a b : Int32} (h : Call 30 mX6_leftOf [.ref 0, .int a, .int b] (HP X c m o) (.inr "java/lang/IndexOutOfBoundsException") (HP X c1 m o) 1) : Call 31 mL_leftOf [.ref 0, .int a, .int b, .ref 36] (HP X c m o) (.inl (some (.int (N 1)))) (HP X c1 m o) 1 := by
  refine Runs.go 5 (cs := []) (pc' := 5) (pl' := [some (.ref 0), some (.int a), some (.int b), some (.ref 36), none]) (st' := [.int b, .int a, .ref 0, .int (N 0), .ref 36]) (h' := HP X c m o) rfl trivial ?_
  refine Runs.callH (k := 0) (y := mX6_leftOf) (as := [.ref 0, .int a, .int b]) (rest := [.int (N 0), .ref 36]) (pc' := 8) (cs := []) (ph := 15) (i := 4) (h1 := HP X c1 m o) rfl trivial (by decide) h rfl rfl ?_
  refine Runs.go 1 (cs := []) (pc' := 16) (pl' := [some (.ref 0), some (.int a), some (.int b), some (.ref 36), none]) (st' := [.int (N 1)]) (h' := HP X c1 m o) rfl trivial ?_
  exact Runs.retE (cs := []) rfl trivial (retI rfl) rfl
theorem l_leftOf2 {X : Nat × (Nat → Int32)} {c c1 : CT} {m : MT} {o : Nat → Int64} {a b : Int32} (h : Call 30 mX6_leftOf [.ref 0, .int a, .int b] (HP X c m o) (.inr "java/lang/IllegalArgumentException") (HP X c1 m o) 1) : Call 31 mL_leftOf [.ref 0, .int a, .int b, .ref 36] (HP X c m o) (.inl (some (.int (N 2)))) (HP X c1 m o) 1 := by
  refine Runs.go 5 (cs := []) (pc' := 5) (pl' := [some (.ref 0), some (.int a), some (.int b), some (.ref 36), none]) (st' := [.int b, .int a, .ref 0, .int (N 0), .ref 36]) (h' := HP X c m o) rfl trivial ?_
  refine Runs.callH (k := 0) (y := mX6_leftOf) (as := [.ref 0, .int a, .int b]) (rest := [.int (N 0), .ref 36]) (pc' := 8) (cs := []) (ph := 19) (i := 4) (h1 := HP X c1 m o) rfl trivial (by decide) h rfl rfl ?_
  refine Runs.go 1 (cs := []) (pc' := 20) (pl' := [some (.ref 0), some (.int a), some (.int b), some (.ref 36), none]) (st' := [.int (N 2)]) (h' := HP X c1 m o) rfl trivial ?_
  exact Runs.retE (cs := []) rfl trivial (retI rfl) rfl
theorem l_leftOf3 {X : Nat × (Nat → Int32)} {c c1 : CT} {m : MT} {o : Nat → Int64} {a b : Int32} (h : Call 30 mX6_leftOf [.ref 0, .int a, .int b] (HP X c m o) (.inr "java/lang/IllegalStateException") (HP X c1 m o) 1) : Call 31 mL_leftOf [.ref 0, .int a, .int b, .ref 36] (HP X c m o) (.inl (some (.int (N 3)))) (HP X c1 m o) 1 := by
  refine Runs.go 5 (cs := []) (pc' := 5) (pl' := [some (.ref 0), some (.int a), some (.int b), some (.ref 36), none]) (st' := [.int b, .int a, .ref 0, .int (N 0), .ref 36]) (h' := HP X c m o) rfl trivial ?_
  refine Runs.callH (k := 0) (y := mX6_leftOf) (as := [.ref 0, .int a, .int b]) (rest := [.int (N 0), .ref 36]) (pc' := 8) (cs := []) (ph := 23) (i := 4) (h1 := HP X c1 m o) rfl trivial (by decide) h rfl rfl ?_
  refine Runs.go 1 (cs := []) (pc' := 24) (pl' := [some (.ref 0), some (.int a), some (.int b), some (.ref 36), none]) (st' := [.int (N 3)]) (h' := HP X c1 m o) rfl trivial ?_
  exact Runs.retE (cs := []) rfl trivial (retI rfl) rfl
theorem l_nextTo0 {X : Nat × (Nat → Int32)} {c c1 : CT} {m : MT} {o : Nat → Int64} {a b : Int32} {v : Int32} (h : Call 30 mX6_nextTo [.ref 0, .int a, .int b] (HP X c m o) (.inl (some (.int v))) (HP X c1 m o) 0) : Call 31 mL_nextTo [.ref 0, .int a, .int b, .ref 36] (HP X c m o) (.inl (some (.int (N 0)))) (HP X c1 m (va_up o 0 v.toInt64)) 0 := by
  refine Runs.go 5 (cs := []) (pc' := 5) (pl' := [some (.ref 0), some (.int a), some (.int b), some (.ref 36), none]) (st' := [.int b, .int a, .ref 0, .int (N 0), .ref 36]) (h' := HP X c m o) rfl trivial ?_
  refine Runs.cal (y := mX6_nextTo) (as := [.ref 0, .int a, .int b]) (rest := [.int (N 0), .ref 36]) (pc' := 8) (cs := []) (v := some (.int v)) (h1 := HP X c1 m o) rfl trivial (by decide) h ?_
  show Runs _ _ 8 _ [.int v, .int (N 0), .ref 36] _ _ _ _
  refine Runs.goH 4 (cs := [vp_in (N 0) 1]) (pc' := 26) (pl' := [some (.ref 0), some (.int a), some (.int b), some (.ref 36), none]) (st' := [.int (N 0)]) (h1 := HP X c1 m (va_up o (N 0).toNatClampNeg v.toInt64)) (h' := HP X c1 m (va_up o 0 v.toInt64)) rfl ⟨(N_in (by decide) (by decide)), trivial⟩ rfl ?_
  exact Runs.retE (cs := []) rfl trivial (retI rfl) rfl
theorem l_nextTo1 {X : Nat × (Nat → Int32)} {c c1 : CT} {m : MT} {o : Nat → Int64} {a b : Int32} (h : Call 30 mX6_nextTo [.ref 0, .int a, .int b] (HP X c m o) (.inr "java/lang/IndexOutOfBoundsException") (HP X c1 m o) 1) : Call 31 mL_nextTo [.ref 0, .int a, .int b, .ref 36] (HP X c m o) (.inl (some (.int (N 1)))) (HP X c1 m o) 1 := by
  refine Runs.go 5 (cs := []) (pc' := 5) (pl' := [some (.ref 0), some (.int a), some (.int b), some (.ref 36), none]) (st' := [.int b, .int a, .ref 0, .int (N 0), .ref 36]) (h' := HP X c m o) rfl trivial ?_
  refine Runs.callH (k := 0) (y := mX6_nextTo) (as := [.ref 0, .int a, .int b]) (rest := [.int (N 0), .ref 36]) (pc' := 8) (cs := []) (ph := 15) (i := 4) (h1 := HP X c1 m o) rfl trivial (by decide) h rfl rfl ?_
  refine Runs.go 1 (cs := []) (pc' := 16) (pl' := [some (.ref 0), some (.int a), some (.int b), some (.ref 36), none]) (st' := [.int (N 1)]) (h' := HP X c1 m o) rfl trivial ?_
  exact Runs.retE (cs := []) rfl trivial (retI rfl) rfl
theorem l_nextTo2 {X : Nat × (Nat → Int32)} {c c1 : CT} {m : MT} {o : Nat → Int64} {a b : Int32} (h : Call 30 mX6_nextTo [.ref 0, .int a, .int b] (HP X c m o) (.inr "java/lang/IllegalArgumentException") (HP X c1 m o) 1) : Call 31 mL_nextTo [.ref 0, .int a, .int b, .ref 36] (HP X c m o) (.inl (some (.int (N 2)))) (HP X c1 m o) 1 := by
  refine Runs.go 5 (cs := []) (pc' := 5) (pl' := [some (.ref 0), some (.int a), some (.int b), some (.ref 36), none]) (st' := [.int b, .int a, .ref 0, .int (N 0), .ref 36]) (h' := HP X c m o) rfl trivial ?_
  refine Runs.callH (k := 0) (y := mX6_nextTo) (as := [.ref 0, .int a, .int b]) (rest := [.int (N 0), .ref 36]) (pc' := 8) (cs := []) (ph := 19) (i := 4) (h1 := HP X c1 m o) rfl trivial (by decide) h rfl rfl ?_
  refine Runs.go 1 (cs := []) (pc' := 20) (pl' := [some (.ref 0), some (.int a), some (.int b), some (.ref 36), none]) (st' := [.int (N 2)]) (h' := HP X c1 m o) rfl trivial ?_
  exact Runs.retE (cs := []) rfl trivial (retI rfl) rfl
theorem l_nextTo3 {X : Nat × (Nat → Int32)} {c c1 : CT} {m : MT} {o : Nat → Int64} {a b : Int32} (h : Call 30 mX6_nextTo [.ref 0, .int a, .int b] (HP X c m o) (.inr "java/lang/IllegalStateException") (HP X c1 m o) 1) : Call 31 mL_nextTo [.ref 0, .int a, .int b, .ref 36] (HP X c m o) (.inl (some (.int (N 3)))) (HP X c1 m o) 1 := by
  refine Runs.go 5 (cs := []) (pc' := 5) (pl' := [some (.ref 0), some (.int a), some (.int b), some (.ref 36), none]) (st' := [.int b, .int a, .ref 0, .int (N 0), .ref 36]) (h' := HP X c m o) rfl trivial ?_
  refine Runs.callH (k := 0) (y := mX6_nextTo) (as := [.ref 0, .int a, .int b]) (rest := [.int (N 0), .ref 36]) (pc' := 8) (cs := []) (ph := 23) (i := 4) (h1 := HP X c1 m o) rfl trivial (by decide) h rfl rfl ?_
  refine Runs.go 1 (cs := []) (pc' := 24) (pl' := [some (.ref 0), some (.int a), some (.int b), some (.ref 36), none]) (st' := [.int (N 3)]) (h' := HP X c1 m o) rfl trivial ?_
  exact Runs.retE (cs := []) rfl trivial (retI rfl) rfl
theorem l_at0 {X : Nat × (Nat → Int32)} {c c1 : CT} {m : MT} {o : Nat → Int64} {a b : Int32} {v : Int32} (h : Call 30 mX6_at [.ref 0, .int a, .int b] (HP X c m o) (.inl (some (.int v))) (HP X c1 m o) 0) : Call 31 mL_at [.ref 0, .int a, .int b, .ref 36] (HP X c m o) (.inl (some (.int (N 0)))) (HP X c1 m (va_up o 0 v.toInt64)) 0 := by
  refine Runs.go 5 (cs := []) (pc' := 5) (pl' := [some (.ref 0), some (.int a), some (.int b), some (.ref 36), none]) (st' := [.int b, .int a, .ref 0, .int (N 0), .ref 36]) (h' := HP X c m o) rfl trivial ?_
  refine Runs.cal (y := mX6_at) (as := [.ref 0, .int a, .int b]) (rest := [.int (N 0), .ref 36]) (pc' := 8) (cs := []) (v := some (.int v)) (h1 := HP X c1 m o) rfl trivial (by decide) h ?_
  show Runs _ _ 8 _ [.int v, .int (N 0), .ref 36] _ _ _ _
  refine Runs.goH 4 (cs := [vp_in (N 0) 1]) (pc' := 22) (pl' := [some (.ref 0), some (.int a), some (.int b), some (.ref 36), none]) (st' := [.int (N 0)]) (h1 := HP X c1 m (va_up o (N 0).toNatClampNeg v.toInt64)) (h' := HP X c1 m (va_up o 0 v.toInt64)) rfl ⟨(N_in (by decide) (by decide)), trivial⟩ rfl ?_
  exact Runs.retE (cs := []) rfl trivial (retI rfl) rfl
theorem l_at1 {X : Nat × (Nat → Int32)} {c c1 : CT} {m : MT} {o : Nat → Int64} {a b : Int32} (h : Call 30 mX6_at [.ref 0, .int a, .int b] (HP X c m o) (.inr "java/lang/IndexOutOfBoundsException") (HP X c1 m o) 1) : Call 31 mL_at [.ref 0, .int a, .int b, .ref 36] (HP X c m o) (.inl (some (.int (N 1)))) (HP X c1 m o) 1 := by
  refine Runs.go 5 (cs := []) (pc' := 5) (pl' := [some (.ref 0), some (.int a), some (.int b), some (.ref 36), none]) (st' := [.int b, .int a, .ref 0, .int (N 0), .ref 36]) (h' := HP X c m o) rfl trivial ?_
  refine Runs.callH (k := 0) (y := mX6_at) (as := [.ref 0, .int a, .int b]) (rest := [.int (N 0), .ref 36]) (pc' := 8) (cs := []) (ph := 15) (i := 4) (h1 := HP X c1 m o) rfl trivial (by decide) h rfl rfl ?_
  refine Runs.go 1 (cs := []) (pc' := 16) (pl' := [some (.ref 0), some (.int a), some (.int b), some (.ref 36), none]) (st' := [.int (N 1)]) (h' := HP X c1 m o) rfl trivial ?_
  exact Runs.retE (cs := []) rfl trivial (retI rfl) rfl
theorem l_at2 {X : Nat × (Nat → Int32)} {c c1 : CT} {m : MT} {o : Nat → Int64} {a b : Int32} (h : Call 30 mX6_at [.ref 0, .int a, .int b] (HP X c m o) (.inr "java/lang/IllegalStateException") (HP X c1 m o) 1) : Call 31 mL_at [.ref 0, .int a, .int b, .ref 36] (HP X c m o) (.inl (some (.int (N 2)))) (HP X c1 m o) 1 := by
  refine Runs.go 5 (cs := []) (pc' := 5) (pl' := [some (.ref 0), some (.int a), some (.int b), some (.ref 36), none]) (st' := [.int b, .int a, .ref 0, .int (N 0), .ref 36]) (h' := HP X c m o) rfl trivial ?_
  refine Runs.callH (k := 0) (y := mX6_at) (as := [.ref 0, .int a, .int b]) (rest := [.int (N 0), .ref 36]) (pc' := 8) (cs := []) (ph := 19) (i := 4) (h1 := HP X c1 m o) rfl trivial (by decide) h rfl rfl ?_
  refine Runs.go 1 (cs := []) (pc' := 20) (pl' := [some (.ref 0), some (.int a), some (.int b), some (.ref 36), none]) (st' := [.int (N 2)]) (h' := HP X c1 m o) rfl trivial ?_
  exact Runs.retE (cs := []) rfl trivial (retI rfl) rfl
theorem l_notAt0 {X : Nat × (Nat → Int32)} {c c1 : CT} {m : MT} {o : Nat → Int64} {a b : Int32} {v : Int32} (h : Call 30 mX6_notAt [.ref 0, .int a, .int b] (HP X c m o) (.inl (some (.int v))) (HP X c1 m o) 0) : Call 31 mL_notAt [.ref 0, .int a, .int b, .ref 36] (HP X c m o) (.inl (some (.int (N 0)))) (HP X c1 m (va_up o 0 v.toInt64)) 0 := by
  refine Runs.go 5 (cs := []) (pc' := 5) (pl' := [some (.ref 0), some (.int a), some (.int b), some (.ref 36), none]) (st' := [.int b, .int a, .ref 0, .int (N 0), .ref 36]) (h' := HP X c m o) rfl trivial ?_
  refine Runs.cal (y := mX6_notAt) (as := [.ref 0, .int a, .int b]) (rest := [.int (N 0), .ref 36]) (pc' := 8) (cs := []) (v := some (.int v)) (h1 := HP X c1 m o) rfl trivial (by decide) h ?_
  show Runs _ _ 8 _ [.int v, .int (N 0), .ref 36] _ _ _ _
  refine Runs.goH 4 (cs := [vp_in (N 0) 1]) (pc' := 22) (pl' := [some (.ref 0), some (.int a), some (.int b), some (.ref 36), none]) (st' := [.int (N 0)]) (h1 := HP X c1 m (va_up o (N 0).toNatClampNeg v.toInt64)) (h' := HP X c1 m (va_up o 0 v.toInt64)) rfl ⟨(N_in (by decide) (by decide)), trivial⟩ rfl ?_
  exact Runs.retE (cs := []) rfl trivial (retI rfl) rfl
theorem l_notAt1 {X : Nat × (Nat → Int32)} {c c1 : CT} {m : MT} {o : Nat → Int64} {a b : Int32} (h : Call 30 mX6_notAt [.ref 0, .int a, .int b] (HP X c m o) (.inr "java/lang/IndexOutOfBoundsException") (HP X c1 m o) 1) : Call 31 mL_notAt [.ref 0, .int a, .int b, .ref 36] (HP X c m o) (.inl (some (.int (N 1)))) (HP X c1 m o) 1 := by
  refine Runs.go 5 (cs := []) (pc' := 5) (pl' := [some (.ref 0), some (.int a), some (.int b), some (.ref 36), none]) (st' := [.int b, .int a, .ref 0, .int (N 0), .ref 36]) (h' := HP X c m o) rfl trivial ?_
  refine Runs.callH (k := 0) (y := mX6_notAt) (as := [.ref 0, .int a, .int b]) (rest := [.int (N 0), .ref 36]) (pc' := 8) (cs := []) (ph := 15) (i := 4) (h1 := HP X c1 m o) rfl trivial (by decide) h rfl rfl ?_
  refine Runs.go 1 (cs := []) (pc' := 16) (pl' := [some (.ref 0), some (.int a), some (.int b), some (.ref 36), none]) (st' := [.int (N 1)]) (h' := HP X c1 m o) rfl trivial ?_
  exact Runs.retE (cs := []) rfl trivial (retI rfl) rfl
theorem l_notAt2 {X : Nat × (Nat → Int32)} {c c1 : CT} {m : MT} {o : Nat → Int64} {a b : Int32} (h : Call 30 mX6_notAt [.ref 0, .int a, .int b] (HP X c m o) (.inr "java/lang/IllegalStateException") (HP X c1 m o) 1) : Call 31 mL_notAt [.ref 0, .int a, .int b, .ref 36] (HP X c m o) (.inl (some (.int (N 2)))) (HP X c1 m o) 1 := by
  refine Runs.go 5 (cs := []) (pc' := 5) (pl' := [some (.ref 0), some (.int a), some (.int b), some (.ref 36), none]) (st' := [.int b, .int a, .ref 0, .int (N 0), .ref 36]) (h' := HP X c m o) rfl trivial ?_
  refine Runs.callH (k := 0) (y := mX6_notAt) (as := [.ref 0, .int a, .int b]) (rest := [.int (N 0), .ref 36]) (pc' := 8) (cs := []) (ph := 19) (i := 4) (h1 := HP X c1 m o) rfl trivial (by decide) h rfl rfl ?_
  refine Runs.go 1 (cs := []) (pc' := 20) (pl' := [some (.ref 0), some (.int a), some (.int b), some (.ref 36), none]) (st' := [.int (N 2)]) (h' := HP X c1 m o) rfl trivial ?_
  exact Runs.retE (cs := []) rfl trivial (retI rfl) rfl
theorem l_either0 {X : Nat × (Nat → Int32)} {c c1 : CT} {m : MT} {o : Nat → Int64} {a b c2 : Int32} {v : Int32} (h : Call 30 mX6_either [.ref 0, .int a, .int b, .int c2] (HP X c m o) (.inl (some (.int v))) (HP X c1 m o) 0) : Call 31 mL_either [.ref 0, .int a, .int b, .int c2, .ref 36] (HP X c m o) (.inl (some (.int (N 0)))) (HP X c1 m (va_up o 0 v.toInt64)) 0 := by
  refine Runs.go 6 (cs := []) (pc' := 7) (pl' := [some (.ref 0), some (.int a), some (.int b), some (.int c2), some (.ref 36), none]) (st' := [.int c2, .int b, .int a, .ref 0, .int (N 0), .ref 36]) (h' := HP X c m o) rfl trivial ?_
  refine Runs.cal (y := mX6_either) (as := [.ref 0, .int a, .int b, .int c2]) (rest := [.int (N 0), .ref 36]) (pc' := 10) (cs := []) (v := some (.int v)) (h1 := HP X c1 m o) rfl trivial (by decide) h ?_
  show Runs _ _ 10 _ [.int v, .int (N 0), .ref 36] _ _ _ _
  refine Runs.goH 4 (cs := [vp_in (N 0) 1]) (pc' := 28) (pl' := [some (.ref 0), some (.int a), some (.int b), some (.int c2), some (.ref 36), none]) (st' := [.int (N 0)]) (h1 := HP X c1 m (va_up o (N 0).toNatClampNeg v.toInt64)) (h' := HP X c1 m (va_up o 0 v.toInt64)) rfl ⟨(N_in (by decide) (by decide)), trivial⟩ rfl ?_
  exact Runs.retE (cs := []) rfl trivial (retI rfl) rfl
theorem l_either1 {X : Nat × (Nat → Int32)} {c c1 : CT} {m : MT} {o : Nat → Int64} {a b c2 : Int32} (h : Call 30 mX6_either [.ref 0, .int a, .int b, .int c2] (HP X c m o) (.inr "java/lang/IndexOutOfBoundsException") (HP X c1 m o) 1) : Call 31 mL_either [.ref 0, .int a, .int b, .int c2, .ref 36] (HP X c m o) (.inl (some (.int (N 1)))) (HP X c1 m o) 1 := by
  refine Runs.go 6 (cs := []) (pc' := 7) (pl' := [some (.ref 0), some (.int a), some (.int b), some (.int c2), some (.ref 36), none]) (st' := [.int c2, .int b, .int a, .ref 0, .int (N 0), .ref 36]) (h' := HP X c m o) rfl trivial ?_
  refine Runs.callH (k := 0) (y := mX6_either) (as := [.ref 0, .int a, .int b, .int c2]) (rest := [.int (N 0), .ref 36]) (pc' := 10) (cs := []) (ph := 17) (i := 5) (h1 := HP X c1 m o) rfl trivial (by decide) h rfl rfl ?_
  refine Runs.go 1 (cs := []) (pc' := 18) (pl' := [some (.ref 0), some (.int a), some (.int b), some (.int c2), some (.ref 36), none]) (st' := [.int (N 1)]) (h' := HP X c1 m o) rfl trivial ?_
  exact Runs.retE (cs := []) rfl trivial (retI rfl) rfl
theorem l_either2 {X : Nat × (Nat → Int32)} {c c1 : CT} {m : MT} {o : Nat → Int64} {a b c2 : Int32} (h : Call 30 mX6_either [.ref 0, .int a, .int b, .int c2] (HP X c m o) (.inr "java/lang/IllegalArgumentException") (HP X c1 m o) 1) : Call 31 mL_either [.ref 0, .int a, .int b, .int c2, .ref 36] (HP X c m o) (.inl (some (.int (N 2)))) (HP X c1 m o) 1 := by
  refine Runs.go 6 (cs := []) (pc' := 7) (pl' := [some (.ref 0), some (.int a), some (.int b), some (.int c2), some (.ref 36), none]) (st' := [.int c2, .int b, .int a, .ref 0, .int (N 0), .ref 36]) (h' := HP X c m o) rfl trivial ?_
  refine Runs.callH (k := 0) (y := mX6_either) (as := [.ref 0, .int a, .int b, .int c2]) (rest := [.int (N 0), .ref 36]) (pc' := 10) (cs := []) (ph := 21) (i := 5) (h1 := HP X c1 m o) rfl trivial (by decide) h rfl rfl ?_
  refine Runs.go 1 (cs := []) (pc' := 22) (pl' := [some (.ref 0), some (.int a), some (.int b), some (.int c2), some (.ref 36), none]) (st' := [.int (N 2)]) (h' := HP X c1 m o) rfl trivial ?_
  exact Runs.retE (cs := []) rfl trivial (retI rfl) rfl
theorem l_either3 {X : Nat × (Nat → Int32)} {c c1 : CT} {m : MT} {o : Nat → Int64} {a b c2 : Int32} (h : Call 30 mX6_either [.ref 0, .int a, .int b, .int c2] (HP X c m o) (.inr "java/lang/IllegalStateException") (HP X c1 m o) 1) : Call 31 mL_either [.ref 0, .int a, .int b, .int c2, .ref 36] (HP X c m o) (.inl (some (.int (N 3)))) (HP X c1 m o) 1 := by
  refine Runs.go 6 (cs := []) (pc' := 7) (pl' := [some (.ref 0), some (.int a), some (.int b), some (.int c2), some (.ref 36), none]) (st' := [.int c2, .int b, .int a, .ref 0, .int (N 0), .ref 36]) (h' := HP X c m o) rfl trivial ?_
  refine Runs.callH (k := 0) (y := mX6_either) (as := [.ref 0, .int a, .int b, .int c2]) (rest := [.int (N 0), .ref 36]) (pc' := 10) (cs := []) (ph := 25) (i := 5) (h1 := HP X c1 m o) rfl trivial (by decide) h rfl rfl ?_
  refine Runs.go 1 (cs := []) (pc' := 26) (pl' := [some (.ref 0), some (.int a), some (.int b), some (.int c2), some (.ref 36), none]) (st' := [.int (N 3)]) (h' := HP X c1 m o) rfl trivial ?_
  exact Runs.retE (cs := []) rfl trivial (retI rfl) rfl
theorem l_withdraw0 {X : Nat × (Nat → Int32)} {c c1 : CT} {m : MT} {o : Nat → Int64} {a : Int32} {v : Int32} (h : Call 30 mX6_withdraw [.ref 0, .int a] (HP X c m o) (.inl (some (.int v))) (HP X c1 m o) 0) : Call 31 mL_withdraw [.ref 0, .int a, .ref 36] (HP X c m o) (.inl (some (.int (N 0)))) (HP X c1 m (va_up o 0 v.toInt64)) 0 := by
  refine Runs.go 4 (cs := []) (pc' := 4) (pl' := [some (.ref 0), some (.int a), some (.ref 36), none]) (st' := [.int a, .ref 0, .int (N 0), .ref 36]) (h' := HP X c m o) rfl trivial ?_
  refine Runs.cal (y := mX6_withdraw) (as := [.ref 0, .int a]) (rest := [.int (N 0), .ref 36]) (pc' := 7) (cs := []) (v := some (.int v)) (h1 := HP X c1 m o) rfl trivial (by decide) h ?_
  show Runs _ _ 7 _ [.int v, .int (N 0), .ref 36] _ _ _ _
  refine Runs.goH 4 (cs := [vp_in (N 0) 1]) (pc' := 16) (pl' := [some (.ref 0), some (.int a), some (.ref 36), none]) (st' := [.int (N 0)]) (h1 := HP X c1 m (va_up o (N 0).toNatClampNeg v.toInt64)) (h' := HP X c1 m (va_up o 0 v.toInt64)) rfl ⟨(N_in (by decide) (by decide)), trivial⟩ rfl ?_
  exact Runs.retE (cs := []) rfl trivial (retI rfl) rfl
theorem l_withdraw1 {X : Nat × (Nat → Int32)} {c c1 : CT} {m : MT} {o : Nat → Int64} {a : Int32} (h : Call 30 mX6_withdraw [.ref 0, .int a] (HP X c m o) (.inr "java/lang/IndexOutOfBoundsException") (HP X c1 m o) 1) : Call 31 mL_withdraw [.ref 0, .int a, .ref 36] (HP X c m o) (.inl (some (.int (N 1)))) (HP X c1 m o) 1 := by
  refine Runs.go 4 (cs := []) (pc' := 4) (pl' := [some (.ref 0), some (.int a), some (.ref 36), none]) (st' := [.int a, .ref 0, .int (N 0), .ref 36]) (h' := HP X c m o) rfl trivial ?_
  refine Runs.callH (k := 0) (y := mX6_withdraw) (as := [.ref 0, .int a]) (rest := [.int (N 0), .ref 36]) (pc' := 7) (cs := []) (ph := 13) (i := 3) (h1 := HP X c1 m o) rfl trivial (by decide) h rfl rfl ?_
  refine Runs.go 1 (cs := []) (pc' := 14) (pl' := [some (.ref 0), some (.int a), some (.ref 36), none]) (st' := [.int (N 1)]) (h' := HP X c1 m o) rfl trivial ?_
  exact Runs.retE (cs := []) rfl trivial (retI rfl) rfl
theorem l_cross0 {X : Nat × (Nat → Int32)} {c c1 : CT} {m : MT} {o : Nat → Int64} {a b : Int32} {v : Int32} (h : Call 30 mX6_cross [.ref 0, .int a, .int b] (HP X c m o) (.inl (some (.int v))) (HP X c1 m o) 0) : Call 31 mL_cross [.ref 0, .int a, .int b, .ref 36] (HP X c m o) (.inl (some (.int (N 0)))) (HP X c1 m (va_up o 0 v.toInt64)) 0 := by
  refine Runs.go 5 (cs := []) (pc' := 5) (pl' := [some (.ref 0), some (.int a), some (.int b), some (.ref 36), none]) (st' := [.int b, .int a, .ref 0, .int (N 0), .ref 36]) (h' := HP X c m o) rfl trivial ?_
  refine Runs.cal (y := mX6_cross) (as := [.ref 0, .int a, .int b]) (rest := [.int (N 0), .ref 36]) (pc' := 8) (cs := []) (v := some (.int v)) (h1 := HP X c1 m o) rfl trivial (by decide) h ?_
  show Runs _ _ 8 _ [.int v, .int (N 0), .ref 36] _ _ _ _
  refine Runs.goH 4 (cs := [vp_in (N 0) 1]) (pc' := 22) (pl' := [some (.ref 0), some (.int a), some (.int b), some (.ref 36), none]) (st' := [.int (N 0)]) (h1 := HP X c1 m (va_up o (N 0).toNatClampNeg v.toInt64)) (h' := HP X c1 m (va_up o 0 v.toInt64)) rfl ⟨(N_in (by decide) (by decide)), trivial⟩ rfl ?_
  exact Runs.retE (cs := []) rfl trivial (retI rfl) rfl
theorem l_cross1 {X : Nat × (Nat → Int32)} {c c1 : CT} {m : MT} {o : Nat → Int64} {a b : Int32} (h : Call 30 mX6_cross [.ref 0, .int a, .int b] (HP X c m o) (.inr "java/lang/IndexOutOfBoundsException") (HP X c1 m o) 1) : Call 31 mL_cross [.ref 0, .int a, .int b, .ref 36] (HP X c m o) (.inl (some (.int (N 1)))) (HP X c1 m o) 1 := by
  refine Runs.go 5 (cs := []) (pc' := 5) (pl' := [some (.ref 0), some (.int a), some (.int b), some (.ref 36), none]) (st' := [.int b, .int a, .ref 0, .int (N 0), .ref 36]) (h' := HP X c m o) rfl trivial ?_
  refine Runs.callH (k := 0) (y := mX6_cross) (as := [.ref 0, .int a, .int b]) (rest := [.int (N 0), .ref 36]) (pc' := 8) (cs := []) (ph := 15) (i := 4) (h1 := HP X c1 m o) rfl trivial (by decide) h rfl rfl ?_
  refine Runs.go 1 (cs := []) (pc' := 16) (pl' := [some (.ref 0), some (.int a), some (.int b), some (.ref 36), none]) (st' := [.int (N 1)]) (h' := HP X c1 m o) rfl trivial ?_
  exact Runs.retE (cs := []) rfl trivial (retI rfl) rfl
theorem l_cross2 {X : Nat × (Nat → Int32)} {c c1 : CT} {m : MT} {o : Nat → Int64} {a b : Int32} (h : Call 30 mX6_cross [.ref 0, .int a, .int b] (HP X c m o) (.inr "java/lang/IllegalStateException") (HP X c1 m o) 1) : Call 31 mL_cross [.ref 0, .int a, .int b, .ref 36] (HP X c m o) (.inl (some (.int (N 2)))) (HP X c1 m o) 1 := by
  refine Runs.go 5 (cs := []) (pc' := 5) (pl' := [some (.ref 0), some (.int a), some (.int b), some (.ref 36), none]) (st' := [.int b, .int a, .ref 0, .int (N 0), .ref 36]) (h' := HP X c m o) rfl trivial ?_
  refine Runs.callH (k := 0) (y := mX6_cross) (as := [.ref 0, .int a, .int b]) (rest := [.int (N 0), .ref 36]) (pc' := 8) (cs := []) (ph := 19) (i := 4) (h1 := HP X c1 m o) rfl trivial (by decide) h rfl rfl ?_
  refine Runs.go 1 (cs := []) (pc' := 20) (pl' := [some (.ref 0), some (.int a), some (.int b), some (.ref 36), none]) (st' := [.int (N 2)]) (h' := HP X c1 m o) rfl trivial ?_
  exact Runs.retE (cs := []) rfl trivial (retI rfl) rfl
theorem l_rubOut0 {X : Nat × (Nat → Int32)} {c c1 : CT} {m : MT} {o : Nat → Int64} {a b : Int32} {v : Int32} (h : Call 30 mX6_rubOut [.ref 0, .int a, .int b] (HP X c m o) (.inl (some (.int v))) (HP X c1 m o) 0) : Call 31 mL_rubOut [.ref 0, .int a, .int b, .ref 36] (HP X c m o) (.inl (some (.int (N 0)))) (HP X c1 m (va_up o 0 v.toInt64)) 0 := by
  refine Runs.go 5 (cs := []) (pc' := 5) (pl' := [some (.ref 0), some (.int a), some (.int b), some (.ref 36), none]) (st' := [.int b, .int a, .ref 0, .int (N 0), .ref 36]) (h' := HP X c m o) rfl trivial ?_
  refine Runs.cal (y := mX6_rubOut) (as := [.ref 0, .int a, .int b]) (rest := [.int (N 0), .ref 36]) (pc' := 8) (cs := []) (v := some (.int v)) (h1 := HP X c1 m o) rfl trivial (by decide) h ?_
  show Runs _ _ 8 _ [.int v, .int (N 0), .ref 36] _ _ _ _
  refine Runs.goH 4 (cs := [vp_in (N 0) 1]) (pc' := 22) (pl' := [some (.ref 0), some (.int a), some (.int b), some (.ref 36), none]) (st' := [.int (N 0)]) (h1 := HP X c1 m (va_up o (N 0).toNatClampNeg v.toInt64)) (h' := HP X c1 m (va_up o 0 v.toInt64)) rfl ⟨(N_in (by decide) (by decide)), trivial⟩ rfl ?_
  exact Runs.retE (cs := []) rfl trivial (retI rfl) rfl
theorem l_rubOut1 {X : Nat × (Nat → Int32)} {c c1 : CT} {m : MT} {o : Nat → Int64} {a b : Int32} (h : Call 30 mX6_rubOut [.ref 0, .int a, .int b] (HP X c m o) (.inr "java/lang/IndexOutOfBoundsException") (HP X c1 m o) 1) : Call 31 mL_rubOut [.ref 0, .int a, .int b, .ref 36] (HP X c m o) (.inl (some (.int (N 1)))) (HP X c1 m o) 1 := by
  refine Runs.go 5 (cs := []) (pc' := 5) (pl' := [some (.ref 0), some (.int a), some (.int b), some (.ref 36), none]) (st' := [.int b, .int a, .ref 0, .int (N 0), .ref 36]) (h' := HP X c m o) rfl trivial ?_
  refine Runs.callH (k := 0) (y := mX6_rubOut) (as := [.ref 0, .int a, .int b]) (rest := [.int (N 0), .ref 36]) (pc' := 8) (cs := []) (ph := 15) (i := 4) (h1 := HP X c1 m o) rfl trivial (by decide) h rfl rfl ?_
  refine Runs.go 1 (cs := []) (pc' := 16) (pl' := [some (.ref 0), some (.int a), some (.int b), some (.ref 36), none]) (st' := [.int (N 1)]) (h' := HP X c1 m o) rfl trivial ?_
  exact Runs.retE (cs := []) rfl trivial (retI rfl) rfl
theorem l_rubOut2 {X : Nat × (Nat → Int32)} {c c1 : CT} {m : MT} {o : Nat → Int64} {a b : Int32} (h : Call 30 mX6_rubOut [.ref 0, .int a, .int b] (HP X c m o) (.inr "java/lang/IllegalStateException") (HP X c1 m o) 1) : Call 31 mL_rubOut [.ref 0, .int a, .int b, .ref 36] (HP X c m o) (.inl (some (.int (N 2)))) (HP X c1 m o) 1 := by
  refine Runs.go 5 (cs := []) (pc' := 5) (pl' := [some (.ref 0), some (.int a), some (.int b), some (.ref 36), none]) (st' := [.int b, .int a, .ref 0, .int (N 0), .ref 36]) (h' := HP X c m o) rfl trivial ?_
  refine Runs.callH (k := 0) (y := mX6_rubOut) (as := [.ref 0, .int a, .int b]) (rest := [.int (N 0), .ref 36]) (pc' := 8) (cs := []) (ph := 19) (i := 4) (h1 := HP X c1 m o) rfl trivial (by decide) h rfl rfl ?_
  refine Runs.go 1 (cs := []) (pc' := 20) (pl' := [some (.ref 0), some (.int a), some (.int b), some (.ref 36), none]) (st' := [.int (N 2)]) (h' := HP X c1 m o) rfl trivial ?_
  exact Runs.retE (cs := []) rfl trivial (retI rfl) rfl
theorem l_settle0 {X : Nat × (Nat → Int32)} {c c1 : CT} {m : MT} {o : Nat → Int64} {v : Int32} (h : Call 30 mX6_settle [.ref 0] (HP X c m o) (.inl (some (.int v))) (HP X c1 m o) 0) : Call 31 mL_settle [.ref 0, .ref 36] (HP X c m o) (.inl (some (.int (N 0)))) (HP X c1 m (va_up o 0 v.toInt64)) 0 := by
  refine Runs.go 3 (cs := []) (pc' := 3) (pl' := [some (.ref 0), some (.ref 36), none]) (st' := [.ref 0, .int (N 0), .ref 36]) (h' := HP X c m o) rfl trivial ?_
  refine Runs.cal (y := mX6_settle) (as := [.ref 0]) (rest := [.int (N 0), .ref 36]) (pc' := 6) (cs := []) (v := some (.int v)) (h1 := HP X c1 m o) rfl trivial (by decide) h ?_
  show Runs _ _ 6 _ [.int v, .int (N 0), .ref 36] _ _ _ _
  refine Runs.goH 4 (cs := [vp_in (N 0) 1]) (pc' := 15) (pl' := [some (.ref 0), some (.ref 36), none]) (st' := [.int (N 0)]) (h1 := HP X c1 m (va_up o (N 0).toNatClampNeg v.toInt64)) (h' := HP X c1 m (va_up o 0 v.toInt64)) rfl ⟨(N_in (by decide) (by decide)), trivial⟩ rfl ?_
  exact Runs.retE (cs := []) rfl trivial (retI rfl) rfl
theorem l_settle1 {X : Nat × (Nat → Int32)} {c c1 : CT} {m : MT} {o : Nat → Int64} (h : Call 30 mX6_settle [.ref 0] (HP X c m o) (.inr "java/lang/IllegalStateException") (HP X c1 m o) 1) : Call 31 mL_settle [.ref 0, .ref 36] (HP X c m o) (.inl (some (.int (N 1)))) (HP X c1 m o) 1 := by
  refine Runs.go 3 (cs := []) (pc' := 3) (pl' := [some (.ref 0), some (.ref 36), none]) (st' := [.ref 0, .int (N 0), .ref 36]) (h' := HP X c m o) rfl trivial ?_
  refine Runs.callH (k := 0) (y := mX6_settle) (as := [.ref 0]) (rest := [.int (N 0), .ref 36]) (pc' := 6) (cs := []) (ph := 12) (i := 2) (h1 := HP X c1 m o) rfl trivial (by decide) h rfl rfl ?_
  refine Runs.go 1 (cs := []) (pc' := 13) (pl' := [some (.ref 0), some (.ref 36), none]) (st' := [.int (N 1)]) (h' := HP X c1 m o) rfl trivial ?_
  exact Runs.retE (cs := []) rfl trivial (retI rfl) rfl
theorem l_append0 {X : Nat × (Nat → Int32)} {c c1 : CT} {m : MT} {o : Nat → Int64} {a : Int32} {v : Int32} (h : Call 30 mX6_append [.ref 0, .int a] (HP X c m o) (.inl (some (.int v))) (HP X c1 m o) 0) : Call 31 mL_append [.ref 0, .int a, .ref 36] (HP X c m o) (.inl (some (.int (N 0)))) (HP X c1 m (va_up o 0 v.toInt64)) 0 := by
  refine Runs.go 4 (cs := []) (pc' := 4) (pl' := [some (.ref 0), some (.int a), some (.ref 36), none]) (st' := [.int a, .ref 0, .int (N 0), .ref 36]) (h' := HP X c m o) rfl trivial ?_
  refine Runs.cal (y := mX6_append) (as := [.ref 0, .int a]) (rest := [.int (N 0), .ref 36]) (pc' := 7) (cs := []) (v := some (.int v)) (h1 := HP X c1 m o) rfl trivial (by decide) h ?_
  show Runs _ _ 7 _ [.int v, .int (N 0), .ref 36] _ _ _ _
  refine Runs.goH 4 (cs := [vp_in (N 0) 1]) (pc' := 19) (pl' := [some (.ref 0), some (.int a), some (.ref 36), none]) (st' := [.int (N 0)]) (h1 := HP X c1 m (va_up o (N 0).toNatClampNeg v.toInt64)) (h' := HP X c1 m (va_up o 0 v.toInt64)) rfl ⟨(N_in (by decide) (by decide)), trivial⟩ rfl ?_
  exact Runs.retE (cs := []) rfl trivial (retI rfl) rfl
theorem l_append1 {X : Nat × (Nat → Int32)} {c c1 : CT} {m : MT} {o : Nat → Int64} {a : Int32} (h : Call 30 mX6_append [.ref 0, .int a] (HP X c m o) (.inr "java/lang/IllegalArgumentException") (HP X c1 m o) 1) : Call 31 mL_append [.ref 0, .int a, .ref 36] (HP X c m o) (.inl (some (.int (N 1)))) (HP X c1 m o) 1 := by
  refine Runs.go 4 (cs := []) (pc' := 4) (pl' := [some (.ref 0), some (.int a), some (.ref 36), none]) (st' := [.int a, .ref 0, .int (N 0), .ref 36]) (h' := HP X c m o) rfl trivial ?_
  refine Runs.callH (k := 0) (y := mX6_append) (as := [.ref 0, .int a]) (rest := [.int (N 0), .ref 36]) (pc' := 7) (cs := []) (ph := 13) (i := 3) (h1 := HP X c1 m o) rfl trivial (by decide) h rfl rfl ?_
  refine Runs.go 1 (cs := []) (pc' := 14) (pl' := [some (.ref 0), some (.int a), some (.ref 36), none]) (st' := [.int (N 1)]) (h' := HP X c1 m o) rfl trivial ?_
  exact Runs.retE (cs := []) rfl trivial (retI rfl) rfl
theorem l_append2 {X : Nat × (Nat → Int32)} {c c1 : CT} {m : MT} {o : Nat → Int64} {a : Int32} (h : Call 30 mX6_append [.ref 0, .int a] (HP X c m o) (.inr "java/lang/IllegalStateException") (HP X c1 m o) 1) : Call 31 mL_append [.ref 0, .int a, .ref 36] (HP X c m o) (.inl (some (.int (N 2)))) (HP X c1 m o) 1 := by
  refine Runs.go 4 (cs := []) (pc' := 4) (pl' := [some (.ref 0), some (.int a), some (.ref 36), none]) (st' := [.int a, .ref 0, .int (N 0), .ref 36]) (h' := HP X c m o) rfl trivial ?_
  refine Runs.callH (k := 0) (y := mX6_append) (as := [.ref 0, .int a]) (rest := [.int (N 0), .ref 36]) (pc' := 7) (cs := []) (ph := 16) (i := 3) (h1 := HP X c1 m o) rfl trivial (by decide) h rfl rfl ?_
  refine Runs.go 1 (cs := []) (pc' := 17) (pl' := [some (.ref 0), some (.int a), some (.ref 36), none]) (st' := [.int (N 2)]) (h' := HP X c1 m o) rfl trivial ?_
  exact Runs.retE (cs := []) rfl trivial (retI rfl) rfl
theorem l_take0 {X : Nat × (Nat → Int32)} {c c1 : CT} {m : MT} {o : Nat → Int64} {v : Int32} (h : Call 30 mX6_take [.ref 0] (HP X c m o) (.inl (some (.int v))) (HP X c1 m o) 0) : Call 31 mL_take [.ref 0, .ref 36] (HP X c m o) (.inl (some (.int (N 0)))) (HP X c1 m (va_up o 0 v.toInt64)) 0 := by
  refine Runs.go 3 (cs := []) (pc' := 3) (pl' := [some (.ref 0), some (.ref 36), none]) (st' := [.ref 0, .int (N 0), .ref 36]) (h' := HP X c m o) rfl trivial ?_
  refine Runs.cal (y := mX6_take) (as := [.ref 0]) (rest := [.int (N 0), .ref 36]) (pc' := 6) (cs := []) (v := some (.int v)) (h1 := HP X c1 m o) rfl trivial (by decide) h ?_
  show Runs _ _ 6 _ [.int v, .int (N 0), .ref 36] _ _ _ _
  refine Runs.goH 4 (cs := [vp_in (N 0) 1]) (pc' := 15) (pl' := [some (.ref 0), some (.ref 36), none]) (st' := [.int (N 0)]) (h1 := HP X c1 m (va_up o (N 0).toNatClampNeg v.toInt64)) (h' := HP X c1 m (va_up o 0 v.toInt64)) rfl ⟨(N_in (by decide) (by decide)), trivial⟩ rfl ?_
  exact Runs.retE (cs := []) rfl trivial (retI rfl) rfl
theorem l_take1 {X : Nat × (Nat → Int32)} {c c1 : CT} {m : MT} {o : Nat → Int64} (h : Call 30 mX6_take [.ref 0] (HP X c m o) (.inr "java/lang/IllegalArgumentException") (HP X c1 m o) 1) : Call 31 mL_take [.ref 0, .ref 36] (HP X c m o) (.inl (some (.int (N 1)))) (HP X c1 m o) 1 := by
  refine Runs.go 3 (cs := []) (pc' := 3) (pl' := [some (.ref 0), some (.ref 36), none]) (st' := [.ref 0, .int (N 0), .ref 36]) (h' := HP X c m o) rfl trivial ?_
  refine Runs.callH (k := 0) (y := mX6_take) (as := [.ref 0]) (rest := [.int (N 0), .ref 36]) (pc' := 6) (cs := []) (ph := 12) (i := 2) (h1 := HP X c1 m o) rfl trivial (by decide) h rfl rfl ?_
  refine Runs.go 1 (cs := []) (pc' := 13) (pl' := [some (.ref 0), some (.ref 36), none]) (st' := [.int (N 1)]) (h' := HP X c1 m o) rfl trivial ?_
  exact Runs.retE (cs := []) rfl trivial (retI rfl) rfl
theorem l_goBack0 {X : Nat × (Nat → Int32)} {c c1 : CT} {m : MT} {o : Nat → Int64} {v : Int32} (h : Call 30 mX6_goBack [.ref 0] (HP X c m o) (.inl (some (.int v))) (HP X c1 m o) 0) : Call 31 mL_goBack [.ref 0, .ref 36] (HP X c m o) (.inl (some (.int (N 0)))) (HP X c1 m (va_up o 0 v.toInt64)) 0 := by
  refine Runs.go 3 (cs := []) (pc' := 3) (pl' := [some (.ref 0), some (.ref 36), none]) (st' := [.ref 0, .int (N 0), .ref 36]) (h' := HP X c m o) rfl trivial ?_
  refine Runs.cal (y := mX6_goBack) (as := [.ref 0]) (rest := [.int (N 0), .ref 36]) (pc' := 6) (cs := []) (v := some (.int v)) (h1 := HP X c1 m o) rfl trivial (by decide) h ?_
  show Runs _ _ 6 _ [.int v, .int (N 0), .ref 36] _ _ _ _
  refine Runs.goH 4 (cs := [vp_in (N 0) 1]) (pc' := 15) (pl' := [some (.ref 0), some (.ref 36), none]) (st' := [.int (N 0)]) (h1 := HP X c1 m (va_up o (N 0).toNatClampNeg v.toInt64)) (h' := HP X c1 m (va_up o 0 v.toInt64)) rfl ⟨(N_in (by decide) (by decide)), trivial⟩ rfl ?_
  exact Runs.retE (cs := []) rfl trivial (retI rfl) rfl
theorem l_goBack1 {X : Nat × (Nat → Int32)} {c c1 : CT} {m : MT} {o : Nat → Int64} (h : Call 30 mX6_goBack [.ref 0] (HP X c m o) (.inr "java/lang/IllegalStateException") (HP X c1 m o) 1) : Call 31 mL_goBack [.ref 0, .ref 36] (HP X c m o) (.inl (some (.int (N 1)))) (HP X c1 m o) 1 := by
  refine Runs.go 3 (cs := []) (pc' := 3) (pl' := [some (.ref 0), some (.ref 36), none]) (st' := [.ref 0, .int (N 0), .ref 36]) (h' := HP X c m o) rfl trivial ?_
  refine Runs.callH (k := 0) (y := mX6_goBack) (as := [.ref 0]) (rest := [.int (N 0), .ref 36]) (pc' := 6) (cs := []) (ph := 12) (i := 2) (h1 := HP X c1 m o) rfl trivial (by decide) h rfl rfl ?_
  refine Runs.go 1 (cs := []) (pc' := 13) (pl' := [some (.ref 0), some (.ref 36), none]) (st' := [.int (N 1)]) (h' := HP X c1 m o) rfl trivial ?_
  exact Runs.retE (cs := []) rfl trivial (retI rfl) rfl
theorem l_undo0 {X : Nat × (Nat → Int32)} {c c1 : CT} {m : MT} {o : Nat → Int64} {v : Int32} (h : Call 30 mX6_undo [.ref 0] (HP X c m o) (.inl (some (.int v))) (HP X c1 m o) 0) : Call 31 mL_undo [.ref 0, .ref 36] (HP X c m o) (.inl (some (.int (N 0)))) (HP X c1 m (va_up o 0 v.toInt64)) 0 := by
  refine Runs.go 3 (cs := []) (pc' := 3) (pl' := [some (.ref 0), some (.ref 36), none]) (st' := [.ref 0, .int (N 0), .ref 36]) (h' := HP X c m o) rfl trivial ?_
  refine Runs.cal (y := mX6_undo) (as := [.ref 0]) (rest := [.int (N 0), .ref 36]) (pc' := 6) (cs := []) (v := some (.int v)) (h1 := HP X c1 m o) rfl trivial (by decide) h ?_
  show Runs _ _ 6 _ [.int v, .int (N 0), .ref 36] _ _ _ _
  refine Runs.goH 4 (cs := [vp_in (N 0) 1]) (pc' := 15) (pl' := [some (.ref 0), some (.ref 36), none]) (st' := [.int (N 0)]) (h1 := HP X c1 m (va_up o (N 0).toNatClampNeg v.toInt64)) (h' := HP X c1 m (va_up o 0 v.toInt64)) rfl ⟨(N_in (by decide) (by decide)), trivial⟩ rfl ?_
  exact Runs.retE (cs := []) rfl trivial (retI rfl) rfl
theorem l_undo1 {X : Nat × (Nat → Int32)} {c c1 : CT} {m : MT} {o : Nat → Int64} (h : Call 30 mX6_undo [.ref 0] (HP X c m o) (.inr "java/lang/IllegalStateException") (HP X c1 m o) 1) : Call 31 mL_undo [.ref 0, .ref 36] (HP X c m o) (.inl (some (.int (N 1)))) (HP X c1 m o) 1 := by
  refine Runs.go 3 (cs := []) (pc' := 3) (pl' := [some (.ref 0), some (.ref 36), none]) (st' := [.ref 0, .int (N 0), .ref 36]) (h' := HP X c m o) rfl trivial ?_
  refine Runs.callH (k := 0) (y := mX6_undo) (as := [.ref 0]) (rest := [.int (N 0), .ref 36]) (pc' := 6) (cs := []) (ph := 12) (i := 2) (h1 := HP X c1 m o) rfl trivial (by decide) h rfl rfl ?_
  refine Runs.go 1 (cs := []) (pc' := 13) (pl' := [some (.ref 0), some (.ref 36), none]) (st' := [.int (N 1)]) (h' := HP X c1 m o) rfl trivial ?_
  exact Runs.retE (cs := []) rfl trivial (retI rfl) rfl
theorem l_sortOf0 {X : Nat × (Nat → Int32)} {c c1 : CT} {m : MT} {o : Nat → Int64} {a : Int32} {v : Int32} (h : Call 30 mX6_sortOf [.ref 0, .int a] (HP X c m o) (.inl (some (.int v))) (HP X c1 m o) 0) : Call 31 mL_sortOf [.ref 0, .int a, .ref 36] (HP X c m o) (.inl (some (.int (N 0)))) (HP X c1 m (va_up o 0 v.toInt64)) 0 := by
  refine Runs.go 4 (cs := []) (pc' := 4) (pl' := [some (.ref 0), some (.int a), some (.ref 36), none]) (st' := [.int a, .ref 0, .int (N 0), .ref 36]) (h' := HP X c m o) rfl trivial ?_
  refine Runs.cal (y := mX6_sortOf) (as := [.ref 0, .int a]) (rest := [.int (N 0), .ref 36]) (pc' := 7) (cs := []) (v := some (.int v)) (h1 := HP X c1 m o) rfl trivial (by decide) h ?_
  show Runs _ _ 7 _ [.int v, .int (N 0), .ref 36] _ _ _ _
  refine Runs.goH 4 (cs := [vp_in (N 0) 1]) (pc' := 16) (pl' := [some (.ref 0), some (.int a), some (.ref 36), none]) (st' := [.int (N 0)]) (h1 := HP X c1 m (va_up o (N 0).toNatClampNeg v.toInt64)) (h' := HP X c1 m (va_up o 0 v.toInt64)) rfl ⟨(N_in (by decide) (by decide)), trivial⟩ rfl ?_
  exact Runs.retE (cs := []) rfl trivial (retI rfl) rfl
theorem l_sortOf1 {X : Nat × (Nat → Int32)} {c c1 : CT} {m : MT} {o : Nat → Int64} {a : Int32} (h : Call 30 mX6_sortOf [.ref 0, .int a] (HP X c m o) (.inr "java/lang/IndexOutOfBoundsException") (HP X c1 m o) 1) : Call 31 mL_sortOf [.ref 0, .int a, .ref 36] (HP X c m o) (.inl (some (.int (N 1)))) (HP X c1 m o) 1 := by
  refine Runs.go 4 (cs := []) (pc' := 4) (pl' := [some (.ref 0), some (.int a), some (.ref 36), none]) (st' := [.int a, .ref 0, .int (N 0), .ref 36]) (h' := HP X c m o) rfl trivial ?_
  refine Runs.callH (k := 0) (y := mX6_sortOf) (as := [.ref 0, .int a]) (rest := [.int (N 0), .ref 36]) (pc' := 7) (cs := []) (ph := 13) (i := 3) (h1 := HP X c1 m o) rfl trivial (by decide) h rfl rfl ?_
  refine Runs.go 1 (cs := []) (pc' := 14) (pl' := [some (.ref 0), some (.int a), some (.ref 36), none]) (st' := [.int (N 1)]) (h' := HP X c1 m o) rfl trivial ?_
  exact Runs.retE (cs := []) rfl trivial (retI rfl) rfl
theorem l_itemOf0 {X : Nat × (Nat → Int32)} {c c1 : CT} {m : MT} {o : Nat → Int64} {a b : Int32} {v : Int32} (h : Call 30 mX6_itemOf [.ref 0, .int a, .int b] (HP X c m o) (.inl (some (.int v))) (HP X c1 m o) 0) : Call 31 mL_itemOf [.ref 0, .int a, .int b, .ref 36] (HP X c m o) (.inl (some (.int (N 0)))) (HP X c1 m (va_up o 0 v.toInt64)) 0 := by
  refine Runs.go 5 (cs := []) (pc' := 5) (pl' := [some (.ref 0), some (.int a), some (.int b), some (.ref 36), none]) (st' := [.int b, .int a, .ref 0, .int (N 0), .ref 36]) (h' := HP X c m o) rfl trivial ?_
  refine Runs.cal (y := mX6_itemOf) (as := [.ref 0, .int a, .int b]) (rest := [.int (N 0), .ref 36]) (pc' := 8) (cs := []) (v := some (.int v)) (h1 := HP X c1 m o) rfl trivial (by decide) h ?_
  show Runs _ _ 8 _ [.int v, .int (N 0), .ref 36] _ _ _ _
  refine Runs.goH 4 (cs := [vp_in (N 0) 1]) (pc' := 18) (pl' := [some (.ref 0), some (.int a), some (.int b), some (.ref 36), none]) (st' := [.int (N 0)]) (h1 := HP X c1 m (va_up o (N 0).toNatClampNeg v.toInt64)) (h' := HP X c1 m (va_up o 0 v.toInt64)) rfl ⟨(N_in (by decide) (by decide)), trivial⟩ rfl ?_
  exact Runs.retE (cs := []) rfl trivial (retI rfl) rfl
theorem l_itemOf1 {X : Nat × (Nat → Int32)} {c c1 : CT} {m : MT} {o : Nat → Int64} {a b : Int32} (h : Call 30 mX6_itemOf [.ref 0, .int a, .int b] (HP X c m o) (.inr "java/lang/IndexOutOfBoundsException") (HP X c1 m o) 1) : Call 31 mL_itemOf [.ref 0, .int a, .int b, .ref 36] (HP X c m o) (.inl (some (.int (N 1)))) (HP X c1 m o) 1 := by
  refine Runs.go 5 (cs := []) (pc' := 5) (pl' := [some (.ref 0), some (.int a), some (.int b), some (.ref 36), none]) (st' := [.int b, .int a, .ref 0, .int (N 0), .ref 36]) (h' := HP X c m o) rfl trivial ?_
  refine Runs.callH (k := 0) (y := mX6_itemOf) (as := [.ref 0, .int a, .int b]) (rest := [.int (N 0), .ref 36]) (pc' := 8) (cs := []) (ph := 15) (i := 4) (h1 := HP X c1 m o) rfl trivial (by decide) h rfl rfl ?_
  refine Runs.go 1 (cs := []) (pc' := 16) (pl' := [some (.ref 0), some (.int a), some (.int b), some (.ref 36), none]) (st' := [.int (N 1)]) (h' := HP X c1 m o) rfl trivial ?_
  exact Runs.retE (cs := []) rfl trivial (retI rfl) rfl
theorem l_placeOf0 {X : Nat × (Nat → Int32)} {c c1 : CT} {m : MT} {o : Nat → Int64} {a : Int32} {v : Int32} (h : Call 30 mX6_placeOf [.ref 0, .int a] (HP X c m o) (.inl (some (.int v))) (HP X c1 m o) 0) : Call 31 mL_placeOf [.ref 0, .int a, .ref 36] (HP X c m o) (.inl (some (.int (N 0)))) (HP X c1 m (va_up o 0 v.toInt64)) 0 := by
  refine Runs.go 4 (cs := []) (pc' := 4) (pl' := [some (.ref 0), some (.int a), some (.ref 36), none]) (st' := [.int a, .ref 0, .int (N 0), .ref 36]) (h' := HP X c m o) rfl trivial ?_
  refine Runs.cal (y := mX6_placeOf) (as := [.ref 0, .int a]) (rest := [.int (N 0), .ref 36]) (pc' := 7) (cs := []) (v := some (.int v)) (h1 := HP X c1 m o) rfl trivial (by decide) h ?_
  show Runs _ _ 7 _ [.int v, .int (N 0), .ref 36] _ _ _ _
  refine Runs.goH 4 (cs := [vp_in (N 0) 1]) (pc' := 16) (pl' := [some (.ref 0), some (.int a), some (.ref 36), none]) (st' := [.int (N 0)]) (h1 := HP X c1 m (va_up o (N 0).toNatClampNeg v.toInt64)) (h' := HP X c1 m (va_up o 0 v.toInt64)) rfl ⟨(N_in (by decide) (by decide)), trivial⟩ rfl ?_
  exact Runs.retE (cs := []) rfl trivial (retI rfl) rfl
theorem l_placeOf1 {X : Nat × (Nat → Int32)} {c c1 : CT} {m : MT} {o : Nat → Int64} {a : Int32} (h : Call 30 mX6_placeOf [.ref 0, .int a] (HP X c m o) (.inr "java/lang/IndexOutOfBoundsException") (HP X c1 m o) 1) : Call 31 mL_placeOf [.ref 0, .int a, .ref 36] (HP X c m o) (.inl (some (.int (N 1)))) (HP X c1 m o) 1 := by
  refine Runs.go 4 (cs := []) (pc' := 4) (pl' := [some (.ref 0), some (.int a), some (.ref 36), none]) (st' := [.int a, .ref 0, .int (N 0), .ref 36]) (h' := HP X c m o) rfl trivial ?_
  refine Runs.callH (k := 0) (y := mX6_placeOf) (as := [.ref 0, .int a]) (rest := [.int (N 0), .ref 36]) (pc' := 7) (cs := []) (ph := 13) (i := 3) (h1 := HP X c1 m o) rfl trivial (by decide) h rfl rfl ?_
  refine Runs.go 1 (cs := []) (pc' := 14) (pl' := [some (.ref 0), some (.int a), some (.ref 36), none]) (st' := [.int (N 1)]) (h' := HP X c1 m o) rfl trivial ?_
  exact Runs.retE (cs := []) rfl trivial (retI rfl) rfl
theorem l_isCrossed0 {X : Nat × (Nat → Int32)} {c c1 : CT} {m : MT} {o : Nat → Int64} {a b : Int32} {b0 : Bool} (h : Call 30 mX6_isCrossed [.ref 0, .int a, .int b] (HP X c m o) (.inl (some (.int (bI b0)))) (HP X c1 m o) 0) : Call 31 mL_isCrossed [.ref 0, .int a, .int b, .ref 36] (HP X c m o) (.inl (some (.int (N 0)))) (HP X c1 m (va_up o 0 (bI b0).toInt64)) 0 := by
  refine Runs.go 5 (cs := []) (pc' := 5) (pl' := [some (.ref 0), some (.int a), some (.int b), some (.ref 36), none]) (st' := [.int b, .int a, .ref 0, .int (N 0), .ref 36]) (h' := HP X c m o) rfl trivial ?_
  refine Runs.cal (y := mX6_isCrossed) (as := [.ref 0, .int a, .int b]) (rest := [.int (N 0), .ref 36]) (pc' := 8) (cs := []) (v := some (.int (bI b0))) (h1 := HP X c1 m o) rfl trivial (by decide) h ?_
  show Runs _ _ 8 _ [.int (bI b0), .int (N 0), .ref 36] _ _ _ _
  refine Runs.go 1 (cs := []) (pc' := bif decide ((bI b0) = 0) then 15 else 11) (pl' := [some (.ref 0), some (.int a), some (.int b), some (.ref 36), none]) (st' := [.int (N 0), .ref 36]) (h' := HP X c1 m o) rfl trivial ?_
  cases b0 with
  | false =>
    refine Runs.brT rfl ?_
    refine Runs.goH 4 (cs := [vp_in (N 0) 1]) (pc' := 25) (pl' := [some (.ref 0), some (.int a), some (.int b), some (.ref 36), none]) (st' := [.int (N 0)]) (h1 := HP X c1 m (va_up o (N 0).toNatClampNeg (L 0))) (h' := HP X c1 m (va_up o 0 (bI false).toInt64)) rfl ⟨(N_in (by decide) (by decide)), trivial⟩ rfl ?_
    exact Runs.retE (cs := []) rfl trivial (retI rfl) rfl
  | true =>
    refine Runs.brF rfl ?_
    refine Runs.goH 5 (cs := [vp_in (N 0) 1]) (pc' := 25) (pl' := [some (.ref 0), some (.int a), some (.int b), some (.ref 36), none]) (st' := [.int (N 0)]) (h1 := HP X c1 m (va_up o (N 0).toNatClampNeg (L 1))) (h' := HP X c1 m (va_up o 0 (bI true).toInt64)) rfl ⟨(N_in (by decide) (by decide)), trivial⟩ rfl ?_
    exact Runs.retE (cs := []) rfl trivial (retI rfl) rfl
theorem l_isCrossed1 {X : Nat × (Nat → Int32)} {c c1 : CT} {m : MT} {o : Nat → Int64} {a b : Int32} (h : Call 30 mX6_isCrossed [.ref 0, .int a, .int b] (HP X c m o) (.inr "java/lang/IndexOutOfBoundsException") (HP X c1 m o) 1) : Call 31 mL_isCrossed [.ref 0, .int a, .int b, .ref 36] (HP X c m o) (.inl (some (.int (N 1)))) (HP X c1 m o) 1 := by
  refine Runs.go 5 (cs := []) (pc' := 5) (pl' := [some (.ref 0), some (.int a), some (.int b), some (.ref 36), none]) (st' := [.int b, .int a, .ref 0, .int (N 0), .ref 36]) (h' := HP X c m o) rfl trivial ?_
  refine Runs.callH (k := 0) (y := mX6_isCrossed) (as := [.ref 0, .int a, .int b]) (rest := [.int (N 0), .ref 36]) (pc' := 8) (cs := []) (ph := 22) (i := 4) (h1 := HP X c1 m o) rfl trivial (by decide) h rfl rfl ?_
  refine Runs.go 1 (cs := []) (pc' := 23) (pl' := [some (.ref 0), some (.int a), some (.int b), some (.ref 36), none]) (st' := [.int (N 1)]) (h' := HP X c1 m o) rfl trivial ?_
  exact Runs.retE (cs := []) rfl trivial (retI rfl) rfl
theorem l_left0 {X : Nat × (Nat → Int32)} {c c1 : CT} {m : MT} {o : Nat → Int64} {a : Int32} {v : Int32} (h : Call 30 mX6_left [.ref 0, .int a] (HP X c m o) (.inl (some (.int v))) (HP X c1 m o) 0) : Call 31 mL_left [.ref 0, .int a, .ref 36] (HP X c m o) (.inl (some (.int (N 0)))) (HP X c1 m (va_up o 0 v.toInt64)) 0 := by
  refine Runs.go 4 (cs := []) (pc' := 4) (pl' := [some (.ref 0), some (.int a), some (.ref 36), none]) (st' := [.int a, .ref 0, .int (N 0), .ref 36]) (h' := HP X c m o) rfl trivial ?_
  refine Runs.cal (y := mX6_left) (as := [.ref 0, .int a]) (rest := [.int (N 0), .ref 36]) (pc' := 7) (cs := []) (v := some (.int v)) (h1 := HP X c1 m o) rfl trivial (by decide) h ?_
  show Runs _ _ 7 _ [.int v, .int (N 0), .ref 36] _ _ _ _
  refine Runs.goH 4 (cs := [vp_in (N 0) 1]) (pc' := 16) (pl' := [some (.ref 0), some (.int a), some (.ref 36), none]) (st' := [.int (N 0)]) (h1 := HP X c1 m (va_up o (N 0).toNatClampNeg v.toInt64)) (h' := HP X c1 m (va_up o 0 v.toInt64)) rfl ⟨(N_in (by decide) (by decide)), trivial⟩ rfl ?_
  exact Runs.retE (cs := []) rfl trivial (retI rfl) rfl
theorem l_left1 {X : Nat × (Nat → Int32)} {c c1 : CT} {m : MT} {o : Nat → Int64} {a : Int32} (h : Call 30 mX6_left [.ref 0, .int a] (HP X c m o) (.inr "java/lang/IndexOutOfBoundsException") (HP X c1 m o) 1) : Call 31 mL_left [.ref 0, .int a, .ref 36] (HP X c m o) (.inl (some (.int (N 1)))) (HP X c1 m o) 1 := by
  refine Runs.go 4 (cs := []) (pc' := 4) (pl' := [some (.ref 0), some (.int a), some (.ref 36), none]) (st' := [.int a, .ref 0, .int (N 0), .ref 36]) (h' := HP X c m o) rfl trivial ?_
  refine Runs.callH (k := 0) (y := mX6_left) (as := [.ref 0, .int a]) (rest := [.int (N 0), .ref 36]) (pc' := 7) (cs := []) (ph := 13) (i := 3) (h1 := HP X c1 m o) rfl trivial (by decide) h rfl rfl ?_
  refine Runs.go 1 (cs := []) (pc' := 14) (pl' := [some (.ref 0), some (.int a), some (.ref 36), none]) (st' := [.int (N 1)]) (h' := HP X c1 m o) rfl trivial ?_
  exact Runs.retE (cs := []) rfl trivial (retI rfl) rfl
theorem l_leftByTurns0 {X : Nat × (Nat → Int32)} {c c1 : CT} {m : MT} {o : Nat → Int64} {a : Int32} {v : Int32} (h : Call 30 mX6_leftByTurns [.ref 0, .int a] (HP X c m o) (.inl (some (.int v))) (HP X c1 m o) 0) : Call 31 mL_leftByTurns [.ref 0, .int a, .ref 36] (HP X c m o) (.inl (some (.int (N 0)))) (HP X c1 m (va_up o 0 v.toInt64)) 0 := by
  refine Runs.go 4 (cs := []) (pc' := 4) (pl' := [some (.ref 0), some (.int a), some (.ref 36), none]) (st' := [.int a, .ref 0, .int (N 0), .ref 36]) (h' := HP X c m o) rfl trivial ?_
  refine Runs.cal (y := mX6_leftByTurns) (as := [.ref 0, .int a]) (rest := [.int (N 0), .ref 36]) (pc' := 7) (cs := []) (v := some (.int v)) (h1 := HP X c1 m o) rfl trivial (by decide) h ?_
  show Runs _ _ 7 _ [.int v, .int (N 0), .ref 36] _ _ _ _
  refine Runs.goH 4 (cs := [vp_in (N 0) 1]) (pc' := 16) (pl' := [some (.ref 0), some (.int a), some (.ref 36), none]) (st' := [.int (N 0)]) (h1 := HP X c1 m (va_up o (N 0).toNatClampNeg v.toInt64)) (h' := HP X c1 m (va_up o 0 v.toInt64)) rfl ⟨(N_in (by decide) (by decide)), trivial⟩ rfl ?_
  exact Runs.retE (cs := []) rfl trivial (retI rfl) rfl
theorem l_leftByTurns1 {X : Nat × (Nat → Int32)} {c c1 : CT} {m : MT} {o : Nat → Int64} {a : Int32} (h : Call 30 mX6_leftByTurns [.ref 0, .int a] (HP X c m o) (.inr "java/lang/IndexOutOfBoundsException") (HP X c1 m o) 1) : Call 31 mL_leftByTurns [.ref 0, .int a, .ref 36] (HP X c m o) (.inl (some (.int (N 1)))) (HP X c1 m o) 1 := by
  refine Runs.go 4 (cs := []) (pc' := 4) (pl' := [some (.ref 0), some (.int a), some (.ref 36), none]) (st' := [.int a, .ref 0, .int (N 0), .ref 36]) (h' := HP X c m o) rfl trivial ?_
  refine Runs.callH (k := 0) (y := mX6_leftByTurns) (as := [.ref 0, .int a]) (rest := [.int (N 0), .ref 36]) (pc' := 7) (cs := []) (ph := 13) (i := 3) (h1 := HP X c1 m o) rfl trivial (by decide) h rfl rfl ?_
  refine Runs.go 1 (cs := []) (pc' := 14) (pl' := [some (.ref 0), some (.int a), some (.ref 36), none]) (st' := [.int (N 1)]) (h' := HP X c1 m o) rfl trivial ?_
  exact Runs.retE (cs := []) rfl trivial (retI rfl) rfl
theorem l_fixedAt0 {X : Nat × (Nat → Int32)} {c c1 : CT} {m : MT} {o : Nat → Int64} {a : Int32} {v : Int32} (h : Call 30 mX6_fixedAt [.ref 0, .int a] (HP X c m o) (.inl (some (.int v))) (HP X c1 m o) 0) : Call 31 mL_fixedAt [.ref 0, .int a, .ref 36] (HP X c m o) (.inl (some (.int (N 0)))) (HP X c1 m (va_up o 0 v.toInt64)) 0 := by
  refine Runs.go 4 (cs := []) (pc' := 4) (pl' := [some (.ref 0), some (.int a), some (.ref 36), none]) (st' := [.int a, .ref 0, .int (N 0), .ref 36]) (h' := HP X c m o) rfl trivial ?_
  refine Runs.cal (y := mX6_fixedAt) (as := [.ref 0, .int a]) (rest := [.int (N 0), .ref 36]) (pc' := 7) (cs := []) (v := some (.int v)) (h1 := HP X c1 m o) rfl trivial (by decide) h ?_
  show Runs _ _ 7 _ [.int v, .int (N 0), .ref 36] _ _ _ _
  refine Runs.goH 4 (cs := [vp_in (N 0) 1]) (pc' := 16) (pl' := [some (.ref 0), some (.int a), some (.ref 36), none]) (st' := [.int (N 0)]) (h1 := HP X c1 m (va_up o (N 0).toNatClampNeg v.toInt64)) (h' := HP X c1 m (va_up o 0 v.toInt64)) rfl ⟨(N_in (by decide) (by decide)), trivial⟩ rfl ?_
  exact Runs.retE (cs := []) rfl trivial (retI rfl) rfl
theorem l_fixedAt1 {X : Nat × (Nat → Int32)} {c c1 : CT} {m : MT} {o : Nat → Int64} {a : Int32} (h : Call 30 mX6_fixedAt [.ref 0, .int a] (HP X c m o) (.inr "java/lang/IndexOutOfBoundsException") (HP X c1 m o) 1) : Call 31 mL_fixedAt [.ref 0, .int a, .ref 36] (HP X c m o) (.inl (some (.int (N 1)))) (HP X c1 m o) 1 := by
  refine Runs.go 4 (cs := []) (pc' := 4) (pl' := [some (.ref 0), some (.int a), some (.ref 36), none]) (st' := [.int a, .ref 0, .int (N 0), .ref 36]) (h' := HP X c m o) rfl trivial ?_
  refine Runs.callH (k := 0) (y := mX6_fixedAt) (as := [.ref 0, .int a]) (rest := [.int (N 0), .ref 36]) (pc' := 7) (cs := []) (ph := 13) (i := 3) (h1 := HP X c1 m o) rfl trivial (by decide) h rfl rfl ?_
  refine Runs.go 1 (cs := []) (pc' := 14) (pl' := [some (.ref 0), some (.int a), some (.ref 36), none]) (st' := [.int (N 1)]) (h' := HP X c1 m o) rfl trivial ?_
  exact Runs.retE (cs := []) rfl trivial (retI rfl) rfl
theorem l_placeIn0 {X : Nat × (Nat → Int32)} {c c1 : CT} {m : MT} {o : Nat → Int64} {a b : Int32} {v : Int32} (h : Call 30 mX6_placeIn [.ref 0, .int a, .int b] (HP X c m o) (.inl (some (.int v))) (HP X c1 m o) 0) : Call 31 mL_placeIn [.ref 0, .int a, .int b, .ref 36] (HP X c m o) (.inl (some (.int (N 0)))) (HP X c1 m (va_up o 0 v.toInt64)) 0 := by
  refine Runs.go 5 (cs := []) (pc' := 5) (pl' := [some (.ref 0), some (.int a), some (.int b), some (.ref 36), none]) (st' := [.int b, .int a, .ref 0, .int (N 0), .ref 36]) (h' := HP X c m o) rfl trivial ?_
  refine Runs.cal (y := mX6_placeIn) (as := [.ref 0, .int a, .int b]) (rest := [.int (N 0), .ref 36]) (pc' := 8) (cs := []) (v := some (.int v)) (h1 := HP X c1 m o) rfl trivial (by decide) h ?_
  show Runs _ _ 8 _ [.int v, .int (N 0), .ref 36] _ _ _ _
  refine Runs.goH 4 (cs := [vp_in (N 0) 1]) (pc' := 18) (pl' := [some (.ref 0), some (.int a), some (.int b), some (.ref 36), none]) (st' := [.int (N 0)]) (h1 := HP X c1 m (va_up o (N 0).toNatClampNeg v.toInt64)) (h' := HP X c1 m (va_up o 0 v.toInt64)) rfl ⟨(N_in (by decide) (by decide)), trivial⟩ rfl ?_
  exact Runs.retE (cs := []) rfl trivial (retI rfl) rfl
theorem l_placeIn1 {X : Nat × (Nat → Int32)} {c c1 : CT} {m : MT} {o : Nat → Int64} {a b : Int32} (h : Call 30 mX6_placeIn [.ref 0, .int a, .int b] (HP X c m o) (.inr "java/lang/IndexOutOfBoundsException") (HP X c1 m o) 1) : Call 31 mL_placeIn [.ref 0, .int a, .int b, .ref 36] (HP X c m o) (.inl (some (.int (N 1)))) (HP X c1 m o) 1 := by
  refine Runs.go 5 (cs := []) (pc' := 5) (pl' := [some (.ref 0), some (.int a), some (.int b), some (.ref 36), none]) (st' := [.int b, .int a, .ref 0, .int (N 0), .ref 36]) (h' := HP X c m o) rfl trivial ?_
  refine Runs.callH (k := 0) (y := mX6_placeIn) (as := [.ref 0, .int a, .int b]) (rest := [.int (N 0), .ref 36]) (pc' := 8) (cs := []) (ph := 15) (i := 4) (h1 := HP X c1 m o) rfl trivial (by decide) h rfl rfl ?_
  refine Runs.go 1 (cs := []) (pc' := 16) (pl' := [some (.ref 0), some (.int a), some (.int b), some (.ref 36), none]) (st' := [.int (N 1)]) (h' := HP X c1 m o) rfl trivial ?_
  exact Runs.retE (cs := []) rfl trivial (retI rfl) rfl
theorem l_trulyLeft0 {X : Nat × (Nat → Int32)} {c c1 : CT} {m : MT} {o : Nat → Int64} {a : Int32} {v : Int32} (h : Call 30 mX6_trulyLeft [.ref 0, .int a] (HP X c m o) (.inl (some (.int v))) (HP X c1 m o) 0) : Call 31 mL_trulyLeft [.ref 0, .int a, .ref 36] (HP X c m o) (.inl (some (.int (N 0)))) (HP X c1 m (va_up o 0 v.toInt64)) 0 := by
  refine Runs.go 4 (cs := []) (pc' := 4) (pl' := [some (.ref 0), some (.int a), some (.ref 36), none]) (st' := [.int a, .ref 0, .int (N 0), .ref 36]) (h' := HP X c m o) rfl trivial ?_
  refine Runs.cal (y := mX6_trulyLeft) (as := [.ref 0, .int a]) (rest := [.int (N 0), .ref 36]) (pc' := 7) (cs := []) (v := some (.int v)) (h1 := HP X c1 m o) rfl trivial (by decide) h ?_
  show Runs _ _ 7 _ [.int v, .int (N 0), .ref 36] _ _ _ _
  refine Runs.goH 4 (cs := [vp_in (N 0) 1]) (pc' := 16) (pl' := [some (.ref 0), some (.int a), some (.ref 36), none]) (st' := [.int (N 0)]) (h1 := HP X c1 m (va_up o (N 0).toNatClampNeg v.toInt64)) (h' := HP X c1 m (va_up o 0 v.toInt64)) rfl ⟨(N_in (by decide) (by decide)), trivial⟩ rfl ?_
  exact Runs.retE (cs := []) rfl trivial (retI rfl) rfl
theorem l_trulyLeft1 {X : Nat × (Nat → Int32)} {c c1 : CT} {m : MT} {o : Nat → Int64} {a : Int32} (h : Call 30 mX6_trulyLeft [.ref 0, .int a] (HP X c m o) (.inr "java/lang/IndexOutOfBoundsException") (HP X c1 m o) 1) : Call 31 mL_trulyLeft [.ref 0, .int a, .ref 36] (HP X c m o) (.inl (some (.int (N 1)))) (HP X c1 m o) 1 := by
  refine Runs.go 4 (cs := []) (pc' := 4) (pl' := [some (.ref 0), some (.int a), some (.ref 36), none]) (st' := [.int a, .ref 0, .int (N 0), .ref 36]) (h' := HP X c m o) rfl trivial ?_
  refine Runs.callH (k := 0) (y := mX6_trulyLeft) (as := [.ref 0, .int a]) (rest := [.int (N 0), .ref 36]) (pc' := 7) (cs := []) (ph := 13) (i := 3) (h1 := HP X c1 m o) rfl trivial (by decide) h rfl rfl ?_
  refine Runs.go 1 (cs := []) (pc' := 14) (pl' := [some (.ref 0), some (.int a), some (.ref 36), none]) (st' := [.int (N 1)]) (h' := HP X c1 m o) rfl trivial ?_
  exact Runs.retE (cs := []) rfl trivial (retI rfl) rfl
theorem l_isSpare0 {X : Nat × (Nat → Int32)} {c c1 : CT} {m : MT} {o : Nat → Int64} {a : Int32} {b0 : Bool} (h : Call 30 mX6_isSpare [.ref 0, .int a] (HP X c m o) (.inl (some (.int (bI b0)))) (HP X c1 m o) 0) : Call 31 mL_isSpare [.ref 0, .int a, .ref 36] (HP X c m o) (.inl (some (.int (N 0)))) (HP X c1 m (va_up o 0 (bI b0).toInt64)) 0 := by
  refine Runs.go 4 (cs := []) (pc' := 4) (pl' := [some (.ref 0), some (.int a), some (.ref 36), none]) (st' := [.int a, .ref 0, .int (N 0), .ref 36]) (h' := HP X c m o) rfl trivial ?_
  refine Runs.cal (y := mX6_isSpare) (as := [.ref 0, .int a]) (rest := [.int (N 0), .ref 36]) (pc' := 7) (cs := []) (v := some (.int (bI b0))) (h1 := HP X c1 m o) rfl trivial (by decide) h ?_
  show Runs _ _ 7 _ [.int (bI b0), .int (N 0), .ref 36] _ _ _ _
  refine Runs.go 1 (cs := []) (pc' := bif decide ((bI b0) = 0) then 14 else 10) (pl' := [some (.ref 0), some (.int a), some (.ref 36), none]) (st' := [.int (N 0), .ref 36]) (h' := HP X c1 m o) rfl trivial ?_
  cases b0 with
  | false =>
    refine Runs.brT rfl ?_
    refine Runs.goH 4 (cs := [vp_in (N 0) 1]) (pc' := 23) (pl' := [some (.ref 0), some (.int a), some (.ref 36), none]) (st' := [.int (N 0)]) (h1 := HP X c1 m (va_up o (N 0).toNatClampNeg (L 0))) (h' := HP X c1 m (va_up o 0 (bI false).toInt64)) rfl ⟨(N_in (by decide) (by decide)), trivial⟩ rfl ?_
    exact Runs.retE (cs := []) rfl trivial (retI rfl) rfl
  | true =>
    refine Runs.brF rfl ?_
    refine Runs.goH 5 (cs := [vp_in (N 0) 1]) (pc' := 23) (pl' := [some (.ref 0), some (.int a), some (.ref 36), none]) (st' := [.int (N 0)]) (h1 := HP X c1 m (va_up o (N 0).toNatClampNeg (L 1))) (h' := HP X c1 m (va_up o 0 (bI true).toInt64)) rfl ⟨(N_in (by decide) (by decide)), trivial⟩ rfl ?_
    exact Runs.retE (cs := []) rfl trivial (retI rfl) rfl
theorem l_isSpare1 {X : Nat × (Nat → Int32)} {c c1 : CT} {m : MT} {o : Nat → Int64} {a : Int32} (h : Call 30 mX6_isSpare [.ref 0, .int a] (HP X c m o) (.inr "java/lang/IndexOutOfBoundsException") (HP X c1 m o) 1) : Call 31 mL_isSpare [.ref 0, .int a, .ref 36] (HP X c m o) (.inl (some (.int (N 1)))) (HP X c1 m o) 1 := by
  refine Runs.go 4 (cs := []) (pc' := 4) (pl' := [some (.ref 0), some (.int a), some (.ref 36), none]) (st' := [.int a, .ref 0, .int (N 0), .ref 36]) (h' := HP X c m o) rfl trivial ?_
  refine Runs.callH (k := 0) (y := mX6_isSpare) (as := [.ref 0, .int a]) (rest := [.int (N 0), .ref 36]) (pc' := 7) (cs := []) (ph := 20) (i := 3) (h1 := HP X c1 m o) rfl trivial (by decide) h rfl rfl ?_
  refine Runs.go 1 (cs := []) (pc' := 21) (pl' := [some (.ref 0), some (.int a), some (.ref 36), none]) (st' := [.int (N 1)]) (h' := HP X c1 m o) rfl trivial ?_
  exact Runs.retE (cs := []) rfl trivial (retI rfl) rfl
theorem l_barredBy0 {X : Nat × (Nat → Int32)} {c c1 : CT} {m : MT} {o : Nat → Int64} {a : Int32} {v : Int32} (h : Call 30 mX6_barredBy [.ref 0, .int a] (HP X c m o) (.inl (some (.int v))) (HP X c1 m o) 0) : Call 31 mL_barredBy [.ref 0, .int a, .ref 36] (HP X c m o) (.inl (some (.int (N 0)))) (HP X c1 m (va_up o 0 v.toInt64)) 0 := by
  refine Runs.go 4 (cs := []) (pc' := 4) (pl' := [some (.ref 0), some (.int a), some (.ref 36), none]) (st' := [.int a, .ref 0, .int (N 0), .ref 36]) (h' := HP X c m o) rfl trivial ?_
  refine Runs.cal (y := mX6_barredBy) (as := [.ref 0, .int a]) (rest := [.int (N 0), .ref 36]) (pc' := 7) (cs := []) (v := some (.int v)) (h1 := HP X c1 m o) rfl trivial (by decide) h ?_
  show Runs _ _ 7 _ [.int v, .int (N 0), .ref 36] _ _ _ _
  refine Runs.goH 4 (cs := [vp_in (N 0) 1]) (pc' := 16) (pl' := [some (.ref 0), some (.int a), some (.ref 36), none]) (st' := [.int (N 0)]) (h1 := HP X c1 m (va_up o (N 0).toNatClampNeg v.toInt64)) (h' := HP X c1 m (va_up o 0 v.toInt64)) rfl ⟨(N_in (by decide) (by decide)), trivial⟩ rfl ?_
  exact Runs.retE (cs := []) rfl trivial (retI rfl) rfl
theorem l_barredBy1 {X : Nat × (Nat → Int32)} {c c1 : CT} {m : MT} {o : Nat → Int64} {a : Int32} (h : Call 30 mX6_barredBy [.ref 0, .int a] (HP X c m o) (.inr "java/lang/IndexOutOfBoundsException") (HP X c1 m o) 1) : Call 31 mL_barredBy [.ref 0, .int a, .ref 36] (HP X c m o) (.inl (some (.int (N 1)))) (HP X c1 m o) 1 := by
  refine Runs.go 4 (cs := []) (pc' := 4) (pl' := [some (.ref 0), some (.int a), some (.ref 36), none]) (st' := [.int a, .ref 0, .int (N 0), .ref 36]) (h' := HP X c m o) rfl trivial ?_
  refine Runs.callH (k := 0) (y := mX6_barredBy) (as := [.ref 0, .int a]) (rest := [.int (N 0), .ref 36]) (pc' := 7) (cs := []) (ph := 13) (i := 3) (h1 := HP X c1 m o) rfl trivial (by decide) h rfl rfl ?_
  refine Runs.go 1 (cs := []) (pc' := 14) (pl' := [some (.ref 0), some (.int a), some (.ref 36), none]) (st' := [.int (N 1)]) (h' := HP X c1 m o) rfl trivial ?_
  exact Runs.retE (cs := []) rfl trivial (retI rfl) rfl
