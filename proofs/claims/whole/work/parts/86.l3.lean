/-! THE LAW: its cases, out of two calls (gen_j2.py) -/
theorem xs_in {X : Nat × (Nat → Int32)} {a b : Nat} (h : a + b < X.1) (hX : X.1 ≤ 2048) : vp_in (N a + N b) X.1 := by
  rw [N_add]
  exact N_in h (by omega)
theorem xs_at {X : Nat × (Nat → Int32)} {a b : Nat} (h : a + b < 2147483648) : X.2 (N a + N b).toNatClampNeg = X.2 (a + b) := by
  rw [N_add, N_tc h]
theorem lg_same (a : Int64) : lg_cmp a a = 0 := by
  unfold lg_cmp
  simp
def thZ (m : MT) : Int32 := m.2.2.2.2.2.2.2.2.1
theorem k_thr {X : Nat × (Nat → Int32)} {c : CT} {m : MT} {o : Nat → Int64} : Call 0 mX7_thrown [.ref 23] (HP X c m o) (.inl (some (.int (thZ m)))) (HP X c m o) 0 := by
  refine Runs.go 2 (cs := []) (pc' := 4) (pl' := [some (.ref 23)]) (st' := [.int (thZ m)]) (h' := HP X c m o) rfl trivial ?_
  exact Runs.retE (cs := []) rfl trivial (retI rfl) rfl
theorem law_wk {X : Nat × (Nat → Int32)} {t : Nat} {c : CT} {m : MT} {o : Nat → Int64} {a b d e : Option Value} {res : Option Value ⊕ String} {h2 : PH} {kk : Nat} (r : Runs 60 mL_law 2133 (lawL (N (4 * t))) [] (HP X c m o) res h2 kk) : Runs 60 mL_law 2133 [some (.ref 1000), some (.ref 0), some (.ref 23), some (.ref 36), some (.int (N (4 * t))), a, b, d, e] [] (HP X c m o) res h2 kk :=
  Runs.wk (pl' := lawL (N (4 * t))) (st' := []) (h' := HP X c m o) ⟨Or.inr rfl, Or.inr rfl, Or.inr rfl, Or.inr rfl, Or.inr rfl, Or.inl rfl, Or.inl rfl, Or.inl rfl, Or.inl rfl, trivial⟩ rfl rfl r
theorem w_same {X : Nat × (Nat → Int32)} {t : Nat} {c c1 : CT} {m m2 : MT} {o o1 : Nat → Int64} {res : Option Value ⊕ String} {h2 : PH} {e w : Int32} {k kk : Nat} (hX : X.1 ≤ 2048) (ht : 4 * t + 4 ≤ X.1) (hL : Call 31 mL_same [.ref 0, .int (X.2 (4 * t + 1)), .int (X.2 (4 * t + 2)), .ref 36] (HP X c m o) (.inl (some (.int e))) (HP X c1 m o1) k) (hR : Call 30 mX7_same [.ref 23, .int (X.2 (4 * t + 1)), .int (X.2 (4 * t + 2))] (HP X c1 m o1) (.inl (some (.int w))) (HP X c1 m2 o1) 0) (hth : thZ m2 = e) (hv : e = 0 → o1 0 = w.toInt64) (r : Runs 60 mL_law 2133 (lawL (N (4 * t))) [] (HP X c1 m2 o1) res h2 kk) : Runs 60 mL_law 236 (lawL (N (4 * t))) [] (HP X c m o) res h2 (k + kk) := by
  refine Runs.topI 6 (cs := [vp_in (N (4 * t) + N 1) X.1]) (pc' := 243) (pl' := [some (.ref 1000), some (.ref 0), some (.ref 23), some (.ref 36), some (.int (N (4 * t))), none, none, none, none]) (v := X.2 (N (4 * t) + N 1).toNatClampNeg) (v' := X.2 (4 * t + 1)) (st' := [.ref 0]) (h' := (HP X c m o)) rfl ⟨xs_in (by omega) hX, trivial⟩ (xs_at (by omega)) ?_
  refine Runs.topI 5 (cs := [vp_in (N (4 * t) + N 2) X.1]) (pc' := 249) (pl' := [some (.ref 1000), some (.ref 0), some (.ref 23), some (.ref 36), some (.int (N (4 * t))), none, none, none, none]) (v := X.2 (N (4 * t) + N 2).toNatClampNeg) (v' := X.2 (4 * t + 2)) (st' := [.int (X.2 (4 * t + 1)), .ref 0]) (h' := (HP X c m o)) rfl ⟨xs_in (by omega) hX, trivial⟩ (xs_at (by omega)) ?_
  refine Runs.go 1 (cs := []) (pc' := 250) (pl' := [some (.ref 1000), some (.ref 0), some (.ref 23), some (.ref 36), some (.int (N (4 * t))), none, none, none, none]) (st' := [.ref 36, .int (X.2 (4 * t + 2)), .int (X.2 (4 * t + 1)), .ref 0]) (h' := (HP X c m o)) rfl trivial ?_
  refine Runs.call (y := mL_same) (as := [.ref 0, .int (X.2 (4 * t + 1)), .int (X.2 (4 * t + 2)), .ref 36]) (rest := []) (pc' := 253) (cs := []) (v := some (.int e)) (h1 := (HP X c1 m o1)) rfl trivial (by decide) hL ?_
  show Runs _ _ 253 _ [.int e] _ _ _ _
  refine Runs.go 1 (cs := []) (pc' := 255) (pl' := [some (.ref 1000), some (.ref 0), some (.ref 23), some (.ref 36), some (.int (N (4 * t))), some (.int e), none, none, none]) (st' := []) (h' := (HP X c1 m o1)) rfl trivial ?_
  refine Runs.topI 6 (cs := [vp_in (N (4 * t) + N 1) X.1]) (pc' := 262) (pl' := [some (.ref 1000), some (.ref 0), some (.ref 23), some (.ref 36), some (.int (N (4 * t))), some (.int e), none, none, none]) (v := X.2 (N (4 * t) + N 1).toNatClampNeg) (v' := X.2 (4 * t + 1)) (st' := [.ref 23]) (h' := (HP X c1 m o1)) rfl ⟨xs_in (by omega) hX, trivial⟩ (xs_at (by omega)) ?_
  refine Runs.topI 5 (cs := [vp_in (N (4 * t) + N 2) X.1]) (pc' := 268) (pl' := [some (.ref 1000), some (.ref 0), some (.ref 23), some (.ref 36), some (.int (N (4 * t))), some (.int e), none, none, none]) (v := X.2 (N (4 * t) + N 2).toNatClampNeg) (v' := X.2 (4 * t + 2)) (st' := [.int (X.2 (4 * t + 1)), .ref 23]) (h' := (HP X c1 m o1)) rfl ⟨xs_in (by omega) hX, trivial⟩ (xs_at (by omega)) ?_
  refine Runs.cal (y := mX7_same) (as := [.ref 23, .int (X.2 (4 * t + 1)), .int (X.2 (4 * t + 2))]) (rest := []) (pc' := 271) (cs := []) (v := some (.int w)) (h1 := (HP X c1 m2 o1)) rfl trivial (by decide) hR ?_
  show Runs _ _ 271 _ [.int w] _ _ _ _
  refine Runs.go 2 (cs := []) (pc' := 274) (pl' := [some (.ref 1000), some (.ref 0), some (.ref 23), some (.ref 36), some (.int (N (4 * t))), some (.int e), some (.int w), none, none]) (st' := [.ref 23]) (h' := (HP X c1 m2 o1)) rfl trivial ?_
  refine Runs.cal (y := mX7_thrown) (as := [.ref 23]) (rest := []) (pc' := 277) (cs := []) (v := some (.int (thZ m2))) (h1 := (HP X c1 m2 o1)) rfl trivial (by decide) k_thr ?_
  show Runs _ _ 277 _ [.int (thZ m2)] _ _ _ _
  refine Runs.go 2 (cs := []) (pc' := bif decide (thZ m2 = e) then 284 else 282) (pl' := [some (.ref 1000), some (.ref 0), some (.ref 23), some (.ref 36), some (.int (N (4 * t))), some (.int e), some (.int w), none, none]) (st' := []) (h' := (HP X c1 m2 o1)) rfl trivial ?_
  refine Runs.brT (decide_eq_true hth) ?_
  refine Runs.go 2 (cs := []) (pc' := bif decide (¬ e = 0) then 301 else 289) (pl' := [some (.ref 1000), some (.ref 0), some (.ref 23), some (.ref 36), some (.int (N (4 * t))), some (.int e), some (.int w), none, none]) (st' := []) (h' := (HP X c1 m2 o1)) rfl trivial ?_
  refine Runs.br (fun _ => ?_) (fun z => ?_)
  · refine Runs.go 1 (cs := []) (pc' := 2133) (pl' := [some (.ref 1000), some (.ref 0), some (.ref 23), some (.ref 36), some (.int (N (4 * t))), some (.int e), some (.int w), none, none]) (st' := []) (h' := (HP X c1 m2 o1)) rfl trivial ?_
    exact law_wk r
  · replace z : e = 0 := Classical.not_not.mp (of_decide_eq_false z)
    refine Runs.go 7 (cs := [vp_in (N 0) 1]) (pc' := bif decide (lg_cmp (o1 (N 0).toNatClampNeg) (w.toInt64) = 0) then 301 else 299) (pl' := [some (.ref 1000), some (.ref 0), some (.ref 23), some (.ref 36), some (.int (N (4 * t))), some (.int e), some (.int w), none, none]) (st' := []) (h' := (HP X c1 m2 o1)) rfl ⟨(N_in (by decide) (by decide)), trivial⟩ ?_
    refine Runs.brT (decide_eq_true (by rw [show o1 (N 0).toNatClampNeg = w.toInt64 from hv z]; exact lg_same _)) ?_
    refine Runs.go 1 (cs := []) (pc' := 2133) (pl' := [some (.ref 1000), some (.ref 0), some (.ref 23), some (.ref 36), some (.int (N (4 * t))), some (.int e), some (.int w), none, none]) (st' := []) (h' := (HP X c1 m2 o1)) rfl trivial ?_
    exact law_wk r
theorem w_apart {X : Nat × (Nat → Int32)} {t : Nat} {c c1 : CT} {m m2 : MT} {o o1 : Nat → Int64} {res : Option Value ⊕ String} {h2 : PH} {e w : Int32} {k kk : Nat} (hX : X.1 ≤ 2048) (ht : 4 * t + 4 ≤ X.1) (hL : Call 31 mL_apart [.ref 0, .int (X.2 (4 * t + 1)), .int (X.2 (4 * t + 2)), .ref 36] (HP X c m o) (.inl (some (.int e))) (HP X c1 m o1) k) (hR : Call 30 mX7_apart [.ref 23, .int (X.2 (4 * t + 1)), .int (X.2 (4 * t + 2))] (HP X c1 m o1) (.inl (some (.int w))) (HP X c1 m2 o1) 0) (hth : thZ m2 = e) (hv : e = 0 → o1 0 = w.toInt64) (r : Runs 60 mL_law 2133 (lawL (N (4 * t))) [] (HP X c1 m2 o1) res h2 kk) : Runs 60 mL_law 304 (lawL (N (4 * t))) [] (HP X c m o) res h2 (k + kk) := by
  refine Runs.topI 6 (cs := [vp_in (N (4 * t) + N 1) X.1]) (pc' := 311) (pl' := [some (.ref 1000), some (.ref 0), some (.ref 23), some (.ref 36), some (.int (N (4 * t))), none, none, none, none]) (v := X.2 (N (4 * t) + N 1).toNatClampNeg) (v' := X.2 (4 * t + 1)) (st' := [.ref 0]) (h' := (HP X c m o)) rfl ⟨xs_in (by omega) hX, trivial⟩ (xs_at (by omega)) ?_
  refine Runs.topI 5 (cs := [vp_in (N (4 * t) + N 2) X.1]) (pc' := 317) (pl' := [some (.ref 1000), some (.ref 0), some (.ref 23), some (.ref 36), some (.int (N (4 * t))), none, none, none, none]) (v := X.2 (N (4 * t) + N 2).toNatClampNeg) (v' := X.2 (4 * t + 2)) (st' := [.int (X.2 (4 * t + 1)), .ref 0]) (h' := (HP X c m o)) rfl ⟨xs_in (by omega) hX, trivial⟩ (xs_at (by omega)) ?_
  refine Runs.go 1 (cs := []) (pc' := 318) (pl' := [some (.ref 1000), some (.ref 0), some (.ref 23), some (.ref 36), some (.int (N (4 * t))), none, none, none, none]) (st' := [.ref 36, .int (X.2 (4 * t + 2)), .int (X.2 (4 * t + 1)), .ref 0]) (h' := (HP X c m o)) rfl trivial ?_
  refine Runs.call (y := mL_apart) (as := [.ref 0, .int (X.2 (4 * t + 1)), .int (X.2 (4 * t + 2)), .ref 36]) (rest := []) (pc' := 321) (cs := []) (v := some (.int e)) (h1 := (HP X c1 m o1)) rfl trivial (by decide) hL ?_
  show Runs _ _ 321 _ [.int e] _ _ _ _
  refine Runs.go 1 (cs := []) (pc' := 323) (pl' := [some (.ref 1000), some (.ref 0), some (.ref 23), some (.ref 36), some (.int (N (4 * t))), some (.int e), none, none, none]) (st' := []) (h' := (HP X c1 m o1)) rfl trivial ?_
  refine Runs.topI 6 (cs := [vp_in (N (4 * t) + N 1) X.1]) (pc' := 330) (pl' := [some (.ref 1000), some (.ref 0), some (.ref 23), some (.ref 36), some (.int (N (4 * t))), some (.int e), none, none, none]) (v := X.2 (N (4 * t) + N 1).toNatClampNeg) (v' := X.2 (4 * t + 1)) (st' := [.ref 23]) (h' := (HP X c1 m o1)) rfl ⟨xs_in (by omega) hX, trivial⟩ (xs_at (by omega)) ?_
  refine Runs.topI 5 (cs := [vp_in (N (4 * t) + N 2) X.1]) (pc' := 336) (pl' := [some (.ref 1000), some (.ref 0), some (.ref 23), some (.ref 36), some (.int (N (4 * t))), some (.int e), none, none, none]) (v := X.2 (N (4 * t) + N 2).toNatClampNeg) (v' := X.2 (4 * t + 2)) (st' := [.int (X.2 (4 * t + 1)), .ref 23]) (h' := (HP X c1 m o1)) rfl ⟨xs_in (by omega) hX, trivial⟩ (xs_at (by omega)) ?_
  refine Runs.cal (y := mX7_apart) (as := [.ref 23, .int (X.2 (4 * t + 1)), .int (X.2 (4 * t + 2))]) (rest := []) (pc' := 339) (cs := []) (v := some (.int w)) (h1 := (HP X c1 m2 o1)) rfl trivial (by decide) hR ?_
  show Runs _ _ 339 _ [.int w] _ _ _ _
  refine Runs.go 2 (cs := []) (pc' := 342) (pl' := [some (.ref 1000), some (.ref 0), some (.ref 23), some (.ref 36), some (.int (N (4 * t))), some (.int e), some (.int w), none, none]) (st' := [.ref 23]) (h' := (HP X c1 m2 o1)) rfl trivial ?_
  refine Runs.cal (y := mX7_thrown) (as := [.ref 23]) (rest := []) (pc' := 345) (cs := []) (v := some (.int (thZ m2))) (h1 := (HP X c1 m2 o1)) rfl trivial (by decide) k_thr ?_
  show Runs _ _ 345 _ [.int (thZ m2)] _ _ _ _
  refine Runs.go 2 (cs := []) (pc' := bif decide (thZ m2 = e) then 352 else 350) (pl' := [some (.ref 1000), some (.ref 0), some (.ref 23), some (.ref 36), some (.int (N (4 * t))), some (.int e), some (.int w), none, none]) (st' := []) (h' := (HP X c1 m2 o1)) rfl trivial ?_
  refine Runs.brT (decide_eq_true hth) ?_
  refine Runs.go 2 (cs := []) (pc' := bif decide (¬ e = 0) then 369 else 357) (pl' := [some (.ref 1000), some (.ref 0), some (.ref 23), some (.ref 36), some (.int (N (4 * t))), some (.int e), some (.int w), none, none]) (st' := []) (h' := (HP X c1 m2 o1)) rfl trivial ?_
  refine Runs.br (fun _ => ?_) (fun z => ?_)
  · refine Runs.go 1 (cs := []) (pc' := 2133) (pl' := [some (.ref 1000), some (.ref 0), some (.ref 23), some (.ref 36), some (.int (N (4 * t))), some (.int e), some (.int w), none, none]) (st' := []) (h' := (HP X c1 m2 o1)) rfl trivial ?_
    exact law_wk r
  · replace z : e = 0 := Classical.not_not.mp (of_decide_eq_false z)
    refine Runs.go 7 (cs := [vp_in (N 0) 1]) (pc' := bif decide (lg_cmp (o1 (N 0).toNatClampNeg) (w.toInt64) = 0) then 369 else 367) (pl' := [some (.ref 1000), some (.ref 0), some (.ref 23), some (.ref 36), some (.int (N (4 * t))), some (.int e), some (.int w), none, none]) (st' := []) (h' := (HP X c1 m2 o1)) rfl ⟨(N_in (by decide) (by decide)), trivial⟩ ?_
    refine Runs.brT (decide_eq_true (by rw [show o1 (N 0).toNatClampNeg = w.toInt64 from hv z]; exact lg_same _)) ?_
    refine Runs.go 1 (cs := []) (pc' := 2133) (pl' := [some (.ref 1000), some (.ref 0), some (.ref 23), some (.ref 36), some (.int (N (4 * t))), some (.int e), some (.int w), none, none]) (st' := []) (h' := (HP X c1 m2 o1)) rfl trivial ?_
    exact law_wk r
theorem w_leftOf {X : Nat × (Nat → Int32)} {t : Nat} {c c1 : CT} {m m2 : MT} {o o1 : Nat → Int64} {res : Option Value ⊕ String} {h2 : PH} {e w : Int32} {k kk : Nat} (hX : X.1 ≤ 2048) (ht : 4 * t + 4 ≤ X.1) (hL : Call 31 mL_leftOf [.ref 0, .int (X.2 (4 * t + 1)), .int (X.2 (4 * t + 2)), .ref 36] (HP X c m o) (.inl (some (.int e))) (HP X c1 m o1) k) (hR : Call 30 mX7_leftOf [.ref 23, .int (X.2 (4 * t + 1)), .int (X.2 (4 * t + 2))] (HP X c1 m o1) (.inl (some (.int w))) (HP X c1 m2 o1) 0) (hth : thZ m2 = e) (hv : e = 0 → o1 0 = w.toInt64) (r : Runs 60 mL_law 2133 (lawL (N (4 * t))) [] (HP X c1 m2 o1) res h2 kk) : Runs 60 mL_law 372 (lawL (N (4 * t))) [] (HP X c m o) res h2 (k + kk) := by
  refine Runs.topI 6 (cs := [vp_in (N (4 * t) + N 1) X.1]) (pc' := 379) (pl' := [some (.ref 1000), some (.ref 0), some (.ref 23), some (.ref 36), some (.int (N (4 * t))), none, none, none, none]) (v := X.2 (N (4 * t) + N 1).toNatClampNeg) (v' := X.2 (4 * t + 1)) (st' := [.ref 0]) (h' := (HP X c m o)) rfl ⟨xs_in (by omega) hX, trivial⟩ (xs_at (by omega)) ?_
  refine Runs.topI 5 (cs := [vp_in (N (4 * t) + N 2) X.1]) (pc' := 385) (pl' := [some (.ref 1000), some (.ref 0), some (.ref 23), some (.ref 36), some (.int (N (4 * t))), none, none, none, none]) (v := X.2 (N (4 * t) + N 2).toNatClampNeg) (v' := X.2 (4 * t + 2)) (st' := [.int (X.2 (4 * t + 1)), .ref 0]) (h' := (HP X c m o)) rfl ⟨xs_in (by omega) hX, trivial⟩ (xs_at (by omega)) ?_
  refine Runs.go 1 (cs := []) (pc' := 386) (pl' := [some (.ref 1000), some (.ref 0), some (.ref 23), some (.ref 36), some (.int (N (4 * t))), none, none, none, none]) (st' := [.ref 36, .int (X.2 (4 * t + 2)), .int (X.2 (4 * t + 1)), .ref 0]) (h' := (HP X c m o)) rfl trivial ?_
  refine Runs.call (y := mL_leftOf) (as := [.ref 0, .int (X.2 (4 * t + 1)), .int (X.2 (4 * t + 2)), .ref 36]) (rest := []) (pc' := 389) (cs := []) (v := some (.int e)) (h1 := (HP X c1 m o1)) rfl trivial (by decide) hL ?_
  show Runs _ _ 389 _ [.int e] _ _ _ _
  refine Runs.go 1 (cs := []) (pc' := 391) (pl' := [some (.ref 1000), some (.ref 0), some (.ref 23), some (.ref 36), some (.int (N (4 * t))), some (.int e), none, none, none]) (st' := []) (h' := (HP X c1 m o1)) rfl trivial ?_
  refine Runs.topI 6 (cs := [vp_in (N (4 * t) + N 1) X.1]) (pc' := 398) (pl' := [some (.ref 1000), some (.ref 0), some (.ref 23), some (.ref 36), some (.int (N (4 * t))), some (.int e), none, none, none]) (v := X.2 (N (4 * t) + N 1).toNatClampNeg) (v' := X.2 (4 * t + 1)) (st' := [.ref 23]) (h' := (HP X c1 m o1)) rfl ⟨xs_in (by omega) hX, trivial⟩ (xs_at (by omega)) ?_
  refine Runs.topI 5 (cs := [vp_in (N (4 * t) + N 2) X.1]) (pc' := 404) (pl' := [some (.ref 1000), some (.ref 0), some (.ref 23), some (.ref 36), some (.int (N (4 * t))), some (.int e), none, none, none]) (v := X.2 (N (4 * t) + N 2).toNatClampNeg) (v' := X.2 (4 * t + 2)) (st' := [.int (X.2 (4 * t + 1)), .ref 23]) (h' := (HP X c1 m o1)) rfl ⟨xs_in (by omega) hX, trivial⟩ (xs_at (by omega)) ?_
  refine Runs.cal (y := mX7_leftOf) (as := [.ref 23, .int (X.2 (4 * t + 1)), .int (X.2 (4 * t + 2))]) (rest := []) (pc' := 407) (cs := []) (v := some (.int w)) (h1 := (HP X c1 m2 o1)) rfl trivial (by decide) hR ?_
  show Runs _ _ 407 _ [.int w] _ _ _ _
  refine Runs.go 2 (cs := []) (pc' := 410) (pl' := [some (.ref 1000), some (.ref 0), some (.ref 23), some (.ref 36), some (.int (N (4 * t))), some (.int e), some (.int w), none, none]) (st' := [.ref 23]) (h' := (HP X c1 m2 o1)) rfl trivial ?_
  refine Runs.cal (y := mX7_thrown) (as := [.ref 23]) (rest := []) (pc' := 413) (cs := []) (v := some (.int (thZ m2))) (h1 := (HP X c1 m2 o1)) rfl trivial (by decide) k_thr ?_
  show Runs _ _ 413 _ [.int (thZ m2)] _ _ _ _
  refine Runs.go 2 (cs := []) (pc' := bif decide (thZ m2 = e) then 420 else 418) (pl' := [some (.ref 1000), some (.ref 0), some (.ref 23), some (.ref 36), some (.int (N (4 * t))), some (.int e), some (.int w), none, none]) (st' := []) (h' := (HP X c1 m2 o1)) rfl trivial ?_
  refine Runs.brT (decide_eq_true hth) ?_
  refine Runs.go 2 (cs := []) (pc' := bif decide (¬ e = 0) then 437 else 425) (pl' := [some (.ref 1000), some (.ref 0), some (.ref 23), some (.ref 36), some (.int (N (4 * t))), some (.int e), some (.int w), none, none]) (st' := []) (h' := (HP X c1 m2 o1)) rfl trivial ?_
  refine Runs.br (fun _ => ?_) (fun z => ?_)
  · refine Runs.go 1 (cs := []) (pc' := 2133) (pl' := [some (.ref 1000), some (.ref 0), some (.ref 23), some (.ref 36), some (.int (N (4 * t))), some (.int e), some (.int w), none, none]) (st' := []) (h' := (HP X c1 m2 o1)) rfl trivial ?_
    exact law_wk r
  · replace z : e = 0 := Classical.not_not.mp (of_decide_eq_false z)
    refine Runs.go 7 (cs := [vp_in (N 0) 1]) (pc' := bif decide (lg_cmp (o1 (N 0).toNatClampNeg) (w.toInt64) = 0) then 437 else 435) (pl' := [some (.ref 1000), some (.ref 0), some (.ref 23), some (.ref 36), some (.int (N (4 * t))), some (.int e), some (.int w), none, none]) (st' := []) (h' := (HP X c1 m2 o1)) rfl ⟨(N_in (by decide) (by decide)), trivial⟩ ?_
    refine Runs.brT (decide_eq_true (by rw [show o1 (N 0).toNatClampNeg = w.toInt64 from hv z]; exact lg_same _)) ?_
    refine Runs.go 1 (cs := []) (pc' := 2133) (pl' := [some (.ref 1000), some (.ref 0), some (.ref 23), some (.ref 36), some (.int (N (4 * t))), some (.int e), some (.int w), none, none]) (st' := []) (h' := (HP X c1 m2 o1)) rfl trivial ?_
    exact law_wk r
theorem w_nextTo {X : Nat × (Nat → Int32)} {t : Nat} {c c1 : CT} {m m2 : MT} {o o1 : Nat → Int64} {res : Option Value ⊕ String} {h2 : PH} {e w : Int32} {k kk : Nat} (hX : X.1 ≤ 2048) (ht : 4 * t + 4 ≤ X.1) (hL : Call 31 mL_nextTo [.ref 0, .int (X.2 (4 * t + 1)), .int (X.2 (4 * t + 2)), .ref 36] (HP X c m o) (.inl (some (.int e))) (HP X c1 m o1) k) (hR : Call 30 mX7_nextTo [.ref 23, .int (X.2 (4 * t + 1)), .int (X.2 (4 * t + 2))] (HP X c1 m o1) (.inl (some (.int w))) (HP X c1 m2 o1) 0) (hth : thZ m2 = e) (hv : e = 0 → o1 0 = w.toInt64) (r : Runs 60 mL_law 2133 (lawL (N (4 * t))) [] (HP X c1 m2 o1) res h2 kk) : Runs 60 mL_law 440 (lawL (N (4 * t))) [] (HP X c m o) res h2 (k + kk) := by
  refine Runs.topI 6 (cs := [vp_in (N (4 * t) + N 1) X.1]) (pc' := 447) (pl' := [some (.ref 1000), some (.ref 0), some (.ref 23), some (.ref 36), some (.int (N (4 * t))), none, none, none, none]) (v := X.2 (N (4 * t) + N 1).toNatClampNeg) (v' := X.2 (4 * t + 1)) (st' := [.ref 0]) (h' := (HP X c m o)) rfl ⟨xs_in (by omega) hX, trivial⟩ (xs_at (by omega)) ?_
  refine Runs.topI 5 (cs := [vp_in (N (4 * t) + N 2) X.1]) (pc' := 453) (pl' := [some (.ref 1000), some (.ref 0), some (.ref 23), some (.ref 36), some (.int (N (4 * t))), none, none, none, none]) (v := X.2 (N (4 * t) + N 2).toNatClampNeg) (v' := X.2 (4 * t + 2)) (st' := [.int (X.2 (4 * t + 1)), .ref 0]) (h' := (HP X c m o)) rfl ⟨xs_in (by omega) hX, trivial⟩ (xs_at (by omega)) ?_
  refine Runs.go 1 (cs := []) (pc' := 454) (pl' := [some (.ref 1000), some (.ref 0), some (.ref 23), some (.ref 36), some (.int (N (4 * t))), none, none, none, none]) (st' := [.ref 36, .int (X.2 (4 * t + 2)), .int (X.2 (4 * t + 1)), .ref 0]) (h' := (HP X c m o)) rfl trivial ?_
  refine Runs.call (y := mL_nextTo) (as := [.ref 0, .int (X.2 (4 * t + 1)), .int (X.2 (4 * t + 2)), .ref 36]) (rest := []) (pc' := 457) (cs := []) (v := some (.int e)) (h1 := (HP X c1 m o1)) rfl trivial (by decide) hL ?_
  show Runs _ _ 457 _ [.int e] _ _ _ _
  refine Runs.go 1 (cs := []) (pc' := 459) (pl' := [some (.ref 1000), some (.ref 0), some (.ref 23), some (.ref 36), some (.int (N (4 * t))), some (.int e), none, none, none]) (st' := []) (h' := (HP X c1 m o1)) rfl trivial ?_
  refine Runs.topI 6 (cs := [vp_in (N (4 * t) + N 1) X.1]) (pc' := 466) (pl' := [some (.ref 1000), some (.ref 0), some (.ref 23), some (.ref 36), some (.int (N (4 * t))), some (.int e), none, none, none]) (v := X.2 (N (4 * t) + N 1).toNatClampNeg) (v' := X.2 (4 * t + 1)) (st' := [.ref 23]) (h' := (HP X c1 m o1)) rfl ⟨xs_in (by omega) hX, trivial⟩ (xs_at (by omega)) ?_
  refine Runs.topI 5 (cs := [vp_in (N (4 * t) + N 2) X.1]) (pc' := 472) (pl' := [some (.ref 1000), some (.ref 0), some (.ref 23), some (.ref 36), some (.int (N (4 * t))), some (.int e), none, none, none]) (v := X.2 (N (4 * t) + N 2).toNatClampNeg) (v' := X.2 (4 * t + 2)) (st' := [.int (X.2 (4 * t + 1)), .ref 23]) (h' := (HP X c1 m o1)) rfl ⟨xs_in (by omega) hX, trivial⟩ (xs_at (by omega)) ?_
  refine Runs.cal (y := mX7_nextTo) (as := [.ref 23, .int (X.2 (4 * t + 1)), .int (X.2 (4 * t + 2))]) (rest := []) (pc' := 475) (cs := []) (v := some (.int w)) (h1 := (HP X c1 m2 o1)) rfl trivial (by decide) hR ?_
  show Runs _ _ 475 _ [.int w] _ _ _ _
  refine Runs.go 2 (cs := []) (pc' := 478) (pl' := [some (.ref 1000), some (.ref 0), some (.ref 23), some (.ref 36), some (.int (N (4 * t))), some (.int e), some (.int w), none, none]) (st' := [.ref 23]) (h' := (HP X c1 m2 o1)) rfl trivial ?_
  refine Runs.cal (y := mX7_thrown) (as := [.ref 23]) (rest := []) (pc' := 481) (cs := []) (v := some (.int (thZ m2))) (h1 := (HP X c1 m2 o1)) rfl trivial (by decide) k_thr ?_
  show Runs _ _ 481 _ [.int (thZ m2)] _ _ _ _
  refine Runs.go 2 (cs := []) (pc' := bif decide (thZ m2 = e) then 488 else 486) (pl' := [some (.ref 1000), some (.ref 0), some (.ref 23), some (.ref 36), some (.int (N (4 * t))), some (.int e), some (.int w), none, none]) (st' := []) (h' := (HP X c1 m2 o1)) rfl trivial ?_
  refine Runs.brT (decide_eq_true hth) ?_
  refine Runs.go 2 (cs := []) (pc' := bif decide (¬ e = 0) then 505 else 493) (pl' := [some (.ref 1000), some (.ref 0), some (.ref 23), some (.ref 36), some (.int (N (4 * t))), some (.int e), some (.int w), none, none]) (st' := []) (h' := (HP X c1 m2 o1)) rfl trivial ?_
  refine Runs.br (fun _ => ?_) (fun z => ?_)
  · refine Runs.go 1 (cs := []) (pc' := 2133) (pl' := [some (.ref 1000), some (.ref 0), some (.ref 23), some (.ref 36), some (.int (N (4 * t))), some (.int e), some (.int w), none, none]) (st' := []) (h' := (HP X c1 m2 o1)) rfl trivial ?_
    exact law_wk r
  · replace z : e = 0 := Classical.not_not.mp (of_decide_eq_false z)
    refine Runs.go 7 (cs := [vp_in (N 0) 1]) (pc' := bif decide (lg_cmp (o1 (N 0).toNatClampNeg) (w.toInt64) = 0) then 505 else 503) (pl' := [some (.ref 1000), some (.ref 0), some (.ref 23), some (.ref 36), some (.int (N (4 * t))), some (.int e), some (.int w), none, none]) (st' := []) (h' := (HP X c1 m2 o1)) rfl ⟨(N_in (by decide) (by decide)), trivial⟩ ?_
    refine Runs.brT (decide_eq_true (by rw [show o1 (N 0).toNatClampNeg = w.toInt64 from hv z]; exact lg_same _)) ?_
    refine Runs.go 1 (cs := []) (pc' := 2133) (pl' := [some (.ref 1000), some (.ref 0), some (.ref 23), some (.ref 36), some (.int (N (4 * t))), some (.int e), some (.int w), none, none]) (st' := []) (h' := (HP X c1 m2 o1)) rfl trivial ?_
    exact law_wk r
theorem w_at {X : Nat × (Nat → Int32)} {t : Nat} {c c1 : CT} {m m2 : MT} {o o1 : Nat → Int64} {res : Option Value ⊕ String} {h2 : PH} {e w : Int32} {k kk : Nat} (hX : X.1 ≤ 2048) (ht : 4 * t + 4 ≤ X.1) (hL : Call 31 mL_at [.ref 0, .int (X.2 (4 * t + 1)), .int (X.2 (4 * t + 2)), .ref 36] (HP X c m o) (.inl (some (.int e))) (HP X c1 m o1) k) (hR : Call 30 mX7_at [.ref 23, .int (X.2 (4 * t + 1)), .int (X.2 (4 * t + 2))] (HP X c1 m o1) (.inl (some (.int w))) (HP X c1 m2 o1) 0) (hth : thZ m2 = e) (hv : e = 0 → o1 0 = w.toInt64) (r : Runs 60 mL_law 2133 (lawL (N (4 * t))) [] (HP X c1 m2 o1) res h2 kk) : Runs 60 mL_law 508 (lawL (N (4 * t))) [] (HP X c m o) res h2 (k + kk) := by
  refine Runs.topI 6 (cs := [vp_in (N (4 * t) + N 1) X.1]) (pc' := 515) (pl' := [some (.ref 1000), some (.ref 0), some (.ref 23), some (.ref 36), some (.int (N (4 * t))), none, none, none, none]) (v := X.2 (N (4 * t) + N 1).toNatClampNeg) (v' := X.2 (4 * t + 1)) (st' := [.ref 0]) (h' := (HP X c m o)) rfl ⟨xs_in (by omega) hX, trivial⟩ (xs_at (by omega)) ?_
  refine Runs.topI 5 (cs := [vp_in (N (4 * t) + N 2) X.1]) (pc' := 521) (pl' := [some (.ref 1000), some (.ref 0), some (.ref 23), some (.ref 36), some (.int (N (4 * t))), none, none, none, none]) (v := X.2 (N (4 * t) + N 2).toNatClampNeg) (v' := X.2 (4 * t + 2)) (st' := [.int (X.2 (4 * t + 1)), .ref 0]) (h' := (HP X c m o)) rfl ⟨xs_in (by omega) hX, trivial⟩ (xs_at (by omega)) ?_
  refine Runs.go 1 (cs := []) (pc' := 522) (pl' := [some (.ref 1000), some (.ref 0), some (.ref 23), some (.ref 36), some (.int (N (4 * t))), none, none, none, none]) (st' := [.ref 36, .int (X.2 (4 * t + 2)), .int (X.2 (4 * t + 1)), .ref 0]) (h' := (HP X c m o)) rfl trivial ?_
  refine Runs.call (y := mL_at) (as := [.ref 0, .int (X.2 (4 * t + 1)), .int (X.2 (4 * t + 2)), .ref 36]) (rest := []) (pc' := 525) (cs := []) (v := some (.int e)) (h1 := (HP X c1 m o1)) rfl trivial (by decide) hL ?_
  show Runs _ _ 525 _ [.int e] _ _ _ _
  refine Runs.go 1 (cs := []) (pc' := 527) (pl' := [some (.ref 1000), some (.ref 0), some (.ref 23), some (.ref 36), some (.int (N (4 * t))), some (.int e), none, none, none]) (st' := []) (h' := (HP X c1 m o1)) rfl trivial ?_
  refine Runs.topI 6 (cs := [vp_in (N (4 * t) + N 1) X.1]) (pc' := 534) (pl' := [some (.ref 1000), some (.ref 0), some (.ref 23), some (.ref 36), some (.int (N (4 * t))), some (.int e), none, none, none]) (v := X.2 (N (4 * t) + N 1).toNatClampNeg) (v' := X.2 (4 * t + 1)) (st' := [.ref 23]) (h' := (HP X c1 m o1)) rfl ⟨xs_in (by omega) hX, trivial⟩ (xs_at (by omega)) ?_
  refine Runs.topI 5 (cs := [vp_in (N (4 * t) + N 2) X.1]) (pc' := 540) (pl' := [some (.ref 1000), some (.ref 0), some (.ref 23), some (.ref 36), some (.int (N (4 * t))), some (.int e), none, none, none]) (v := X.2 (N (4 * t) + N 2).toNatClampNeg) (v' := X.2 (4 * t + 2)) (st' := [.int (X.2 (4 * t + 1)), .ref 23]) (h' := (HP X c1 m o1)) rfl ⟨xs_in (by omega) hX, trivial⟩ (xs_at (by omega)) ?_
  refine Runs.cal (y := mX7_at) (as := [.ref 23, .int (X.2 (4 * t + 1)), .int (X.2 (4 * t + 2))]) (rest := []) (pc' := 543) (cs := []) (v := some (.int w)) (h1 := (HP X c1 m2 o1)) rfl trivial (by decide) hR ?_
  show Runs _ _ 543 _ [.int w] _ _ _ _
  refine Runs.go 2 (cs := []) (pc' := 546) (pl' := [some (.ref 1000), some (.ref 0), some (.ref 23), some (.ref 36), some (.int (N (4 * t))), some (.int e), some (.int w), none, none]) (st' := [.ref 23]) (h' := (HP X c1 m2 o1)) rfl trivial ?_
  refine Runs.cal (y := mX7_thrown) (as := [.ref 23]) (rest := []) (pc' := 549) (cs := []) (v := some (.int (thZ m2))) (h1 := (HP X c1 m2 o1)) rfl trivial (by decide) k_thr ?_
  show Runs _ _ 549 _ [.int (thZ m2)] _ _ _ _
  refine Runs.go 2 (cs := []) (pc' := bif decide (thZ m2 = e) then 556 else 554) (pl' := [some (.ref 1000), some (.ref 0), some (.ref 23), some (.ref 36), some (.int (N (4 * t))), some (.int e), some (.int w), none, none]) (st' := []) (h' := (HP X c1 m2 o1)) rfl trivial ?_
  refine Runs.brT (decide_eq_true hth) ?_
  refine Runs.go 2 (cs := []) (pc' := bif decide (¬ e = 0) then 573 else 561) (pl' := [some (.ref 1000), some (.ref 0), some (.ref 23), some (.ref 36), some (.int (N (4 * t))), some (.int e), some (.int w), none, none]) (st' := []) (h' := (HP X c1 m2 o1)) rfl trivial ?_
  refine Runs.br (fun _ => ?_) (fun z => ?_)
  · refine Runs.go 1 (cs := []) (pc' := 2133) (pl' := [some (.ref 1000), some (.ref 0), some (.ref 23), some (.ref 36), some (.int (N (4 * t))), some (.int e), some (.int w), none, none]) (st' := []) (h' := (HP X c1 m2 o1)) rfl trivial ?_
    exact law_wk r
  · replace z : e = 0 := Classical.not_not.mp (of_decide_eq_false z)
    refine Runs.go 7 (cs := [vp_in (N 0) 1]) (pc' := bif decide (lg_cmp (o1 (N 0).toNatClampNeg) (w.toInt64) = 0) then 573 else 571) (pl' := [some (.ref 1000), some (.ref 0), some (.ref 23), some (.ref 36), some (.int (N (4 * t))), some (.int e), some (.int w), none, none]) (st' := []) (h' := (HP X c1 m2 o1)) rfl ⟨(N_in (by decide) (by decide)), trivial⟩ ?_
    refine Runs.brT (decide_eq_true (by rw [show o1 (N 0).toNatClampNeg = w.toInt64 from hv z]; exact lg_same _)) ?_
    refine Runs.go 1 (cs := []) (pc' := 2133) (pl' := [some (.ref 1000), some (.ref 0), some (.ref 23), some (.ref 36), some (.int (N (4 * t))), some (.int e), some (.int w), none, none]) (st' := []) (h' := (HP X c1 m2 o1)) rfl trivial ?_
    exact law_wk r
theorem w_notAt {X : Nat × (Nat → Int32)} {t : Nat} {c c1 : CT} {m m2 : MT} {o o1 : Nat → Int64} {res : Option Value ⊕ String} {h2 : PH} {e w : Int32} {k kk : Nat} (hX : X.1 ≤ 2048) (ht : 4 * t + 4 ≤ X.1) (hL : Call 31 mL_notAt [.ref 0, .int (X.2 (4 * t + 1)), .int (X.2 (4 * t + 2)), .ref 36] (HP X c m o) (.inl (some (.int e))) (HP X c1 m o1) k) (hR : Call 30 mX7_notAt [.ref 23, .int (X.2 (4 * t + 1)), .int (X.2 (4 * t + 2))] (HP X c1 m o1) (.inl (some (.int w))) (HP X c1 m2 o1) 0) (hth : thZ m2 = e) (hv : e = 0 → o1 0 = w.toInt64) (r : Runs 60 mL_law 2133 (lawL (N (4 * t))) [] (HP X c1 m2 o1) res h2 kk) : Runs 60 mL_law 576 (lawL (N (4 * t))) [] (HP X c m o) res h2 (k + kk) := by
  refine Runs.topI 6 (cs := [vp_in (N (4 * t) + N 1) X.1]) (pc' := 583) (pl' := [some (.ref 1000), some (.ref 0), some (.ref 23), some (.ref 36), some (.int (N (4 * t))), none, none, none, none]) (v := X.2 (N (4 * t) + N 1).toNatClampNeg) (v' := X.2 (4 * t + 1)) (st' := [.ref 0]) (h' := (HP X c m o)) rfl ⟨xs_in (by omega) hX, trivial⟩ (xs_at (by omega)) ?_
  refine Runs.topI 5 (cs := [vp_in (N (4 * t) + N 2) X.1]) (pc' := 589) (pl' := [some (.ref 1000), some (.ref 0), some (.ref 23), some (.ref 36), some (.int (N (4 * t))), none, none, none, none]) (v := X.2 (N (4 * t) + N 2).toNatClampNeg) (v' := X.2 (4 * t + 2)) (st' := [.int (X.2 (4 * t + 1)), .ref 0]) (h' := (HP X c m o)) rfl ⟨xs_in (by omega) hX, trivial⟩ (xs_at (by omega)) ?_
  refine Runs.go 1 (cs := []) (pc' := 590) (pl' := [some (.ref 1000), some (.ref 0), some (.ref 23), some (.ref 36), some (.int (N (4 * t))), none, none, none, none]) (st' := [.ref 36, .int (X.2 (4 * t + 2)), .int (X.2 (4 * t + 1)), .ref 0]) (h' := (HP X c m o)) rfl trivial ?_
  refine Runs.call (y := mL_notAt) (as := [.ref 0, .int (X.2 (4 * t + 1)), .int (X.2 (4 * t + 2)), .ref 36]) (rest := []) (pc' := 593) (cs := []) (v := some (.int e)) (h1 := (HP X c1 m o1)) rfl trivial (by decide) hL ?_
  show Runs _ _ 593 _ [.int e] _ _ _ _
  refine Runs.go 1 (cs := []) (pc' := 595) (pl' := [some (.ref 1000), some (.ref 0), some (.ref 23), some (.ref 36), some (.int (N (4 * t))), some (.int e), none, none, none]) (st' := []) (h' := (HP X c1 m o1)) rfl trivial ?_
  refine Runs.topI 6 (cs := [vp_in (N (4 * t) + N 1) X.1]) (pc' := 602) (pl' := [some (.ref 1000), some (.ref 0), some (.ref 23), some (.ref 36), some (.int (N (4 * t))), some (.int e), none, none, none]) (v := X.2 (N (4 * t) + N 1).toNatClampNeg) (v' := X.2 (4 * t + 1)) (st' := [.ref 23]) (h' := (HP X c1 m o1)) rfl ⟨xs_in (by omega) hX, trivial⟩ (xs_at (by omega)) ?_
  refine Runs.topI 5 (cs := [vp_in (N (4 * t) + N 2) X.1]) (pc' := 608) (pl' := [some (.ref 1000), some (.ref 0), some (.ref 23), some (.ref 36), some (.int (N (4 * t))), some (.int e), none, none, none]) (v := X.2 (N (4 * t) + N 2).toNatClampNeg) (v' := X.2 (4 * t + 2)) (st' := [.int (X.2 (4 * t + 1)), .ref 23]) (h' := (HP X c1 m o1)) rfl ⟨xs_in (by omega) hX, trivial⟩ (xs_at (by omega)) ?_
  refine Runs.cal (y := mX7_notAt) (as := [.ref 23, .int (X.2 (4 * t + 1)), .int (X.2 (4 * t + 2))]) (rest := []) (pc' := 611) (cs := []) (v := some (.int w)) (h1 := (HP X c1 m2 o1)) rfl trivial (by decide) hR ?_
  show Runs _ _ 611 _ [.int w] _ _ _ _
  refine Runs.go 2 (cs := []) (pc' := 614) (pl' := [some (.ref 1000), some (.ref 0), some (.ref 23), some (.ref 36), some (.int (N (4 * t))), some (.int e), some (.int w), none, none]) (st' := [.ref 23]) (h' := (HP X c1 m2 o1)) rfl trivial ?_
  refine Runs.cal (y := mX7_thrown) (as := [.ref 23]) (rest := []) (pc' := 617) (cs := []) (v := some (.int (thZ m2))) (h1 := (HP X c1 m2 o1)) rfl trivial (by decide) k_thr ?_
  show Runs _ _ 617 _ [.int (thZ m2)] _ _ _ _
  refine Runs.go 2 (cs := []) (pc' := bif decide (thZ m2 = e) then 624 else 622) (pl' := [some (.ref 1000), some (.ref 0), some (.ref 23), some (.ref 36), some (.int (N (4 * t))), some (.int e), some (.int w), none, none]) (st' := []) (h' := (HP X c1 m2 o1)) rfl trivial ?_
  refine Runs.brT (decide_eq_true hth) ?_
  refine Runs.go 2 (cs := []) (pc' := bif decide (¬ e = 0) then 641 else 629) (pl' := [some (.ref 1000), some (.ref 0), some (.ref 23), some (.ref 36), some (.int (N (4 * t))), some (.int e), some (.int w), none, none]) (st' := []) (h' := (HP X c1 m2 o1)) rfl trivial ?_
  refine Runs.br (fun _ => ?_) (fun z => ?_)
  · refine Runs.go 1 (cs := []) (pc' := 2133) (pl' := [some (.ref 1000), some (.ref 0), some (.ref 23), some (.ref 36), some (.int (N (4 * t))), some (.int e), some (.int w), none, none]) (st' := []) (h' := (HP X c1 m2 o1)) rfl trivial ?_
    exact law_wk r
  · replace z : e = 0 := Classical.not_not.mp (of_decide_eq_false z)
    refine Runs.go 7 (cs := [vp_in (N 0) 1]) (pc' := bif decide (lg_cmp (o1 (N 0).toNatClampNeg) (w.toInt64) = 0) then 641 else 639) (pl' := [some (.ref 1000), some (.ref 0), some (.ref 23), some (.ref 36), some (.int (N (4 * t))), some (.int e), some (.int w), none, none]) (st' := []) (h' := (HP X c1 m2 o1)) rfl ⟨(N_in (by decide) (by decide)), trivial⟩ ?_
    refine Runs.brT (decide_eq_true (by rw [show o1 (N 0).toNatClampNeg = w.toInt64 from hv z]; exact lg_same _)) ?_
    refine Runs.go 1 (cs := []) (pc' := 2133) (pl' := [some (.ref 1000), some (.ref 0), some (.ref 23), some (.ref 36), some (.int (N (4 * t))), some (.int e), some (.int w), none, none]) (st' := []) (h' := (HP X c1 m2 o1)) rfl trivial ?_
    exact law_wk r
theorem w_either {X : Nat × (Nat → Int32)} {t : Nat} {c c1 : CT} {m m2 : MT} {o o1 : Nat → Int64} {res : Option Value ⊕ String} {h2 : PH} {e w : Int32} {k kk : Nat} (hX : X.1 ≤ 2048) (ht : 4 * t + 4 ≤ X.1) (hL : Call 31 mL_either [.ref 0, .int (X.2 (4 * t + 1)), .int (X.2 (4 * t + 2)), .int (X.2 (4 * t + 3)), .ref 36] (HP X c m o) (.inl (some (.int e))) (HP X c1 m o1) k) (hR : Call 30 mX7_either [.ref 23, .int (X.2 (4 * t + 1)), .int (X.2 (4 * t + 2)), .int (X.2 (4 * t + 3))] (HP X c1 m o1) (.inl (some (.int w))) (HP X c1 m2 o1) 0) (hth : thZ m2 = e) (hv : e = 0 → o1 0 = w.toInt64) (r : Runs 60 mL_law 2133 (lawL (N (4 * t))) [] (HP X c1 m2 o1) res h2 kk) : Runs 60 mL_law 644 (lawL (N (4 * t))) [] (HP X c m o) res h2 (k + kk) := by
  refine Runs.topI 6 (cs := [vp_in (N (4 * t) + N 1) X.1]) (pc' := 651) (pl' := [some (.ref 1000), some (.ref 0), some (.ref 23), some (.ref 36), some (.int (N (4 * t))), none, none, none, none]) (v := X.2 (N (4 * t) + N 1).toNatClampNeg) (v' := X.2 (4 * t + 1)) (st' := [.ref 0]) (h' := (HP X c m o)) rfl ⟨xs_in (by omega) hX, trivial⟩ (xs_at (by omega)) ?_
  refine Runs.topI 5 (cs := [vp_in (N (4 * t) + N 2) X.1]) (pc' := 657) (pl' := [some (.ref 1000), some (.ref 0), some (.ref 23), some (.ref 36), some (.int (N (4 * t))), none, none, none, none]) (v := X.2 (N (4 * t) + N 2).toNatClampNeg) (v' := X.2 (4 * t + 2)) (st' := [.int (X.2 (4 * t + 1)), .ref 0]) (h' := (HP X c m o)) rfl ⟨xs_in (by omega) hX, trivial⟩ (xs_at (by omega)) ?_
  refine Runs.topI 5 (cs := [vp_in (N (4 * t) + N 3) X.1]) (pc' := 663) (pl' := [some (.ref 1000), some (.ref 0), some (.ref 23), some (.ref 36), some (.int (N (4 * t))), none, none, none, none]) (v := X.2 (N (4 * t) + N 3).toNatClampNeg) (v' := X.2 (4 * t + 3)) (st' := [.int (X.2 (4 * t + 2)), .int (X.2 (4 * t + 1)), .ref 0]) (h' := (HP X c m o)) rfl ⟨xs_in (by omega) hX, trivial⟩ (xs_at (by omega)) ?_
  refine Runs.go 1 (cs := []) (pc' := 664) (pl' := [some (.ref 1000), some (.ref 0), some (.ref 23), some (.ref 36), some (.int (N (4 * t))), none, none, none, none]) (st' := [.ref 36, .int (X.2 (4 * t + 3)), .int (X.2 (4 * t + 2)), .int (X.2 (4 * t + 1)), .ref 0]) (h' := (HP X c m o)) rfl trivial ?_
  refine Runs.call (y := mL_either) (as := [.ref 0, .int (X.2 (4 * t + 1)), .int (X.2 (4 * t + 2)), .int (X.2 (4 * t + 3)), .ref 36]) (rest := []) (pc' := 667) (cs := []) (v := some (.int e)) (h1 := (HP X c1 m o1)) rfl trivial (by decide) hL ?_
  show Runs _ _ 667 _ [.int e] _ _ _ _
  refine Runs.go 1 (cs := []) (pc' := 669) (pl' := [some (.ref 1000), some (.ref 0), some (.ref 23), some (.ref 36), some (.int (N (4 * t))), some (.int e), none, none, none]) (st' := []) (h' := (HP X c1 m o1)) rfl trivial ?_
  refine Runs.topI 6 (cs := [vp_in (N (4 * t) + N 1) X.1]) (pc' := 676) (pl' := [some (.ref 1000), some (.ref 0), some (.ref 23), some (.ref 36), some (.int (N (4 * t))), some (.int e), none, none, none]) (v := X.2 (N (4 * t) + N 1).toNatClampNeg) (v' := X.2 (4 * t + 1)) (st' := [.ref 23]) (h' := (HP X c1 m o1)) rfl ⟨xs_in (by omega) hX, trivial⟩ (xs_at (by omega)) ?_
  refine Runs.topI 5 (cs := [vp_in (N (4 * t) + N 2) X.1]) (pc' := 682) (pl' := [some (.ref 1000), some (.ref 0), some (.ref 23), some (.ref 36), some (.int (N (4 * t))), some (.int e), none, none, none]) (v := X.2 (N (4 * t) + N 2).toNatClampNeg) (v' := X.2 (4 * t + 2)) (st' := [.int (X.2 (4 * t + 1)), .ref 23]) (h' := (HP X c1 m o1)) rfl ⟨xs_in (by omega) hX, trivial⟩ (xs_at (by omega)) ?_
  refine Runs.topI 5 (cs := [vp_in (N (4 * t) + N 3) X.1]) (pc' := 688) (pl' := [some (.ref 1000), some (.ref 0), some (.ref 23), some (.ref 36), some (.int (N (4 * t))), some (.int e), none, none, none]) (v := X.2 (N (4 * t) + N 3).toNatClampNeg) (v' := X.2 (4 * t + 3)) (st' := [.int (X.2 (4 * t + 2)), .int (X.2 (4 * t + 1)), .ref 23]) (h' := (HP X c1 m o1)) rfl ⟨xs_in (by omega) hX, trivial⟩ (xs_at (by omega)) ?_
  refine Runs.cal (y := mX7_either) (as := [.ref 23, .int (X.2 (4 * t + 1)), .int (X.2 (4 * t + 2)), .int (X.2 (4 * t + 3))]) (rest := []) (pc' := 691) (cs := []) (v := some (.int w)) (h1 := (HP X c1 m2 o1)) rfl trivial (by decide) hR ?_
  show Runs _ _ 691 _ [.int w] _ _ _ _
  refine Runs.go 2 (cs := []) (pc' := 694) (pl' := [some (.ref 1000), some (.ref 0), some (.ref 23), some (.ref 36), some (.int (N (4 * t))), some (.int e), some (.int w), none, none]) (st' := [.ref 23]) (h' := (HP X c1 m2 o1)) rfl trivial ?_
  refine Runs.cal (y := mX7_thrown) (as := [.ref 23]) (rest := []) (pc' := 697) (cs := []) (v := some (.int (thZ m2))) (h1 := (HP X c1 m2 o1)) rfl trivial (by decide) k_thr ?_
  show Runs _ _ 697 _ [.int (thZ m2)] _ _ _ _
  refine Runs.go 2 (cs := []) (pc' := bif decide (thZ m2 = e) then 704 else 702) (pl' := [some (.ref 1000), some (.ref 0), some (.ref 23), some (.ref 36), some (.int (N (4 * t))), some (.int e), some (.int w), none, none]) (st' := []) (h' := (HP X c1 m2 o1)) rfl trivial ?_
  refine Runs.brT (decide_eq_true hth) ?_
  refine Runs.go 2 (cs := []) (pc' := bif decide (¬ e = 0) then 721 else 709) (pl' := [some (.ref 1000), some (.ref 0), some (.ref 23), some (.ref 36), some (.int (N (4 * t))), some (.int e), some (.int w), none, none]) (st' := []) (h' := (HP X c1 m2 o1)) rfl trivial ?_
  refine Runs.br (fun _ => ?_) (fun z => ?_)
  · refine Runs.go 1 (cs := []) (pc' := 2133) (pl' := [some (.ref 1000), some (.ref 0), some (.ref 23), some (.ref 36), some (.int (N (4 * t))), some (.int e), some (.int w), none, none]) (st' := []) (h' := (HP X c1 m2 o1)) rfl trivial ?_
    exact law_wk r
  · replace z : e = 0 := Classical.not_not.mp (of_decide_eq_false z)
    refine Runs.go 7 (cs := [vp_in (N 0) 1]) (pc' := bif decide (lg_cmp (o1 (N 0).toNatClampNeg) (w.toInt64) = 0) then 721 else 719) (pl' := [some (.ref 1000), some (.ref 0), some (.ref 23), some (.ref 36), some (.int (N (4 * t))), some (.int e), some (.int w), none, none]) (st' := []) (h' := (HP X c1 m2 o1)) rfl ⟨(N_in (by decide) (by decide)), trivial⟩ ?_
    refine Runs.brT (decide_eq_true (by rw [show o1 (N 0).toNatClampNeg = w.toInt64 from hv z]; exact lg_same _)) ?_
    refine Runs.go 1 (cs := []) (pc' := 2133) (pl' := [some (.ref 1000), some (.ref 0), some (.ref 23), some (.ref 36), some (.int (N (4 * t))), some (.int e), some (.int w), none, none]) (st' := []) (h' := (HP X c1 m2 o1)) rfl trivial ?_
    exact law_wk r
theorem w_withdraw {X : Nat × (Nat → Int32)} {t : Nat} {c c1 : CT} {m m2 : MT} {o o1 : Nat → Int64} {res : Option Value ⊕ String} {h2 : PH} {e w : Int32} {k kk : Nat} (hX : X.1 ≤ 2048) (ht : 4 * t + 4 ≤ X.1) (hL : Call 31 mL_withdraw [.ref 0, .int (X.2 (4 * t + 1)), .ref 36] (HP X c m o) (.inl (some (.int e))) (HP X c1 m o1) k) (hR : Call 30 mX7_withdraw [.ref 23, .int (X.2 (4 * t + 1))] (HP X c1 m o1) (.inl (some (.int w))) (HP X c1 m2 o1) 0) (hth : thZ m2 = e) (hv : e = 0 → o1 0 = w.toInt64) (r : Runs 60 mL_law 2133 (lawL (N (4 * t))) [] (HP X c1 m2 o1) res h2 kk) : Runs 60 mL_law 724 (lawL (N (4 * t))) [] (HP X c m o) res h2 (k + kk) := by
  refine Runs.topI 6 (cs := [vp_in (N (4 * t) + N 1) X.1]) (pc' := 731) (pl' := [some (.ref 1000), some (.ref 0), some (.ref 23), some (.ref 36), some (.int (N (4 * t))), none, none, none, none]) (v := X.2 (N (4 * t) + N 1).toNatClampNeg) (v' := X.2 (4 * t + 1)) (st' := [.ref 0]) (h' := (HP X c m o)) rfl ⟨xs_in (by omega) hX, trivial⟩ (xs_at (by omega)) ?_
  refine Runs.go 1 (cs := []) (pc' := 732) (pl' := [some (.ref 1000), some (.ref 0), some (.ref 23), some (.ref 36), some (.int (N (4 * t))), none, none, none, none]) (st' := [.ref 36, .int (X.2 (4 * t + 1)), .ref 0]) (h' := (HP X c m o)) rfl trivial ?_
  refine Runs.call (y := mL_withdraw) (as := [.ref 0, .int (X.2 (4 * t + 1)), .ref 36]) (rest := []) (pc' := 735) (cs := []) (v := some (.int e)) (h1 := (HP X c1 m o1)) rfl trivial (by decide) hL ?_
  show Runs _ _ 735 _ [.int e] _ _ _ _
  refine Runs.go 1 (cs := []) (pc' := 737) (pl' := [some (.ref 1000), some (.ref 0), some (.ref 23), some (.ref 36), some (.int (N (4 * t))), some (.int e), none, none, none]) (st' := []) (h' := (HP X c1 m o1)) rfl trivial ?_
  refine Runs.topI 6 (cs := [vp_in (N (4 * t) + N 1) X.1]) (pc' := 744) (pl' := [some (.ref 1000), some (.ref 0), some (.ref 23), some (.ref 36), some (.int (N (4 * t))), some (.int e), none, none, none]) (v := X.2 (N (4 * t) + N 1).toNatClampNeg) (v' := X.2 (4 * t + 1)) (st' := [.ref 23]) (h' := (HP X c1 m o1)) rfl ⟨xs_in (by omega) hX, trivial⟩ (xs_at (by omega)) ?_
  refine Runs.cal (y := mX7_withdraw) (as := [.ref 23, .int (X.2 (4 * t + 1))]) (rest := []) (pc' := 747) (cs := []) (v := some (.int w)) (h1 := (HP X c1 m2 o1)) rfl trivial (by decide) hR ?_
  show Runs _ _ 747 _ [.int w] _ _ _ _
  refine Runs.go 2 (cs := []) (pc' := 750) (pl' := [some (.ref 1000), some (.ref 0), some (.ref 23), some (.ref 36), some (.int (N (4 * t))), some (.int e), some (.int w), none, none]) (st' := [.ref 23]) (h' := (HP X c1 m2 o1)) rfl trivial ?_
  refine Runs.cal (y := mX7_thrown) (as := [.ref 23]) (rest := []) (pc' := 753) (cs := []) (v := some (.int (thZ m2))) (h1 := (HP X c1 m2 o1)) rfl trivial (by decide) k_thr ?_
  show Runs _ _ 753 _ [.int (thZ m2)] _ _ _ _
  refine Runs.go 2 (cs := []) (pc' := bif decide (thZ m2 = e) then 760 else 758) (pl' := [some (.ref 1000), some (.ref 0), some (.ref 23), some (.ref 36), some (.int (N (4 * t))), some (.int e), some (.int w), none, none]) (st' := []) (h' := (HP X c1 m2 o1)) rfl trivial ?_
  refine Runs.brT (decide_eq_true hth) ?_
  refine Runs.go 2 (cs := []) (pc' := bif decide (¬ e = 0) then 777 else 765) (pl' := [some (.ref 1000), some (.ref 0), some (.ref 23), some (.ref 36), some (.int (N (4 * t))), some (.int e), some (.int w), none, none]) (st' := []) (h' := (HP X c1 m2 o1)) rfl trivial ?_
  refine Runs.br (fun _ => ?_) (fun z => ?_)
  · refine Runs.go 1 (cs := []) (pc' := 2133) (pl' := [some (.ref 1000), some (.ref 0), some (.ref 23), some (.ref 36), some (.int (N (4 * t))), some (.int e), some (.int w), none, none]) (st' := []) (h' := (HP X c1 m2 o1)) rfl trivial ?_
    exact law_wk r
  · replace z : e = 0 := Classical.not_not.mp (of_decide_eq_false z)
    refine Runs.go 7 (cs := [vp_in (N 0) 1]) (pc' := bif decide (lg_cmp (o1 (N 0).toNatClampNeg) (w.toInt64) = 0) then 777 else 775) (pl' := [some (.ref 1000), some (.ref 0), some (.ref 23), some (.ref 36), some (.int (N (4 * t))), some (.int e), some (.int w), none, none]) (st' := []) (h' := (HP X c1 m2 o1)) rfl ⟨(N_in (by decide) (by decide)), trivial⟩ ?_
    refine Runs.brT (decide_eq_true (by rw [show o1 (N 0).toNatClampNeg = w.toInt64 from hv z]; exact lg_same _)) ?_
    refine Runs.go 1 (cs := []) (pc' := 2133) (pl' := [some (.ref 1000), some (.ref 0), some (.ref 23), some (.ref 36), some (.int (N (4 * t))), some (.int e), some (.int w), none, none]) (st' := []) (h' := (HP X c1 m2 o1)) rfl trivial ?_
    exact law_wk r
theorem w_cross {X : Nat × (Nat → Int32)} {t : Nat} {c c1 : CT} {m m2 : MT} {o o1 : Nat → Int64} {res : Option Value ⊕ String} {h2 : PH} {e w : Int32} {k kk : Nat} (hX : X.1 ≤ 2048) (ht : 4 * t + 4 ≤ X.1) (hL : Call 31 mL_cross [.ref 0, .int (X.2 (4 * t + 1)), .int (X.2 (4 * t + 2)), .ref 36] (HP X c m o) (.inl (some (.int e))) (HP X c1 m o1) k) (hR : Call 30 mX7_cross [.ref 23, .int (X.2 (4 * t + 1)), .int (X.2 (4 * t + 2))] (HP X c1 m o1) (.inl (some (.int w))) (HP X c1 m2 o1) 0) (hth : thZ m2 = e) (hv : e = 0 → o1 0 = w.toInt64) (r : Runs 60 mL_law 2133 (lawL (N (4 * t))) [] (HP X c1 m2 o1) res h2 kk) : Runs 60 mL_law 780 (lawL (N (4 * t))) [] (HP X c m o) res h2 (k + kk) := by
  refine Runs.topI 6 (cs := [vp_in (N (4 * t) + N 1) X.1]) (pc' := 787) (pl' := [some (.ref 1000), some (.ref 0), some (.ref 23), some (.ref 36), some (.int (N (4 * t))), none, none, none, none]) (v := X.2 (N (4 * t) + N 1).toNatClampNeg) (v' := X.2 (4 * t + 1)) (st' := [.ref 0]) (h' := (HP X c m o)) rfl ⟨xs_in (by omega) hX, trivial⟩ (xs_at (by omega)) ?_
  refine Runs.topI 5 (cs := [vp_in (N (4 * t) + N 2) X.1]) (pc' := 793) (pl' := [some (.ref 1000), some (.ref 0), some (.ref 23), some (.ref 36), some (.int (N (4 * t))), none, none, none, none]) (v := X.2 (N (4 * t) + N 2).toNatClampNeg) (v' := X.2 (4 * t + 2)) (st' := [.int (X.2 (4 * t + 1)), .ref 0]) (h' := (HP X c m o)) rfl ⟨xs_in (by omega) hX, trivial⟩ (xs_at (by omega)) ?_
  refine Runs.go 1 (cs := []) (pc' := 794) (pl' := [some (.ref 1000), some (.ref 0), some (.ref 23), some (.ref 36), some (.int (N (4 * t))), none, none, none, none]) (st' := [.ref 36, .int (X.2 (4 * t + 2)), .int (X.2 (4 * t + 1)), .ref 0]) (h' := (HP X c m o)) rfl trivial ?_
  refine Runs.call (y := mL_cross) (as := [.ref 0, .int (X.2 (4 * t + 1)), .int (X.2 (4 * t + 2)), .ref 36]) (rest := []) (pc' := 797) (cs := []) (v := some (.int e)) (h1 := (HP X c1 m o1)) rfl trivial (by decide) hL ?_
  show Runs _ _ 797 _ [.int e] _ _ _ _
  refine Runs.go 1 (cs := []) (pc' := 799) (pl' := [some (.ref 1000), some (.ref 0), some (.ref 23), some (.ref 36), some (.int (N (4 * t))), some (.int e), none, none, none]) (st' := []) (h' := (HP X c1 m o1)) rfl trivial ?_
  refine Runs.topI 6 (cs := [vp_in (N (4 * t) + N 1) X.1]) (pc' := 806) (pl' := [some (.ref 1000), some (.ref 0), some (.ref 23), some (.ref 36), some (.int (N (4 * t))), some (.int e), none, none, none]) (v := X.2 (N (4 * t) + N 1).toNatClampNeg) (v' := X.2 (4 * t + 1)) (st' := [.ref 23]) (h' := (HP X c1 m o1)) rfl ⟨xs_in (by omega) hX, trivial⟩ (xs_at (by omega)) ?_
  refine Runs.topI 5 (cs := [vp_in (N (4 * t) + N 2) X.1]) (pc' := 812) (pl' := [some (.ref 1000), some (.ref 0), some (.ref 23), some (.ref 36), some (.int (N (4 * t))), some (.int e), none, none, none]) (v := X.2 (N (4 * t) + N 2).toNatClampNeg) (v' := X.2 (4 * t + 2)) (st' := [.int (X.2 (4 * t + 1)), .ref 23]) (h' := (HP X c1 m o1)) rfl ⟨xs_in (by omega) hX, trivial⟩ (xs_at (by omega)) ?_
  refine Runs.cal (y := mX7_cross) (as := [.ref 23, .int (X.2 (4 * t + 1)), .int (X.2 (4 * t + 2))]) (rest := []) (pc' := 815) (cs := []) (v := some (.int w)) (h1 := (HP X c1 m2 o1)) rfl trivial (by decide) hR ?_
  show Runs _ _ 815 _ [.int w] _ _ _ _
  refine Runs.go 2 (cs := []) (pc' := 818) (pl' := [some (.ref 1000), some (.ref 0), some (.ref 23), some (.ref 36), some (.int (N (4 * t))), some (.int e), some (.int w), none, none]) (st' := [.ref 23]) (h' := (HP X c1 m2 o1)) rfl trivial ?_
  refine Runs.cal (y := mX7_thrown) (as := [.ref 23]) (rest := []) (pc' := 821) (cs := []) (v := some (.int (thZ m2))) (h1 := (HP X c1 m2 o1)) rfl trivial (by decide) k_thr ?_
  show Runs _ _ 821 _ [.int (thZ m2)] _ _ _ _
  refine Runs.go 2 (cs := []) (pc' := bif decide (thZ m2 = e) then 828 else 826) (pl' := [some (.ref 1000), some (.ref 0), some (.ref 23), some (.ref 36), some (.int (N (4 * t))), some (.int e), some (.int w), none, none]) (st' := []) (h' := (HP X c1 m2 o1)) rfl trivial ?_
  refine Runs.brT (decide_eq_true hth) ?_
  refine Runs.go 2 (cs := []) (pc' := bif decide (¬ e = 0) then 845 else 833) (pl' := [some (.ref 1000), some (.ref 0), some (.ref 23), some (.ref 36), some (.int (N (4 * t))), some (.int e), some (.int w), none, none]) (st' := []) (h' := (HP X c1 m2 o1)) rfl trivial ?_
  refine Runs.br (fun _ => ?_) (fun z => ?_)
  · refine Runs.go 1 (cs := []) (pc' := 2133) (pl' := [some (.ref 1000), some (.ref 0), some (.ref 23), some (.ref 36), some (.int (N (4 * t))), some (.int e), some (.int w), none, none]) (st' := []) (h' := (HP X c1 m2 o1)) rfl trivial ?_
    exact law_wk r
  · replace z : e = 0 := Classical.not_not.mp (of_decide_eq_false z)
    refine Runs.go 7 (cs := [vp_in (N 0) 1]) (pc' := bif decide (lg_cmp (o1 (N 0).toNatClampNeg) (w.toInt64) = 0) then 845 else 843) (pl' := [some (.ref 1000), some (.ref 0), some (.ref 23), some (.ref 36), some (.int (N (4 * t))), some (.int e), some (.int w), none, none]) (st' := []) (h' := (HP X c1 m2 o1)) rfl ⟨(N_in (by decide) (by decide)), trivial⟩ ?_
    refine Runs.brT (decide_eq_true (by rw [show o1 (N 0).toNatClampNeg = w.toInt64 from hv z]; exact lg_same _)) ?_
    refine Runs.go 1 (cs := []) (pc' := 2133) (pl' := [some (.ref 1000), some (.ref 0), some (.ref 23), some (.ref 36), some (.int (N (4 * t))), some (.int e), some (.int w), none, none]) (st' := []) (h' := (HP X c1 m2 o1)) rfl trivial ?_
    exact law_wk r
theorem w_rubOut {X : Nat × (Nat → Int32)} {t : Nat} {c c1 : CT} {m m2 : MT} {o o1 : Nat → Int64} {res : Option Value ⊕ String} {h2 : PH} {e w : Int32} {k kk : Nat} (hX : X.1 ≤ 2048) (ht : 4 * t + 4 ≤ X.1) (hL : Call 31 mL_rubOut [.ref 0, .int (X.2 (4 * t + 1)), .int (X.2 (4 * t + 2)), .ref 36] (HP X c m o) (.inl (some (.int e))) (HP X c1 m o1) k) (hR : Call 30 mX7_rubOut [.ref 23, .int (X.2 (4 * t + 1)), .int (X.2 (4 * t + 2))] (HP X c1 m o1) (.inl (some (.int w))) (HP X c1 m2 o1) 0) (hth : thZ m2 = e) (hv : e = 0 → o1 0 = w.toInt64) (r : Runs 60 mL_law 2133 (lawL (N (4 * t))) [] (HP X c1 m2 o1) res h2 kk) : Runs 60 mL_law 848 (lawL (N (4 * t))) [] (HP X c m o) res h2 (k + kk) := by
  refine Runs.topI 6 (cs := [vp_in (N (4 * t) + N 1) X.1]) (pc' := 855) (pl' := [some (.ref 1000), some (.ref 0), some (.ref 23), some (.ref 36), some (.int (N (4 * t))), none, none, none, none]) (v := X.2 (N (4 * t) + N 1).toNatClampNeg) (v' := X.2 (4 * t + 1)) (st' := [.ref 0]) (h' := (HP X c m o)) rfl ⟨xs_in (by omega) hX, trivial⟩ (xs_at (by omega)) ?_
  refine Runs.topI 5 (cs := [vp_in (N (4 * t) + N 2) X.1]) (pc' := 861) (pl' := [some (.ref 1000), some (.ref 0), some (.ref 23), some (.ref 36), some (.int (N (4 * t))), none, none, none, none]) (v := X.2 (N (4 * t) + N 2).toNatClampNeg) (v' := X.2 (4 * t + 2)) (st' := [.int (X.2 (4 * t + 1)), .ref 0]) (h' := (HP X c m o)) rfl ⟨xs_in (by omega) hX, trivial⟩ (xs_at (by omega)) ?_
  refine Runs.go 1 (cs := []) (pc' := 862) (pl' := [some (.ref 1000), some (.ref 0), some (.ref 23), some (.ref 36), some (.int (N (4 * t))), none, none, none, none]) (st' := [.ref 36, .int (X.2 (4 * t + 2)), .int (X.2 (4 * t + 1)), .ref 0]) (h' := (HP X c m o)) rfl trivial ?_
  refine Runs.call (y := mL_rubOut) (as := [.ref 0, .int (X.2 (4 * t + 1)), .int (X.2 (4 * t + 2)), .ref 36]) (rest := []) (pc' := 865) (cs := []) (v := some (.int e)) (h1 := (HP X c1 m o1)) rfl trivial (by decide) hL ?_
  show Runs _ _ 865 _ [.int e] _ _ _ _
  refine Runs.go 1 (cs := []) (pc' := 867) (pl' := [some (.ref 1000), some (.ref 0), some (.ref 23), some (.ref 36), some (.int (N (4 * t))), some (.int e), none, none, none]) (st' := []) (h' := (HP X c1 m o1)) rfl trivial ?_
  refine Runs.topI 6 (cs := [vp_in (N (4 * t) + N 1) X.1]) (pc' := 874) (pl' := [some (.ref 1000), some (.ref 0), some (.ref 23), some (.ref 36), some (.int (N (4 * t))), some (.int e), none, none, none]) (v := X.2 (N (4 * t) + N 1).toNatClampNeg) (v' := X.2 (4 * t + 1)) (st' := [.ref 23]) (h' := (HP X c1 m o1)) rfl ⟨xs_in (by omega) hX, trivial⟩ (xs_at (by omega)) ?_
  refine Runs.topI 5 (cs := [vp_in (N (4 * t) + N 2) X.1]) (pc' := 880) (pl' := [some (.ref 1000), some (.ref 0), some (.ref 23), some (.ref 36), some (.int (N (4 * t))), some (.int e), none, none, none]) (v := X.2 (N (4 * t) + N 2).toNatClampNeg) (v' := X.2 (4 * t + 2)) (st' := [.int (X.2 (4 * t + 1)), .ref 23]) (h' := (HP X c1 m o1)) rfl ⟨xs_in (by omega) hX, trivial⟩ (xs_at (by omega)) ?_
  refine Runs.cal (y := mX7_rubOut) (as := [.ref 23, .int (X.2 (4 * t + 1)), .int (X.2 (4 * t + 2))]) (rest := []) (pc' := 883) (cs := []) (v := some (.int w)) (h1 := (HP X c1 m2 o1)) rfl trivial (by decide) hR ?_
  show Runs _ _ 883 _ [.int w] _ _ _ _
  refine Runs.go 2 (cs := []) (pc' := 886) (pl' := [some (.ref 1000), some (.ref 0), some (.ref 23), some (.ref 36), some (.int (N (4 * t))), some (.int e), some (.int w), none, none]) (st' := [.ref 23]) (h' := (HP X c1 m2 o1)) rfl trivial ?_
  refine Runs.cal (y := mX7_thrown) (as := [.ref 23]) (rest := []) (pc' := 889) (cs := []) (v := some (.int (thZ m2))) (h1 := (HP X c1 m2 o1)) rfl trivial (by decide) k_thr ?_
  show Runs _ _ 889 _ [.int (thZ m2)] _ _ _ _
  refine Runs.go 2 (cs := []) (pc' := bif decide (thZ m2 = e) then 896 else 894) (pl' := [some (.ref 1000), some (.ref 0), some (.ref 23), some (.ref 36), some (.int (N (4 * t))), some (.int e), some (.int w), none, none]) (st' := []) (h' := (HP X c1 m2 o1)) rfl trivial ?_
  refine Runs.brT (decide_eq_true hth) ?_
  refine Runs.go 2 (cs := []) (pc' := bif decide (¬ e = 0) then 913 else 901) (pl' := [some (.ref 1000), some (.ref 0), some (.ref 23), some (.ref 36), some (.int (N (4 * t))), some (.int e), some (.int w), none, none]) (st' := []) (h' := (HP X c1 m2 o1)) rfl trivial ?_
  refine Runs.br (fun _ => ?_) (fun z => ?_)
  · refine Runs.go 1 (cs := []) (pc' := 2133) (pl' := [some (.ref 1000), some (.ref 0), some (.ref 23), some (.ref 36), some (.int (N (4 * t))), some (.int e), some (.int w), none, none]) (st' := []) (h' := (HP X c1 m2 o1)) rfl trivial ?_
    exact law_wk r
  · replace z : e = 0 := Classical.not_not.mp (of_decide_eq_false z)
    refine Runs.go 7 (cs := [vp_in (N 0) 1]) (pc' := bif decide (lg_cmp (o1 (N 0).toNatClampNeg) (w.toInt64) = 0) then 913 else 911) (pl' := [some (.ref 1000), some (.ref 0), some (.ref 23), some (.ref 36), some (.int (N (4 * t))), some (.int e), some (.int w), none, none]) (st' := []) (h' := (HP X c1 m2 o1)) rfl ⟨(N_in (by decide) (by decide)), trivial⟩ ?_
    refine Runs.brT (decide_eq_true (by rw [show o1 (N 0).toNatClampNeg = w.toInt64 from hv z]; exact lg_same _)) ?_
    refine Runs.go 1 (cs := []) (pc' := 2133) (pl' := [some (.ref 1000), some (.ref 0), some (.ref 23), some (.ref 36), some (.int (N (4 * t))), some (.int e), some (.int w), none, none]) (st' := []) (h' := (HP X c1 m2 o1)) rfl trivial ?_
    exact law_wk r
theorem w_rubAllOut {X : Nat × (Nat → Int32)} {t : Nat} {c c1 : CT} {m m2 : MT} {o : Nat → Int64} {res : Option Value ⊕ String} {h2 : PH} {v : Int32} {kk : Nat} (hL : Call 30 mX6_rubAllOut [.ref 0] (HP X c m o) (.inl (some (.int v))) (HP X c1 m o) 0) (hR : Call 30 mX7_rubAllOut [.ref 23] (HP X c1 m o) (.inl (some (.int v))) (HP X c1 m2 o) 0) (r : Runs 60 mL_law 2133 (lawL (N (4 * t))) [] (HP X c1 m2 o) res h2 kk) : Runs 60 mL_law 916 (lawL (N (4 * t))) [] (HP X c m o) res h2 kk := by
  refine Runs.go 1 (cs := []) (pc' := 917) (pl' := [some (.ref 1000), some (.ref 0), some (.ref 23), some (.ref 36), some (.int (N (4 * t))), none, none, none, none]) (st' := [.ref 0]) (h' := (HP X c m o)) rfl trivial ?_
  refine Runs.cal (y := mX6_rubAllOut) (as := [.ref 0]) (rest := []) (pc' := 920) (cs := []) (v := some (.int v)) (h1 := (HP X c1 m o)) rfl trivial (by decide) hL ?_
  show Runs _ _ 920 _ [.int v] _ _ _ _
  refine Runs.go 1 (cs := []) (pc' := 921) (pl' := [some (.ref 1000), some (.ref 0), some (.ref 23), some (.ref 36), some (.int (N (4 * t))), none, none, none, none]) (st' := [.ref 23, .int v]) (h' := (HP X c1 m o)) rfl trivial ?_
  refine Runs.cal (y := mX7_rubAllOut) (as := [.ref 23]) (rest := [.int v]) (pc' := 924) (cs := []) (v := some (.int v)) (h1 := (HP X c1 m2 o)) rfl trivial (by decide) hR ?_
  show Runs _ _ 924 _ [.int v, .int v] _ _ _ _
  refine Runs.go 1 (cs := []) (pc' := bif decide (v = v) then 2133 else 927) (pl' := [some (.ref 1000), some (.ref 0), some (.ref 23), some (.ref 36), some (.int (N (4 * t))), none, none, none, none]) (st' := []) (h' := (HP X c1 m2 o)) rfl trivial ?_
  exact Runs.brT (decide_eq_true rfl) (law_wk r)
theorem w_settle {X : Nat × (Nat → Int32)} {t : Nat} {c c1 : CT} {m m2 : MT} {o o1 : Nat → Int64} {res : Option Value ⊕ String} {h2 : PH} {e w : Int32} {k kk : Nat} (hX : X.1 ≤ 2048) (ht : 4 * t + 4 ≤ X.1) (hL : Call 31 mL_settle [.ref 0, .ref 36] (HP X c m o) (.inl (some (.int e))) (HP X c1 m o1) k) (hR : Call 30 mX7_settle [.ref 23] (HP X c1 m o1) (.inl (some (.int w))) (HP X c1 m2 o1) 0) (hth : thZ m2 = e) (hv : e = 0 → o1 0 = w.toInt64) (r : Runs 60 mL_law 2133 (lawL (N (4 * t))) [] (HP X c1 m2 o1) res h2 kk) : Runs 60 mL_law 929 (lawL (N (4 * t))) [] (HP X c m o) res h2 (k + kk) := by
  refine Runs.go 2 (cs := []) (pc' := 931) (pl' := [some (.ref 1000), some (.ref 0), some (.ref 23), some (.ref 36), some (.int (N (4 * t))), none, none, none, none]) (st' := [.ref 36, .ref 0]) (h' := (HP X c m o)) rfl trivial ?_
  refine Runs.call (y := mL_settle) (as := [.ref 0, .ref 36]) (rest := []) (pc' := 934) (cs := []) (v := some (.int e)) (h1 := (HP X c1 m o1)) rfl trivial (by decide) hL ?_
  show Runs _ _ 934 _ [.int e] _ _ _ _
  refine Runs.go 1 (cs := []) (pc' := 936) (pl' := [some (.ref 1000), some (.ref 0), some (.ref 23), some (.ref 36), some (.int (N (4 * t))), some (.int e), none, none, none]) (st' := []) (h' := (HP X c1 m o1)) rfl trivial ?_
  refine Runs.go 1 (cs := []) (pc' := 937) (pl' := [some (.ref 1000), some (.ref 0), some (.ref 23), some (.ref 36), some (.int (N (4 * t))), some (.int e), none, none, none]) (st' := [.ref 23]) (h' := (HP X c1 m o1)) rfl trivial ?_
  refine Runs.cal (y := mX7_settle) (as := [.ref 23]) (rest := []) (pc' := 940) (cs := []) (v := some (.int w)) (h1 := (HP X c1 m2 o1)) rfl trivial (by decide) hR ?_
  show Runs _ _ 940 _ [.int w] _ _ _ _
  refine Runs.go 2 (cs := []) (pc' := 943) (pl' := [some (.ref 1000), some (.ref 0), some (.ref 23), some (.ref 36), some (.int (N (4 * t))), some (.int e), some (.int w), none, none]) (st' := [.ref 23]) (h' := (HP X c1 m2 o1)) rfl trivial ?_
  refine Runs.cal (y := mX7_thrown) (as := [.ref 23]) (rest := []) (pc' := 946) (cs := []) (v := some (.int (thZ m2))) (h1 := (HP X c1 m2 o1)) rfl trivial (by decide) k_thr ?_
  show Runs _ _ 946 _ [.int (thZ m2)] _ _ _ _
  refine Runs.go 2 (cs := []) (pc' := bif decide (thZ m2 = e) then 953 else 951) (pl' := [some (.ref 1000), some (.ref 0), some (.ref 23), some (.ref 36), some (.int (N (4 * t))), some (.int e), some (.int w), none, none]) (st' := []) (h' := (HP X c1 m2 o1)) rfl trivial ?_
  refine Runs.brT (decide_eq_true hth) ?_
  refine Runs.go 2 (cs := []) (pc' := bif decide (¬ e = 0) then 970 else 958) (pl' := [some (.ref 1000), some (.ref 0), some (.ref 23), some (.ref 36), some (.int (N (4 * t))), some (.int e), some (.int w), none, none]) (st' := []) (h' := (HP X c1 m2 o1)) rfl trivial ?_
  refine Runs.br (fun _ => ?_) (fun z => ?_)
  · refine Runs.go 1 (cs := []) (pc' := 2133) (pl' := [some (.ref 1000), some (.ref 0), some (.ref 23), some (.ref 36), some (.int (N (4 * t))), some (.int e), some (.int w), none, none]) (st' := []) (h' := (HP X c1 m2 o1)) rfl trivial ?_
    exact law_wk r
  · replace z : e = 0 := Classical.not_not.mp (of_decide_eq_false z)
    refine Runs.go 7 (cs := [vp_in (N 0) 1]) (pc' := bif decide (lg_cmp (o1 (N 0).toNatClampNeg) (w.toInt64) = 0) then 970 else 968) (pl' := [some (.ref 1000), some (.ref 0), some (.ref 23), some (.ref 36), some (.int (N (4 * t))), some (.int e), some (.int w), none, none]) (st' := []) (h' := (HP X c1 m2 o1)) rfl ⟨(N_in (by decide) (by decide)), trivial⟩ ?_
    refine Runs.brT (decide_eq_true (by rw [show o1 (N 0).toNatClampNeg = w.toInt64 from hv z]; exact lg_same _)) ?_
    refine Runs.go 1 (cs := []) (pc' := 2133) (pl' := [some (.ref 1000), some (.ref 0), some (.ref 23), some (.ref 36), some (.int (N (4 * t))), some (.int e), some (.int w), none, none]) (st' := []) (h' := (HP X c1 m2 o1)) rfl trivial ?_
    exact law_wk r
theorem w_append {X : Nat × (Nat → Int32)} {t : Nat} {c c1 : CT} {m m2 : MT} {o o1 : Nat → Int64} {res : Option Value ⊕ String} {h2 : PH} {e w : Int32} {k kk : Nat} (hX : X.1 ≤ 2048) (ht : 4 * t + 4 ≤ X.1) (hL : Call 31 mL_append [.ref 0, .int (X.2 (4 * t + 1)), .ref 36] (HP X c m o) (.inl (some (.int e))) (HP X c1 m o1) k) (hR : Call 30 mX7_append [.ref 23, .int (X.2 (4 * t + 1))] (HP X c1 m o1) (.inl (some (.int w))) (HP X c1 m2 o1) 0) (hth : thZ m2 = e) (hv : e = 0 → o1 0 = w.toInt64) (r : Runs 60 mL_law 2133 (lawL (N (4 * t))) [] (HP X c1 m2 o1) res h2 kk) : Runs 60 mL_law 973 (lawL (N (4 * t))) [] (HP X c m o) res h2 (k + kk) := by
  refine Runs.topI 6 (cs := [vp_in (N (4 * t) + N 1) X.1]) (pc' := 980) (pl' := [some (.ref 1000), some (.ref 0), some (.ref 23), some (.ref 36), some (.int (N (4 * t))), none, none, none, none]) (v := X.2 (N (4 * t) + N 1).toNatClampNeg) (v' := X.2 (4 * t + 1)) (st' := [.ref 0]) (h' := (HP X c m o)) rfl ⟨xs_in (by omega) hX, trivial⟩ (xs_at (by omega)) ?_
  refine Runs.go 1 (cs := []) (pc' := 981) (pl' := [some (.ref 1000), some (.ref 0), some (.ref 23), some (.ref 36), some (.int (N (4 * t))), none, none, none, none]) (st' := [.ref 36, .int (X.2 (4 * t + 1)), .ref 0]) (h' := (HP X c m o)) rfl trivial ?_
  refine Runs.call (y := mL_append) (as := [.ref 0, .int (X.2 (4 * t + 1)), .ref 36]) (rest := []) (pc' := 984) (cs := []) (v := some (.int e)) (h1 := (HP X c1 m o1)) rfl trivial (by decide) hL ?_
  show Runs _ _ 984 _ [.int e] _ _ _ _
  refine Runs.go 1 (cs := []) (pc' := 986) (pl' := [some (.ref 1000), some (.ref 0), some (.ref 23), some (.ref 36), some (.int (N (4 * t))), some (.int e), none, none, none]) (st' := []) (h' := (HP X c1 m o1)) rfl trivial ?_
  refine Runs.topI 6 (cs := [vp_in (N (4 * t) + N 1) X.1]) (pc' := 993) (pl' := [some (.ref 1000), some (.ref 0), some (.ref 23), some (.ref 36), some (.int (N (4 * t))), some (.int e), none, none, none]) (v := X.2 (N (4 * t) + N 1).toNatClampNeg) (v' := X.2 (4 * t + 1)) (st' := [.ref 23]) (h' := (HP X c1 m o1)) rfl ⟨xs_in (by omega) hX, trivial⟩ (xs_at (by omega)) ?_
  refine Runs.cal (y := mX7_append) (as := [.ref 23, .int (X.2 (4 * t + 1))]) (rest := []) (pc' := 996) (cs := []) (v := some (.int w)) (h1 := (HP X c1 m2 o1)) rfl trivial (by decide) hR ?_
  show Runs _ _ 996 _ [.int w] _ _ _ _
  refine Runs.go 2 (cs := []) (pc' := 999) (pl' := [some (.ref 1000), some (.ref 0), some (.ref 23), some (.ref 36), some (.int (N (4 * t))), some (.int e), some (.int w), none, none]) (st' := [.ref 23]) (h' := (HP X c1 m2 o1)) rfl trivial ?_
  refine Runs.cal (y := mX7_thrown) (as := [.ref 23]) (rest := []) (pc' := 1002) (cs := []) (v := some (.int (thZ m2))) (h1 := (HP X c1 m2 o1)) rfl trivial (by decide) k_thr ?_
  show Runs _ _ 1002 _ [.int (thZ m2)] _ _ _ _
  refine Runs.go 2 (cs := []) (pc' := bif decide (thZ m2 = e) then 1009 else 1007) (pl' := [some (.ref 1000), some (.ref 0), some (.ref 23), some (.ref 36), some (.int (N (4 * t))), some (.int e), some (.int w), none, none]) (st' := []) (h' := (HP X c1 m2 o1)) rfl trivial ?_
  refine Runs.brT (decide_eq_true hth) ?_
  refine Runs.go 2 (cs := []) (pc' := bif decide (¬ e = 0) then 1026 else 1014) (pl' := [some (.ref 1000), some (.ref 0), some (.ref 23), some (.ref 36), some (.int (N (4 * t))), some (.int e), some (.int w), none, none]) (st' := []) (h' := (HP X c1 m2 o1)) rfl trivial ?_
  refine Runs.br (fun _ => ?_) (fun z => ?_)
  · refine Runs.go 1 (cs := []) (pc' := 2133) (pl' := [some (.ref 1000), some (.ref 0), some (.ref 23), some (.ref 36), some (.int (N (4 * t))), some (.int e), some (.int w), none, none]) (st' := []) (h' := (HP X c1 m2 o1)) rfl trivial ?_
    exact law_wk r
  · replace z : e = 0 := Classical.not_not.mp (of_decide_eq_false z)
    refine Runs.go 7 (cs := [vp_in (N 0) 1]) (pc' := bif decide (lg_cmp (o1 (N 0).toNatClampNeg) (w.toInt64) = 0) then 1026 else 1024) (pl' := [some (.ref 1000), some (.ref 0), some (.ref 23), some (.ref 36), some (.int (N (4 * t))), some (.int e), some (.int w), none, none]) (st' := []) (h' := (HP X c1 m2 o1)) rfl ⟨(N_in (by decide) (by decide)), trivial⟩ ?_
    refine Runs.brT (decide_eq_true (by rw [show o1 (N 0).toNatClampNeg = w.toInt64 from hv z]; exact lg_same _)) ?_
    refine Runs.go 1 (cs := []) (pc' := 2133) (pl' := [some (.ref 1000), some (.ref 0), some (.ref 23), some (.ref 36), some (.int (N (4 * t))), some (.int e), some (.int w), none, none]) (st' := []) (h' := (HP X c1 m2 o1)) rfl trivial ?_
    exact law_wk r
theorem w_clearBuffer {X : Nat × (Nat → Int32)} {t : Nat} {c c1 : CT} {m m2 : MT} {o : Nat → Int64} {res : Option Value ⊕ String} {h2 : PH} {v : Int32} {kk : Nat} (hL : Call 30 mX6_clearBuffer [.ref 0] (HP X c m o) (.inl (some (.int v))) (HP X c1 m o) 0) (hR : Call 30 mX7_clearBuffer [.ref 23] (HP X c1 m o) (.inl (some (.int v))) (HP X c1 m2 o) 0) (r : Runs 60 mL_law 2133 (lawL (N (4 * t))) [] (HP X c1 m2 o) res h2 kk) : Runs 60 mL_law 1029 (lawL (N (4 * t))) [] (HP X c m o) res h2 kk := by
  refine Runs.go 1 (cs := []) (pc' := 1030) (pl' := [some (.ref 1000), some (.ref 0), some (.ref 23), some (.ref 36), some (.int (N (4 * t))), none, none, none, none]) (st' := [.ref 0]) (h' := (HP X c m o)) rfl trivial ?_
  refine Runs.cal (y := mX6_clearBuffer) (as := [.ref 0]) (rest := []) (pc' := 1033) (cs := []) (v := some (.int v)) (h1 := (HP X c1 m o)) rfl trivial (by decide) hL ?_
  show Runs _ _ 1033 _ [.int v] _ _ _ _
  refine Runs.go 1 (cs := []) (pc' := 1034) (pl' := [some (.ref 1000), some (.ref 0), some (.ref 23), some (.ref 36), some (.int (N (4 * t))), none, none, none, none]) (st' := [.ref 23, .int v]) (h' := (HP X c1 m o)) rfl trivial ?_
  refine Runs.cal (y := mX7_clearBuffer) (as := [.ref 23]) (rest := [.int v]) (pc' := 1037) (cs := []) (v := some (.int v)) (h1 := (HP X c1 m2 o)) rfl trivial (by decide) hR ?_
  show Runs _ _ 1037 _ [.int v, .int v] _ _ _ _
  refine Runs.go 1 (cs := []) (pc' := bif decide (v = v) then 2133 else 1040) (pl' := [some (.ref 1000), some (.ref 0), some (.ref 23), some (.ref 36), some (.int (N (4 * t))), none, none, none, none]) (st' := []) (h' := (HP X c1 m2 o)) rfl trivial ?_
  exact Runs.brT (decide_eq_true rfl) (law_wk r)
theorem w_firstError {X : Nat × (Nat → Int32)} {t : Nat} {c c1 : CT} {m m2 : MT} {o : Nat → Int64} {res : Option Value ⊕ String} {h2 : PH} {v : Int32} {kk : Nat} (hL : Call 30 mX6_firstError [.ref 0] (HP X c m o) (.inl (some (.int v))) (HP X c1 m o) 0) (hR : Call 30 mX7_firstError [.ref 23] (HP X c1 m o) (.inl (some (.int v))) (HP X c1 m2 o) 0) (r : Runs 60 mL_law 2133 (lawL (N (4 * t))) [] (HP X c1 m2 o) res h2 kk) : Runs 60 mL_law 1042 (lawL (N (4 * t))) [] (HP X c m o) res h2 kk := by
  refine Runs.go 1 (cs := []) (pc' := 1043) (pl' := [some (.ref 1000), some (.ref 0), some (.ref 23), some (.ref 36), some (.int (N (4 * t))), none, none, none, none]) (st' := [.ref 0]) (h' := (HP X c m o)) rfl trivial ?_
  refine Runs.cal (y := mX6_firstError) (as := [.ref 0]) (rest := []) (pc' := 1046) (cs := []) (v := some (.int v)) (h1 := (HP X c1 m o)) rfl trivial (by decide) hL ?_
  show Runs _ _ 1046 _ [.int v] _ _ _ _
  refine Runs.go 1 (cs := []) (pc' := 1047) (pl' := [some (.ref 1000), some (.ref 0), some (.ref 23), some (.ref 36), some (.int (N (4 * t))), none, none, none, none]) (st' := [.ref 23, .int v]) (h' := (HP X c1 m o)) rfl trivial ?_
  refine Runs.cal (y := mX7_firstError) (as := [.ref 23]) (rest := [.int v]) (pc' := 1050) (cs := []) (v := some (.int v)) (h1 := (HP X c1 m2 o)) rfl trivial (by decide) hR ?_
  show Runs _ _ 1050 _ [.int v, .int v] _ _ _ _
  refine Runs.go 1 (cs := []) (pc' := bif decide (v = v) then 2133 else 1053) (pl' := [some (.ref 1000), some (.ref 0), some (.ref 23), some (.ref 36), some (.int (N (4 * t))), none, none, none, none]) (st' := []) (h' := (HP X c1 m2 o)) rfl trivial ?_
  exact Runs.brT (decide_eq_true rfl) (law_wk r)
theorem w_take {X : Nat × (Nat → Int32)} {t : Nat} {c c1 : CT} {m m2 : MT} {o o1 : Nat → Int64} {res : Option Value ⊕ String} {h2 : PH} {e w : Int32} {k kk : Nat} (hX : X.1 ≤ 2048) (ht : 4 * t + 4 ≤ X.1) (hL : Call 31 mL_take [.ref 0, .ref 36] (HP X c m o) (.inl (some (.int e))) (HP X c1 m o1) k) (hR : Call 30 mX7_take [.ref 23] (HP X c1 m o1) (.inl (some (.int w))) (HP X c1 m2 o1) 0) (hth : thZ m2 = e) (hv : e = 0 → o1 0 = w.toInt64) (r : Runs 60 mL_law 2133 (lawL (N (4 * t))) [] (HP X c1 m2 o1) res h2 kk) : Runs 60 mL_law 1055 (lawL (N (4 * t))) [] (HP X c m o) res h2 (k + kk) := by
  refine Runs.go 2 (cs := []) (pc' := 1057) (pl' := [some (.ref 1000), some (.ref 0), some (.ref 23), some (.ref 36), some (.int (N (4 * t))), none, none, none, none]) (st' := [.ref 36, .ref 0]) (h' := (HP X c m o)) rfl trivial ?_
  refine Runs.call (y := mL_take) (as := [.ref 0, .ref 36]) (rest := []) (pc' := 1060) (cs := []) (v := some (.int e)) (h1 := (HP X c1 m o1)) rfl trivial (by decide) hL ?_
  show Runs _ _ 1060 _ [.int e] _ _ _ _
  refine Runs.go 1 (cs := []) (pc' := 1062) (pl' := [some (.ref 1000), some (.ref 0), some (.ref 23), some (.ref 36), some (.int (N (4 * t))), some (.int e), none, none, none]) (st' := []) (h' := (HP X c1 m o1)) rfl trivial ?_
  refine Runs.go 1 (cs := []) (pc' := 1063) (pl' := [some (.ref 1000), some (.ref 0), some (.ref 23), some (.ref 36), some (.int (N (4 * t))), some (.int e), none, none, none]) (st' := [.ref 23]) (h' := (HP X c1 m o1)) rfl trivial ?_
  refine Runs.cal (y := mX7_take) (as := [.ref 23]) (rest := []) (pc' := 1066) (cs := []) (v := some (.int w)) (h1 := (HP X c1 m2 o1)) rfl trivial (by decide) hR ?_
  show Runs _ _ 1066 _ [.int w] _ _ _ _
  refine Runs.go 2 (cs := []) (pc' := 1069) (pl' := [some (.ref 1000), some (.ref 0), some (.ref 23), some (.ref 36), some (.int (N (4 * t))), some (.int e), some (.int w), none, none]) (st' := [.ref 23]) (h' := (HP X c1 m2 o1)) rfl trivial ?_
  refine Runs.cal (y := mX7_thrown) (as := [.ref 23]) (rest := []) (pc' := 1072) (cs := []) (v := some (.int (thZ m2))) (h1 := (HP X c1 m2 o1)) rfl trivial (by decide) k_thr ?_
  show Runs _ _ 1072 _ [.int (thZ m2)] _ _ _ _
  refine Runs.go 2 (cs := []) (pc' := bif decide (thZ m2 = e) then 1079 else 1077) (pl' := [some (.ref 1000), some (.ref 0), some (.ref 23), some (.ref 36), some (.int (N (4 * t))), some (.int e), some (.int w), none, none]) (st' := []) (h' := (HP X c1 m2 o1)) rfl trivial ?_
  refine Runs.brT (decide_eq_true hth) ?_
  refine Runs.go 2 (cs := []) (pc' := bif decide (¬ e = 0) then 1096 else 1084) (pl' := [some (.ref 1000), some (.ref 0), some (.ref 23), some (.ref 36), some (.int (N (4 * t))), some (.int e), some (.int w), none, none]) (st' := []) (h' := (HP X c1 m2 o1)) rfl trivial ?_
  refine Runs.br (fun _ => ?_) (fun z => ?_)
  · refine Runs.go 1 (cs := []) (pc' := 2133) (pl' := [some (.ref 1000), some (.ref 0), some (.ref 23), some (.ref 36), some (.int (N (4 * t))), some (.int e), some (.int w), none, none]) (st' := []) (h' := (HP X c1 m2 o1)) rfl trivial ?_
    exact law_wk r
  · replace z : e = 0 := Classical.not_not.mp (of_decide_eq_false z)
    refine Runs.go 7 (cs := [vp_in (N 0) 1]) (pc' := bif decide (lg_cmp (o1 (N 0).toNatClampNeg) (w.toInt64) = 0) then 1096 else 1094) (pl' := [some (.ref 1000), some (.ref 0), some (.ref 23), some (.ref 36), some (.int (N (4 * t))), some (.int e), some (.int w), none, none]) (st' := []) (h' := (HP X c1 m2 o1)) rfl ⟨(N_in (by decide) (by decide)), trivial⟩ ?_
    refine Runs.brT (decide_eq_true (by rw [show o1 (N 0).toNatClampNeg = w.toInt64 from hv z]; exact lg_same _)) ?_
    refine Runs.go 1 (cs := []) (pc' := 2133) (pl' := [some (.ref 1000), some (.ref 0), some (.ref 23), some (.ref 36), some (.int (N (4 * t))), some (.int e), some (.int w), none, none]) (st' := []) (h' := (HP X c1 m2 o1)) rfl trivial ?_
    exact law_wk r
theorem w_keep {X : Nat × (Nat → Int32)} {t : Nat} {c c1 : CT} {m m2 : MT} {o : Nat → Int64} {res : Option Value ⊕ String} {h2 : PH} {v : Int32} {kk : Nat} (hL : Call 30 mX6_keep [.ref 0] (HP X c m o) (.inl (some (.int v))) (HP X c1 m o) 0) (hR : Call 30 mX7_keep [.ref 23] (HP X c1 m o) (.inl (some (.int v))) (HP X c1 m2 o) 0) (r : Runs 60 mL_law 2133 (lawL (N (4 * t))) [] (HP X c1 m2 o) res h2 kk) : Runs 60 mL_law 1099 (lawL (N (4 * t))) [] (HP X c m o) res h2 kk := by
  refine Runs.go 1 (cs := []) (pc' := 1100) (pl' := [some (.ref 1000), some (.ref 0), some (.ref 23), some (.ref 36), some (.int (N (4 * t))), none, none, none, none]) (st' := [.ref 0]) (h' := (HP X c m o)) rfl trivial ?_
  refine Runs.cal (y := mX6_keep) (as := [.ref 0]) (rest := []) (pc' := 1103) (cs := []) (v := some (.int v)) (h1 := (HP X c1 m o)) rfl trivial (by decide) hL ?_
  show Runs _ _ 1103 _ [.int v] _ _ _ _
  refine Runs.go 1 (cs := []) (pc' := 1104) (pl' := [some (.ref 1000), some (.ref 0), some (.ref 23), some (.ref 36), some (.int (N (4 * t))), none, none, none, none]) (st' := [.ref 23, .int v]) (h' := (HP X c1 m o)) rfl trivial ?_
  refine Runs.cal (y := mX7_keep) (as := [.ref 23]) (rest := [.int v]) (pc' := 1107) (cs := []) (v := some (.int v)) (h1 := (HP X c1 m2 o)) rfl trivial (by decide) hR ?_
  show Runs _ _ 1107 _ [.int v, .int v] _ _ _ _
  refine Runs.go 1 (cs := []) (pc' := bif decide (v = v) then 2133 else 1110) (pl' := [some (.ref 1000), some (.ref 0), some (.ref 23), some (.ref 36), some (.int (N (4 * t))), none, none, none, none]) (st' := []) (h' := (HP X c1 m2 o)) rfl trivial ?_
  exact Runs.brT (decide_eq_true rfl) (law_wk r)
theorem w_goBack {X : Nat × (Nat → Int32)} {t : Nat} {c c1 : CT} {m m2 : MT} {o o1 : Nat → Int64} {res : Option Value ⊕ String} {h2 : PH} {e w : Int32} {k kk : Nat} (hX : X.1 ≤ 2048) (ht : 4 * t + 4 ≤ X.1) (hL : Call 31 mL_goBack [.ref 0, .ref 36] (HP X c m o) (.inl (some (.int e))) (HP X c1 m o1) k) (hR : Call 30 mX7_goBack [.ref 23] (HP X c1 m o1) (.inl (some (.int w))) (HP X c1 m2 o1) 0) (hth : thZ m2 = e) (hv : e = 0 → o1 0 = w.toInt64) (r : Runs 60 mL_law 2133 (lawL (N (4 * t))) [] (HP X c1 m2 o1) res h2 kk) : Runs 60 mL_law 1112 (lawL (N (4 * t))) [] (HP X c m o) res h2 (k + kk) := by
  refine Runs.go 2 (cs := []) (pc' := 1114) (pl' := [some (.ref 1000), some (.ref 0), some (.ref 23), some (.ref 36), some (.int (N (4 * t))), none, none, none, none]) (st' := [.ref 36, .ref 0]) (h' := (HP X c m o)) rfl trivial ?_
  refine Runs.call (y := mL_goBack) (as := [.ref 0, .ref 36]) (rest := []) (pc' := 1117) (cs := []) (v := some (.int e)) (h1 := (HP X c1 m o1)) rfl trivial (by decide) hL ?_
  show Runs _ _ 1117 _ [.int e] _ _ _ _
  refine Runs.go 1 (cs := []) (pc' := 1119) (pl' := [some (.ref 1000), some (.ref 0), some (.ref 23), some (.ref 36), some (.int (N (4 * t))), some (.int e), none, none, none]) (st' := []) (h' := (HP X c1 m o1)) rfl trivial ?_
  refine Runs.go 1 (cs := []) (pc' := 1120) (pl' := [some (.ref 1000), some (.ref 0), some (.ref 23), some (.ref 36), some (.int (N (4 * t))), some (.int e), none, none, none]) (st' := [.ref 23]) (h' := (HP X c1 m o1)) rfl trivial ?_
  refine Runs.cal (y := mX7_goBack) (as := [.ref 23]) (rest := []) (pc' := 1123) (cs := []) (v := some (.int w)) (h1 := (HP X c1 m2 o1)) rfl trivial (by decide) hR ?_
  show Runs _ _ 1123 _ [.int w] _ _ _ _
  refine Runs.go 2 (cs := []) (pc' := 1126) (pl' := [some (.ref 1000), some (.ref 0), some (.ref 23), some (.ref 36), some (.int (N (4 * t))), some (.int e), some (.int w), none, none]) (st' := [.ref 23]) (h' := (HP X c1 m2 o1)) rfl trivial ?_
  refine Runs.cal (y := mX7_thrown) (as := [.ref 23]) (rest := []) (pc' := 1129) (cs := []) (v := some (.int (thZ m2))) (h1 := (HP X c1 m2 o1)) rfl trivial (by decide) k_thr ?_
  show Runs _ _ 1129 _ [.int (thZ m2)] _ _ _ _
  refine Runs.go 2 (cs := []) (pc' := bif decide (thZ m2 = e) then 1136 else 1134) (pl' := [some (.ref 1000), some (.ref 0), some (.ref 23), some (.ref 36), some (.int (N (4 * t))), some (.int e), some (.int w), none, none]) (st' := []) (h' := (HP X c1 m2 o1)) rfl trivial ?_
  refine Runs.brT (decide_eq_true hth) ?_
  refine Runs.go 2 (cs := []) (pc' := bif decide (¬ e = 0) then 1153 else 1141) (pl' := [some (.ref 1000), some (.ref 0), some (.ref 23), some (.ref 36), some (.int (N (4 * t))), some (.int e), some (.int w), none, none]) (st' := []) (h' := (HP X c1 m2 o1)) rfl trivial ?_
  refine Runs.br (fun _ => ?_) (fun z => ?_)
  · refine Runs.go 1 (cs := []) (pc' := 2133) (pl' := [some (.ref 1000), some (.ref 0), some (.ref 23), some (.ref 36), some (.int (N (4 * t))), some (.int e), some (.int w), none, none]) (st' := []) (h' := (HP X c1 m2 o1)) rfl trivial ?_
    exact law_wk r
  · replace z : e = 0 := Classical.not_not.mp (of_decide_eq_false z)
    refine Runs.go 7 (cs := [vp_in (N 0) 1]) (pc' := bif decide (lg_cmp (o1 (N 0).toNatClampNeg) (w.toInt64) = 0) then 1153 else 1151) (pl' := [some (.ref 1000), some (.ref 0), some (.ref 23), some (.ref 36), some (.int (N (4 * t))), some (.int e), some (.int w), none, none]) (st' := []) (h' := (HP X c1 m2 o1)) rfl ⟨(N_in (by decide) (by decide)), trivial⟩ ?_
    refine Runs.brT (decide_eq_true (by rw [show o1 (N 0).toNatClampNeg = w.toInt64 from hv z]; exact lg_same _)) ?_
    refine Runs.go 1 (cs := []) (pc' := 2133) (pl' := [some (.ref 1000), some (.ref 0), some (.ref 23), some (.ref 36), some (.int (N (4 * t))), some (.int e), some (.int w), none, none]) (st' := []) (h' := (HP X c1 m2 o1)) rfl trivial ?_
    exact law_wk r
theorem w_undo {X : Nat × (Nat → Int32)} {t : Nat} {c c1 : CT} {m m2 : MT} {o o1 : Nat → Int64} {res : Option Value ⊕ String} {h2 : PH} {e w : Int32} {k kk : Nat} (hX : X.1 ≤ 2048) (ht : 4 * t + 4 ≤ X.1) (hL : Call 31 mL_undo [.ref 0, .ref 36] (HP X c m o) (.inl (some (.int e))) (HP X c1 m o1) k) (hR : Call 30 mX7_undo [.ref 23] (HP X c1 m o1) (.inl (some (.int w))) (HP X c1 m2 o1) 0) (hth : thZ m2 = e) (hv : e = 0 → o1 0 = w.toInt64) (r : Runs 60 mL_law 2133 (lawL (N (4 * t))) [] (HP X c1 m2 o1) res h2 kk) : Runs 60 mL_law 1156 (lawL (N (4 * t))) [] (HP X c m o) res h2 (k + kk) := by
  refine Runs.go 2 (cs := []) (pc' := 1158) (pl' := [some (.ref 1000), some (.ref 0), some (.ref 23), some (.ref 36), some (.int (N (4 * t))), none, none, none, none]) (st' := [.ref 36, .ref 0]) (h' := (HP X c m o)) rfl trivial ?_
  refine Runs.call (y := mL_undo) (as := [.ref 0, .ref 36]) (rest := []) (pc' := 1161) (cs := []) (v := some (.int e)) (h1 := (HP X c1 m o1)) rfl trivial (by decide) hL ?_
  show Runs _ _ 1161 _ [.int e] _ _ _ _
  refine Runs.go 1 (cs := []) (pc' := 1163) (pl' := [some (.ref 1000), some (.ref 0), some (.ref 23), some (.ref 36), some (.int (N (4 * t))), some (.int e), none, none, none]) (st' := []) (h' := (HP X c1 m o1)) rfl trivial ?_
  refine Runs.go 1 (cs := []) (pc' := 1164) (pl' := [some (.ref 1000), some (.ref 0), some (.ref 23), some (.ref 36), some (.int (N (4 * t))), some (.int e), none, none, none]) (st' := [.ref 23]) (h' := (HP X c1 m o1)) rfl trivial ?_
  refine Runs.cal (y := mX7_undo) (as := [.ref 23]) (rest := []) (pc' := 1167) (cs := []) (v := some (.int w)) (h1 := (HP X c1 m2 o1)) rfl trivial (by decide) hR ?_
  show Runs _ _ 1167 _ [.int w] _ _ _ _
  refine Runs.go 2 (cs := []) (pc' := 1170) (pl' := [some (.ref 1000), some (.ref 0), some (.ref 23), some (.ref 36), some (.int (N (4 * t))), some (.int e), some (.int w), none, none]) (st' := [.ref 23]) (h' := (HP X c1 m2 o1)) rfl trivial ?_
  refine Runs.cal (y := mX7_thrown) (as := [.ref 23]) (rest := []) (pc' := 1173) (cs := []) (v := some (.int (thZ m2))) (h1 := (HP X c1 m2 o1)) rfl trivial (by decide) k_thr ?_
  show Runs _ _ 1173 _ [.int (thZ m2)] _ _ _ _
  refine Runs.go 2 (cs := []) (pc' := bif decide (thZ m2 = e) then 1180 else 1178) (pl' := [some (.ref 1000), some (.ref 0), some (.ref 23), some (.ref 36), some (.int (N (4 * t))), some (.int e), some (.int w), none, none]) (st' := []) (h' := (HP X c1 m2 o1)) rfl trivial ?_
  refine Runs.brT (decide_eq_true hth) ?_
  refine Runs.go 2 (cs := []) (pc' := bif decide (¬ e = 0) then 1197 else 1185) (pl' := [some (.ref 1000), some (.ref 0), some (.ref 23), some (.ref 36), some (.int (N (4 * t))), some (.int e), some (.int w), none, none]) (st' := []) (h' := (HP X c1 m2 o1)) rfl trivial ?_
  refine Runs.br (fun _ => ?_) (fun z => ?_)
  · refine Runs.go 1 (cs := []) (pc' := 2133) (pl' := [some (.ref 1000), some (.ref 0), some (.ref 23), some (.ref 36), some (.int (N (4 * t))), some (.int e), some (.int w), none, none]) (st' := []) (h' := (HP X c1 m2 o1)) rfl trivial ?_
    exact law_wk r
  · replace z : e = 0 := Classical.not_not.mp (of_decide_eq_false z)
    refine Runs.go 7 (cs := [vp_in (N 0) 1]) (pc' := bif decide (lg_cmp (o1 (N 0).toNatClampNeg) (w.toInt64) = 0) then 1197 else 1195) (pl' := [some (.ref 1000), some (.ref 0), some (.ref 23), some (.ref 36), some (.int (N (4 * t))), some (.int e), some (.int w), none, none]) (st' := []) (h' := (HP X c1 m2 o1)) rfl ⟨(N_in (by decide) (by decide)), trivial⟩ ?_
    refine Runs.brT (decide_eq_true (by rw [show o1 (N 0).toNatClampNeg = w.toInt64 from hv z]; exact lg_same _)) ?_
    refine Runs.go 1 (cs := []) (pc' := 2133) (pl' := [some (.ref 1000), some (.ref 0), some (.ref 23), some (.ref 36), some (.int (N (4 * t))), some (.int e), some (.int w), none, none]) (st' := []) (h' := (HP X c1 m2 o1)) rfl trivial ?_
    exact law_wk r
theorem w_clues {X : Nat × (Nat → Int32)} {t : Nat} {c c1 : CT} {m m2 : MT} {o : Nat → Int64} {res : Option Value ⊕ String} {h2 : PH} {v : Int32} {kk : Nat} (hL : Call 30 mX6_clues [.ref 0] (HP X c m o) (.inl (some (.int v))) (HP X c1 m o) 0) (hR : Call 30 mX7_clues [.ref 23] (HP X c1 m o) (.inl (some (.int v))) (HP X c1 m2 o) 0) (r : Runs 60 mL_law 2133 (lawL (N (4 * t))) [] (HP X c1 m2 o) res h2 kk) : Runs 60 mL_law 1200 (lawL (N (4 * t))) [] (HP X c m o) res h2 kk := by
  refine Runs.go 1 (cs := []) (pc' := 1201) (pl' := [some (.ref 1000), some (.ref 0), some (.ref 23), some (.ref 36), some (.int (N (4 * t))), none, none, none, none]) (st' := [.ref 0]) (h' := (HP X c m o)) rfl trivial ?_
  refine Runs.cal (y := mX6_clues) (as := [.ref 0]) (rest := []) (pc' := 1204) (cs := []) (v := some (.int v)) (h1 := (HP X c1 m o)) rfl trivial (by decide) hL ?_
  show Runs _ _ 1204 _ [.int v] _ _ _ _
  refine Runs.go 1 (cs := []) (pc' := 1205) (pl' := [some (.ref 1000), some (.ref 0), some (.ref 23), some (.ref 36), some (.int (N (4 * t))), none, none, none, none]) (st' := [.ref 23, .int v]) (h' := (HP X c1 m o)) rfl trivial ?_
  refine Runs.cal (y := mX7_clues) (as := [.ref 23]) (rest := [.int v]) (pc' := 1208) (cs := []) (v := some (.int v)) (h1 := (HP X c1 m2 o)) rfl trivial (by decide) hR ?_
  show Runs _ _ 1208 _ [.int v, .int v] _ _ _ _
  refine Runs.go 1 (cs := []) (pc' := bif decide (v = v) then 2133 else 1211) (pl' := [some (.ref 1000), some (.ref 0), some (.ref 23), some (.ref 36), some (.int (N (4 * t))), none, none, none, none]) (st' := []) (h' := (HP X c1 m2 o)) rfl trivial ?_
  exact Runs.brT (decide_eq_true rfl) (law_wk r)
theorem w_sortOf {X : Nat × (Nat → Int32)} {t : Nat} {c c1 : CT} {m m2 : MT} {o o1 : Nat → Int64} {res : Option Value ⊕ String} {h2 : PH} {e w : Int32} {k kk : Nat} (hX : X.1 ≤ 2048) (ht : 4 * t + 4 ≤ X.1) (hL : Call 31 mL_sortOf [.ref 0, .int (X.2 (4 * t + 1)), .ref 36] (HP X c m o) (.inl (some (.int e))) (HP X c1 m o1) k) (hR : Call 30 mX7_sortOf [.ref 23, .int (X.2 (4 * t + 1))] (HP X c1 m o1) (.inl (some (.int w))) (HP X c1 m2 o1) 0) (hth : thZ m2 = e) (hv : e = 0 → o1 0 = w.toInt64) (r : Runs 60 mL_law 2133 (lawL (N (4 * t))) [] (HP X c1 m2 o1) res h2 kk) : Runs 60 mL_law 1213 (lawL (N (4 * t))) [] (HP X c m o) res h2 (k + kk) := by
  refine Runs.topI 6 (cs := [vp_in (N (4 * t) + N 1) X.1]) (pc' := 1220) (pl' := [some (.ref 1000), some (.ref 0), some (.ref 23), some (.ref 36), some (.int (N (4 * t))), none, none, none, none]) (v := X.2 (N (4 * t) + N 1).toNatClampNeg) (v' := X.2 (4 * t + 1)) (st' := [.ref 0]) (h' := (HP X c m o)) rfl ⟨xs_in (by omega) hX, trivial⟩ (xs_at (by omega)) ?_
  refine Runs.go 1 (cs := []) (pc' := 1221) (pl' := [some (.ref 1000), some (.ref 0), some (.ref 23), some (.ref 36), some (.int (N (4 * t))), none, none, none, none]) (st' := [.ref 36, .int (X.2 (4 * t + 1)), .ref 0]) (h' := (HP X c m o)) rfl trivial ?_
  refine Runs.call (y := mL_sortOf) (as := [.ref 0, .int (X.2 (4 * t + 1)), .ref 36]) (rest := []) (pc' := 1224) (cs := []) (v := some (.int e)) (h1 := (HP X c1 m o1)) rfl trivial (by decide) hL ?_
  show Runs _ _ 1224 _ [.int e] _ _ _ _
  refine Runs.go 1 (cs := []) (pc' := 1226) (pl' := [some (.ref 1000), some (.ref 0), some (.ref 23), some (.ref 36), some (.int (N (4 * t))), some (.int e), none, none, none]) (st' := []) (h' := (HP X c1 m o1)) rfl trivial ?_
  refine Runs.topI 6 (cs := [vp_in (N (4 * t) + N 1) X.1]) (pc' := 1233) (pl' := [some (.ref 1000), some (.ref 0), some (.ref 23), some (.ref 36), some (.int (N (4 * t))), some (.int e), none, none, none]) (v := X.2 (N (4 * t) + N 1).toNatClampNeg) (v' := X.2 (4 * t + 1)) (st' := [.ref 23]) (h' := (HP X c1 m o1)) rfl ⟨xs_in (by omega) hX, trivial⟩ (xs_at (by omega)) ?_
  refine Runs.cal (y := mX7_sortOf) (as := [.ref 23, .int (X.2 (4 * t + 1))]) (rest := []) (pc' := 1236) (cs := []) (v := some (.int w)) (h1 := (HP X c1 m2 o1)) rfl trivial (by decide) hR ?_
  show Runs _ _ 1236 _ [.int w] _ _ _ _
  refine Runs.go 2 (cs := []) (pc' := 1239) (pl' := [some (.ref 1000), some (.ref 0), some (.ref 23), some (.ref 36), some (.int (N (4 * t))), some (.int e), some (.int w), none, none]) (st' := [.ref 23]) (h' := (HP X c1 m2 o1)) rfl trivial ?_
  refine Runs.cal (y := mX7_thrown) (as := [.ref 23]) (rest := []) (pc' := 1242) (cs := []) (v := some (.int (thZ m2))) (h1 := (HP X c1 m2 o1)) rfl trivial (by decide) k_thr ?_
  show Runs _ _ 1242 _ [.int (thZ m2)] _ _ _ _
  refine Runs.go 2 (cs := []) (pc' := bif decide (thZ m2 = e) then 1249 else 1247) (pl' := [some (.ref 1000), some (.ref 0), some (.ref 23), some (.ref 36), some (.int (N (4 * t))), some (.int e), some (.int w), none, none]) (st' := []) (h' := (HP X c1 m2 o1)) rfl trivial ?_
  refine Runs.brT (decide_eq_true hth) ?_
  refine Runs.go 2 (cs := []) (pc' := bif decide (¬ e = 0) then 1266 else 1254) (pl' := [some (.ref 1000), some (.ref 0), some (.ref 23), some (.ref 36), some (.int (N (4 * t))), some (.int e), some (.int w), none, none]) (st' := []) (h' := (HP X c1 m2 o1)) rfl trivial ?_
  refine Runs.br (fun _ => ?_) (fun z => ?_)
  · refine Runs.go 1 (cs := []) (pc' := 2133) (pl' := [some (.ref 1000), some (.ref 0), some (.ref 23), some (.ref 36), some (.int (N (4 * t))), some (.int e), some (.int w), none, none]) (st' := []) (h' := (HP X c1 m2 o1)) rfl trivial ?_
    exact law_wk r
  · replace z : e = 0 := Classical.not_not.mp (of_decide_eq_false z)
    refine Runs.go 7 (cs := [vp_in (N 0) 1]) (pc' := bif decide (lg_cmp (o1 (N 0).toNatClampNeg) (w.toInt64) = 0) then 1266 else 1264) (pl' := [some (.ref 1000), some (.ref 0), some (.ref 23), some (.ref 36), some (.int (N (4 * t))), some (.int e), some (.int w), none, none]) (st' := []) (h' := (HP X c1 m2 o1)) rfl ⟨(N_in (by decide) (by decide)), trivial⟩ ?_
    refine Runs.brT (decide_eq_true (by rw [show o1 (N 0).toNatClampNeg = w.toInt64 from hv z]; exact lg_same _)) ?_
    refine Runs.go 1 (cs := []) (pc' := 2133) (pl' := [some (.ref 1000), some (.ref 0), some (.ref 23), some (.ref 36), some (.int (N (4 * t))), some (.int e), some (.int w), none, none]) (st' := []) (h' := (HP X c1 m2 o1)) rfl trivial ?_
    exact law_wk r
theorem w_itemOf {X : Nat × (Nat → Int32)} {t : Nat} {c c1 : CT} {m m2 : MT} {o o1 : Nat → Int64} {res : Option Value ⊕ String} {h2 : PH} {e w : Int32} {k kk : Nat} (hX : X.1 ≤ 2048) (ht : 4 * t + 4 ≤ X.1) (hL : Call 31 mL_itemOf [.ref 0, .int (X.2 (4 * t + 1)), .int (X.2 (4 * t + 2)), .ref 36] (HP X c m o) (.inl (some (.int e))) (HP X c1 m o1) k) (hR : Call 30 mX7_itemOf [.ref 23, .int (X.2 (4 * t + 1)), .int (X.2 (4 * t + 2))] (HP X c1 m o1) (.inl (some (.int w))) (HP X c1 m2 o1) 0) (hth : thZ m2 = e) (hv : e = 0 → o1 0 = w.toInt64) (r : Runs 60 mL_law 2133 (lawL (N (4 * t))) [] (HP X c1 m2 o1) res h2 kk) : Runs 60 mL_law 1269 (lawL (N (4 * t))) [] (HP X c m o) res h2 (k + kk) := by
  refine Runs.topI 6 (cs := [vp_in (N (4 * t) + N 1) X.1]) (pc' := 1276) (pl' := [some (.ref 1000), some (.ref 0), some (.ref 23), some (.ref 36), some (.int (N (4 * t))), none, none, none, none]) (v := X.2 (N (4 * t) + N 1).toNatClampNeg) (v' := X.2 (4 * t + 1)) (st' := [.ref 0]) (h' := (HP X c m o)) rfl ⟨xs_in (by omega) hX, trivial⟩ (xs_at (by omega)) ?_
  refine Runs.topI 5 (cs := [vp_in (N (4 * t) + N 2) X.1]) (pc' := 1282) (pl' := [some (.ref 1000), some (.ref 0), some (.ref 23), some (.ref 36), some (.int (N (4 * t))), none, none, none, none]) (v := X.2 (N (4 * t) + N 2).toNatClampNeg) (v' := X.2 (4 * t + 2)) (st' := [.int (X.2 (4 * t + 1)), .ref 0]) (h' := (HP X c m o)) rfl ⟨xs_in (by omega) hX, trivial⟩ (xs_at (by omega)) ?_
  refine Runs.go 1 (cs := []) (pc' := 1283) (pl' := [some (.ref 1000), some (.ref 0), some (.ref 23), some (.ref 36), some (.int (N (4 * t))), none, none, none, none]) (st' := [.ref 36, .int (X.2 (4 * t + 2)), .int (X.2 (4 * t + 1)), .ref 0]) (h' := (HP X c m o)) rfl trivial ?_
  refine Runs.call (y := mL_itemOf) (as := [.ref 0, .int (X.2 (4 * t + 1)), .int (X.2 (4 * t + 2)), .ref 36]) (rest := []) (pc' := 1286) (cs := []) (v := some (.int e)) (h1 := (HP X c1 m o1)) rfl trivial (by decide) hL ?_
  show Runs _ _ 1286 _ [.int e] _ _ _ _
  refine Runs.go 1 (cs := []) (pc' := 1288) (pl' := [some (.ref 1000), some (.ref 0), some (.ref 23), some (.ref 36), some (.int (N (4 * t))), some (.int e), none, none, none]) (st' := []) (h' := (HP X c1 m o1)) rfl trivial ?_
  refine Runs.topI 6 (cs := [vp_in (N (4 * t) + N 1) X.1]) (pc' := 1295) (pl' := [some (.ref 1000), some (.ref 0), some (.ref 23), some (.ref 36), some (.int (N (4 * t))), some (.int e), none, none, none]) (v := X.2 (N (4 * t) + N 1).toNatClampNeg) (v' := X.2 (4 * t + 1)) (st' := [.ref 23]) (h' := (HP X c1 m o1)) rfl ⟨xs_in (by omega) hX, trivial⟩ (xs_at (by omega)) ?_
  refine Runs.topI 5 (cs := [vp_in (N (4 * t) + N 2) X.1]) (pc' := 1301) (pl' := [some (.ref 1000), some (.ref 0), some (.ref 23), some (.ref 36), some (.int (N (4 * t))), some (.int e), none, none, none]) (v := X.2 (N (4 * t) + N 2).toNatClampNeg) (v' := X.2 (4 * t + 2)) (st' := [.int (X.2 (4 * t + 1)), .ref 23]) (h' := (HP X c1 m o1)) rfl ⟨xs_in (by omega) hX, trivial⟩ (xs_at (by omega)) ?_
  refine Runs.cal (y := mX7_itemOf) (as := [.ref 23, .int (X.2 (4 * t + 1)), .int (X.2 (4 * t + 2))]) (rest := []) (pc' := 1304) (cs := []) (v := some (.int w)) (h1 := (HP X c1 m2 o1)) rfl trivial (by decide) hR ?_
  show Runs _ _ 1304 _ [.int w] _ _ _ _
  refine Runs.go 2 (cs := []) (pc' := 1307) (pl' := [some (.ref 1000), some (.ref 0), some (.ref 23), some (.ref 36), some (.int (N (4 * t))), some (.int e), some (.int w), none, none]) (st' := [.ref 23]) (h' := (HP X c1 m2 o1)) rfl trivial ?_
  refine Runs.cal (y := mX7_thrown) (as := [.ref 23]) (rest := []) (pc' := 1310) (cs := []) (v := some (.int (thZ m2))) (h1 := (HP X c1 m2 o1)) rfl trivial (by decide) k_thr ?_
  show Runs _ _ 1310 _ [.int (thZ m2)] _ _ _ _
  refine Runs.go 2 (cs := []) (pc' := bif decide (thZ m2 = e) then 1317 else 1315) (pl' := [some (.ref 1000), some (.ref 0), some (.ref 23), some (.ref 36), some (.int (N (4 * t))), some (.int e), some (.int w), none, none]) (st' := []) (h' := (HP X c1 m2 o1)) rfl trivial ?_
  refine Runs.brT (decide_eq_true hth) ?_
  refine Runs.go 2 (cs := []) (pc' := bif decide (¬ e = 0) then 1334 else 1322) (pl' := [some (.ref 1000), some (.ref 0), some (.ref 23), some (.ref 36), some (.int (N (4 * t))), some (.int e), some (.int w), none, none]) (st' := []) (h' := (HP X c1 m2 o1)) rfl trivial ?_
  refine Runs.br (fun _ => ?_) (fun z => ?_)
  · refine Runs.go 1 (cs := []) (pc' := 2133) (pl' := [some (.ref 1000), some (.ref 0), some (.ref 23), some (.ref 36), some (.int (N (4 * t))), some (.int e), some (.int w), none, none]) (st' := []) (h' := (HP X c1 m2 o1)) rfl trivial ?_
    exact law_wk r
  · replace z : e = 0 := Classical.not_not.mp (of_decide_eq_false z)
    refine Runs.go 7 (cs := [vp_in (N 0) 1]) (pc' := bif decide (lg_cmp (o1 (N 0).toNatClampNeg) (w.toInt64) = 0) then 1334 else 1332) (pl' := [some (.ref 1000), some (.ref 0), some (.ref 23), some (.ref 36), some (.int (N (4 * t))), some (.int e), some (.int w), none, none]) (st' := []) (h' := (HP X c1 m2 o1)) rfl ⟨(N_in (by decide) (by decide)), trivial⟩ ?_
    refine Runs.brT (decide_eq_true (by rw [show o1 (N 0).toNatClampNeg = w.toInt64 from hv z]; exact lg_same _)) ?_
    refine Runs.go 1 (cs := []) (pc' := 2133) (pl' := [some (.ref 1000), some (.ref 0), some (.ref 23), some (.ref 36), some (.int (N (4 * t))), some (.int e), some (.int w), none, none]) (st' := []) (h' := (HP X c1 m2 o1)) rfl trivial ?_
    exact law_wk r
theorem w_placeOf {X : Nat × (Nat → Int32)} {t : Nat} {c c1 : CT} {m m2 : MT} {o o1 : Nat → Int64} {res : Option Value ⊕ String} {h2 : PH} {e w : Int32} {k kk : Nat} (hX : X.1 ≤ 2048) (ht : 4 * t + 4 ≤ X.1) (hL : Call 31 mL_placeOf [.ref 0, .int (X.2 (4 * t + 1)), .ref 36] (HP X c m o) (.inl (some (.int e))) (HP X c1 m o1) k) (hR : Call 30 mX7_placeOf [.ref 23, .int (X.2 (4 * t + 1))] (HP X c1 m o1) (.inl (some (.int w))) (HP X c1 m2 o1) 0) (hth : thZ m2 = e) (hv : e = 0 → o1 0 = w.toInt64) (r : Runs 60 mL_law 2133 (lawL (N (4 * t))) [] (HP X c1 m2 o1) res h2 kk) : Runs 60 mL_law 1337 (lawL (N (4 * t))) [] (HP X c m o) res h2 (k + kk) := by
  refine Runs.topI 6 (cs := [vp_in (N (4 * t) + N 1) X.1]) (pc' := 1344) (pl' := [some (.ref 1000), some (.ref 0), some (.ref 23), some (.ref 36), some (.int (N (4 * t))), none, none, none, none]) (v := X.2 (N (4 * t) + N 1).toNatClampNeg) (v' := X.2 (4 * t + 1)) (st' := [.ref 0]) (h' := (HP X c m o)) rfl ⟨xs_in (by omega) hX, trivial⟩ (xs_at (by omega)) ?_
  refine Runs.go 1 (cs := []) (pc' := 1345) (pl' := [some (.ref 1000), some (.ref 0), some (.ref 23), some (.ref 36), some (.int (N (4 * t))), none, none, none, none]) (st' := [.ref 36, .int (X.2 (4 * t + 1)), .ref 0]) (h' := (HP X c m o)) rfl trivial ?_
  refine Runs.call (y := mL_placeOf) (as := [.ref 0, .int (X.2 (4 * t + 1)), .ref 36]) (rest := []) (pc' := 1348) (cs := []) (v := some (.int e)) (h1 := (HP X c1 m o1)) rfl trivial (by decide) hL ?_
  show Runs _ _ 1348 _ [.int e] _ _ _ _
  refine Runs.go 1 (cs := []) (pc' := 1350) (pl' := [some (.ref 1000), some (.ref 0), some (.ref 23), some (.ref 36), some (.int (N (4 * t))), some (.int e), none, none, none]) (st' := []) (h' := (HP X c1 m o1)) rfl trivial ?_
  refine Runs.topI 6 (cs := [vp_in (N (4 * t) + N 1) X.1]) (pc' := 1357) (pl' := [some (.ref 1000), some (.ref 0), some (.ref 23), some (.ref 36), some (.int (N (4 * t))), some (.int e), none, none, none]) (v := X.2 (N (4 * t) + N 1).toNatClampNeg) (v' := X.2 (4 * t + 1)) (st' := [.ref 23]) (h' := (HP X c1 m o1)) rfl ⟨xs_in (by omega) hX, trivial⟩ (xs_at (by omega)) ?_
  refine Runs.cal (y := mX7_placeOf) (as := [.ref 23, .int (X.2 (4 * t + 1))]) (rest := []) (pc' := 1360) (cs := []) (v := some (.int w)) (h1 := (HP X c1 m2 o1)) rfl trivial (by decide) hR ?_
  show Runs _ _ 1360 _ [.int w] _ _ _ _
  refine Runs.go 2 (cs := []) (pc' := 1363) (pl' := [some (.ref 1000), some (.ref 0), some (.ref 23), some (.ref 36), some (.int (N (4 * t))), some (.int e), some (.int w), none, none]) (st' := [.ref 23]) (h' := (HP X c1 m2 o1)) rfl trivial ?_
  refine Runs.cal (y := mX7_thrown) (as := [.ref 23]) (rest := []) (pc' := 1366) (cs := []) (v := some (.int (thZ m2))) (h1 := (HP X c1 m2 o1)) rfl trivial (by decide) k_thr ?_
  show Runs _ _ 1366 _ [.int (thZ m2)] _ _ _ _
  refine Runs.go 2 (cs := []) (pc' := bif decide (thZ m2 = e) then 1373 else 1371) (pl' := [some (.ref 1000), some (.ref 0), some (.ref 23), some (.ref 36), some (.int (N (4 * t))), some (.int e), some (.int w), none, none]) (st' := []) (h' := (HP X c1 m2 o1)) rfl trivial ?_
  refine Runs.brT (decide_eq_true hth) ?_
  refine Runs.go 2 (cs := []) (pc' := bif decide (¬ e = 0) then 1390 else 1378) (pl' := [some (.ref 1000), some (.ref 0), some (.ref 23), some (.ref 36), some (.int (N (4 * t))), some (.int e), some (.int w), none, none]) (st' := []) (h' := (HP X c1 m2 o1)) rfl trivial ?_
  refine Runs.br (fun _ => ?_) (fun z => ?_)
  · refine Runs.go 1 (cs := []) (pc' := 2133) (pl' := [some (.ref 1000), some (.ref 0), some (.ref 23), some (.ref 36), some (.int (N (4 * t))), some (.int e), some (.int w), none, none]) (st' := []) (h' := (HP X c1 m2 o1)) rfl trivial ?_
    exact law_wk r
  · replace z : e = 0 := Classical.not_not.mp (of_decide_eq_false z)
    refine Runs.go 7 (cs := [vp_in (N 0) 1]) (pc' := bif decide (lg_cmp (o1 (N 0).toNatClampNeg) (w.toInt64) = 0) then 1390 else 1388) (pl' := [some (.ref 1000), some (.ref 0), some (.ref 23), some (.ref 36), some (.int (N (4 * t))), some (.int e), some (.int w), none, none]) (st' := []) (h' := (HP X c1 m2 o1)) rfl ⟨(N_in (by decide) (by decide)), trivial⟩ ?_
    refine Runs.brT (decide_eq_true (by rw [show o1 (N 0).toNatClampNeg = w.toInt64 from hv z]; exact lg_same _)) ?_
    refine Runs.go 1 (cs := []) (pc' := 2133) (pl' := [some (.ref 1000), some (.ref 0), some (.ref 23), some (.ref 36), some (.int (N (4 * t))), some (.int e), some (.int w), none, none]) (st' := []) (h' := (HP X c1 m2 o1)) rfl trivial ?_
    exact law_wk r
theorem w_isCrossed {X : Nat × (Nat → Int32)} {t : Nat} {c c1 : CT} {m m2 : MT} {o o1 : Nat → Int64} {res : Option Value ⊕ String} {h2 : PH} {e : Int32} {b0 : Bool} {k kk : Nat} (hX : X.1 ≤ 2048) (ht : 4 * t + 4 ≤ X.1) (hL : Call 31 mL_isCrossed [.ref 0, .int (X.2 (4 * t + 1)), .int (X.2 (4 * t + 2)), .ref 36] (HP X c m o) (.inl (some (.int e))) (HP X c1 m o1) k) (hR : Call 30 mX7_isCrossed [.ref 23, .int (X.2 (4 * t + 1)), .int (X.2 (4 * t + 2))] (HP X c1 m o1) (.inl (some (.int (bI b0)))) (HP X c1 m2 o1) 0) (hth : thZ m2 = e) (hv : e = 0 → o1 0 = (bI b0).toInt64) (r : Runs 60 mL_law 2133 (lawL (N (4 * t))) [] (HP X c1 m2 o1) res h2 kk) : Runs 60 mL_law 1393 (lawL (N (4 * t))) [] (HP X c m o) res h2 (k + kk) := by
  refine Runs.topI 6 (cs := [vp_in (N (4 * t) + N 1) X.1]) (pc' := 1400) (pl' := [some (.ref 1000), some (.ref 0), some (.ref 23), some (.ref 36), some (.int (N (4 * t))), none, none, none, none]) (v := X.2 (N (4 * t) + N 1).toNatClampNeg) (v' := X.2 (4 * t + 1)) (st' := [.ref 0]) (h' := (HP X c m o)) rfl ⟨xs_in (by omega) hX, trivial⟩ (xs_at (by omega)) ?_
  refine Runs.topI 5 (cs := [vp_in (N (4 * t) + N 2) X.1]) (pc' := 1406) (pl' := [some (.ref 1000), some (.ref 0), some (.ref 23), some (.ref 36), some (.int (N (4 * t))), none, none, none, none]) (v := X.2 (N (4 * t) + N 2).toNatClampNeg) (v' := X.2 (4 * t + 2)) (st' := [.int (X.2 (4 * t + 1)), .ref 0]) (h' := (HP X c m o)) rfl ⟨xs_in (by omega) hX, trivial⟩ (xs_at (by omega)) ?_
  refine Runs.go 1 (cs := []) (pc' := 1407) (pl' := [some (.ref 1000), some (.ref 0), some (.ref 23), some (.ref 36), some (.int (N (4 * t))), none, none, none, none]) (st' := [.ref 36, .int (X.2 (4 * t + 2)), .int (X.2 (4 * t + 1)), .ref 0]) (h' := (HP X c m o)) rfl trivial ?_
  refine Runs.call (y := mL_isCrossed) (as := [.ref 0, .int (X.2 (4 * t + 1)), .int (X.2 (4 * t + 2)), .ref 36]) (rest := []) (pc' := 1410) (cs := []) (v := some (.int e)) (h1 := (HP X c1 m o1)) rfl trivial (by decide) hL ?_
  show Runs _ _ 1410 _ [.int e] _ _ _ _
  refine Runs.go 1 (cs := []) (pc' := 1412) (pl' := [some (.ref 1000), some (.ref 0), some (.ref 23), some (.ref 36), some (.int (N (4 * t))), some (.int e), none, none, none]) (st' := []) (h' := (HP X c1 m o1)) rfl trivial ?_
  refine Runs.topI 6 (cs := [vp_in (N (4 * t) + N 1) X.1]) (pc' := 1419) (pl' := [some (.ref 1000), some (.ref 0), some (.ref 23), some (.ref 36), some (.int (N (4 * t))), some (.int e), none, none, none]) (v := X.2 (N (4 * t) + N 1).toNatClampNeg) (v' := X.2 (4 * t + 1)) (st' := [.ref 23]) (h' := (HP X c1 m o1)) rfl ⟨xs_in (by omega) hX, trivial⟩ (xs_at (by omega)) ?_
  refine Runs.topI 5 (cs := [vp_in (N (4 * t) + N 2) X.1]) (pc' := 1425) (pl' := [some (.ref 1000), some (.ref 0), some (.ref 23), some (.ref 36), some (.int (N (4 * t))), some (.int e), none, none, none]) (v := X.2 (N (4 * t) + N 2).toNatClampNeg) (v' := X.2 (4 * t + 2)) (st' := [.int (X.2 (4 * t + 1)), .ref 23]) (h' := (HP X c1 m o1)) rfl ⟨xs_in (by omega) hX, trivial⟩ (xs_at (by omega)) ?_
  refine Runs.cal (y := mX7_isCrossed) (as := [.ref 23, .int (X.2 (4 * t + 1)), .int (X.2 (4 * t + 2))]) (rest := []) (pc' := 1428) (cs := []) (v := some (.int (bI b0))) (h1 := (HP X c1 m2 o1)) rfl trivial (by decide) hR ?_
  show Runs _ _ 1428 _ [.int (bI b0)] _ _ _ _
  refine Runs.go 2 (cs := []) (pc' := 1431) (pl' := [some (.ref 1000), some (.ref 0), some (.ref 23), some (.ref 36), some (.int (N (4 * t))), some (.int e), some (.int (bI b0)), none, none]) (st' := [.ref 23]) (h' := (HP X c1 m2 o1)) rfl trivial ?_
  refine Runs.cal (y := mX7_thrown) (as := [.ref 23]) (rest := []) (pc' := 1434) (cs := []) (v := some (.int (thZ m2))) (h1 := (HP X c1 m2 o1)) rfl trivial (by decide) k_thr ?_
  show Runs _ _ 1434 _ [.int (thZ m2)] _ _ _ _
  refine Runs.go 2 (cs := []) (pc' := bif decide (thZ m2 = e) then 1441 else 1439) (pl' := [some (.ref 1000), some (.ref 0), some (.ref 23), some (.ref 36), some (.int (N (4 * t))), some (.int e), some (.int (bI b0)), none, none]) (st' := []) (h' := (HP X c1 m2 o1)) rfl trivial ?_
  refine Runs.brT (decide_eq_true hth) ?_
  refine Runs.go 2 (cs := []) (pc' := bif decide (¬ e = 0) then 1465 else 1446) (pl' := [some (.ref 1000), some (.ref 0), some (.ref 23), some (.ref 36), some (.int (N (4 * t))), some (.int e), some (.int (bI b0)), none, none]) (st' := []) (h' := (HP X c1 m2 o1)) rfl trivial ?_
  refine Runs.br (fun _ => ?_) (fun z => ?_)
  · refine Runs.go 1 (cs := []) (pc' := 2133) (pl' := [some (.ref 1000), some (.ref 0), some (.ref 23), some (.ref 36), some (.int (N (4 * t))), some (.int e), some (.int (bI b0)), none, none]) (st' := []) (h' := (HP X c1 m2 o1)) rfl trivial ?_
    exact law_wk r
  · replace z : e = 0 := Classical.not_not.mp (of_decide_eq_false z)
    refine Runs.go 5 (cs := [vp_in (N 0) 1]) (pc' := bif decide (bI b0 = 0) then 1458 else 1454) (pl' := [some (.ref 1000), some (.ref 0), some (.ref 23), some (.ref 36), some (.int (N (4 * t))), some (.int e), some (.int (bI b0)), none, none]) (st' := [.long (o1 (N 0).toNatClampNeg)]) (h' := (HP X c1 m2 o1)) rfl ⟨(N_in (by decide) (by decide)), trivial⟩ ?_
    cases b0 with
    | false =>
      refine Runs.brT rfl ?_
      refine Runs.go 3 (cs := []) (pc' := bif decide (lg_cmp (o1 (N 0).toNatClampNeg) ((bI false : Int32).toInt64) = 0) then 1465 else 1463) (pl' := [some (.ref 1000), some (.ref 0), some (.ref 23), some (.ref 36), some (.int (N (4 * t))), some (.int e), some (.int (bI false)), none, none]) (st' := []) (h' := (HP X c1 m2 o1)) rfl trivial ?_
      refine Runs.brT (decide_eq_true (by rw [show o1 (N 0).toNatClampNeg = (bI false : Int32).toInt64 from hv z]; exact lg_same _)) ?_
      refine Runs.go 1 (cs := []) (pc' := 2133) (pl' := [some (.ref 1000), some (.ref 0), some (.ref 23), some (.ref 36), some (.int (N (4 * t))), some (.int e), some (.int (bI false)), none, none]) (st' := []) (h' := (HP X c1 m2 o1)) rfl trivial ?_
      exact law_wk r
    | true =>
      refine Runs.brF rfl ?_
      refine Runs.go 4 (cs := []) (pc' := bif decide (lg_cmp (o1 (N 0).toNatClampNeg) ((bI true : Int32).toInt64) = 0) then 1465 else 1463) (pl' := [some (.ref 1000), some (.ref 0), some (.ref 23), some (.ref 36), some (.int (N (4 * t))), some (.int e), some (.int (bI true)), none, none]) (st' := []) (h' := (HP X c1 m2 o1)) rfl trivial ?_
      refine Runs.brT (decide_eq_true (by rw [show o1 (N 0).toNatClampNeg = (bI true : Int32).toInt64 from hv z]; exact lg_same _)) ?_
      refine Runs.go 1 (cs := []) (pc' := 2133) (pl' := [some (.ref 1000), some (.ref 0), some (.ref 23), some (.ref 36), some (.int (N (4 * t))), some (.int e), some (.int (bI true)), none, none]) (st' := []) (h' := (HP X c1 m2 o1)) rfl trivial ?_
      exact law_wk r
theorem w_crosses {X : Nat × (Nat → Int32)} {t : Nat} {c c1 : CT} {m m2 : MT} {o : Nat → Int64} {res : Option Value ⊕ String} {h2 : PH} {v : Int32} {kk : Nat} (hL : Call 30 mX6_crosses [.ref 0] (HP X c m o) (.inl (some (.int v))) (HP X c1 m o) 0) (hR : Call 30 mX7_crosses [.ref 23] (HP X c1 m o) (.inl (some (.int v))) (HP X c1 m2 o) 0) (r : Runs 60 mL_law 2133 (lawL (N (4 * t))) [] (HP X c1 m2 o) res h2 kk) : Runs 60 mL_law 1468 (lawL (N (4 * t))) [] (HP X c m o) res h2 kk := by
  refine Runs.go 1 (cs := []) (pc' := 1469) (pl' := [some (.ref 1000), some (.ref 0), some (.ref 23), some (.ref 36), some (.int (N (4 * t))), none, none, none, none]) (st' := [.ref 0]) (h' := (HP X c m o)) rfl trivial ?_
  refine Runs.cal (y := mX6_crosses) (as := [.ref 0]) (rest := []) (pc' := 1472) (cs := []) (v := some (.int v)) (h1 := (HP X c1 m o)) rfl trivial (by decide) hL ?_
  show Runs _ _ 1472 _ [.int v] _ _ _ _
  refine Runs.go 1 (cs := []) (pc' := 1473) (pl' := [some (.ref 1000), some (.ref 0), some (.ref 23), some (.ref 36), some (.int (N (4 * t))), none, none, none, none]) (st' := [.ref 23, .int v]) (h' := (HP X c1 m o)) rfl trivial ?_
  refine Runs.cal (y := mX7_crosses) (as := [.ref 23]) (rest := [.int v]) (pc' := 1476) (cs := []) (v := some (.int v)) (h1 := (HP X c1 m2 o)) rfl trivial (by decide) hR ?_
  show Runs _ _ 1476 _ [.int v, .int v] _ _ _ _
  refine Runs.go 1 (cs := []) (pc' := bif decide (v = v) then 2133 else 1479) (pl' := [some (.ref 1000), some (.ref 0), some (.ref 23), some (.ref 36), some (.int (N (4 * t))), none, none, none, none]) (st' := []) (h' := (HP X c1 m2 o)) rfl trivial ?_
  exact Runs.brT (decide_eq_true rfl) (law_wk r)
theorem w_crossesByAccount {X : Nat × (Nat → Int32)} {t : Nat} {c c1 : CT} {m m2 : MT} {o : Nat → Int64} {res : Option Value ⊕ String} {h2 : PH} {v : Int32} {kk : Nat} (hL : Call 30 mX6_crossesByAccount [.ref 0] (HP X c m o) (.inl (some (.int v))) (HP X c1 m o) 0) (hR : Call 30 mX7_crossesByAccount [.ref 23] (HP X c1 m o) (.inl (some (.int v))) (HP X c1 m2 o) 0) (r : Runs 60 mL_law 2133 (lawL (N (4 * t))) [] (HP X c1 m2 o) res h2 kk) : Runs 60 mL_law 1481 (lawL (N (4 * t))) [] (HP X c m o) res h2 kk := by
  refine Runs.go 1 (cs := []) (pc' := 1482) (pl' := [some (.ref 1000), some (.ref 0), some (.ref 23), some (.ref 36), some (.int (N (4 * t))), none, none, none, none]) (st' := [.ref 0]) (h' := (HP X c m o)) rfl trivial ?_
  refine Runs.cal (y := mX6_crossesByAccount) (as := [.ref 0]) (rest := []) (pc' := 1485) (cs := []) (v := some (.int v)) (h1 := (HP X c1 m o)) rfl trivial (by decide) hL ?_
  show Runs _ _ 1485 _ [.int v] _ _ _ _
  refine Runs.go 1 (cs := []) (pc' := 1486) (pl' := [some (.ref 1000), some (.ref 0), some (.ref 23), some (.ref 36), some (.int (N (4 * t))), none, none, none, none]) (st' := [.ref 23, .int v]) (h' := (HP X c1 m o)) rfl trivial ?_
  refine Runs.cal (y := mX7_crossesByAccount) (as := [.ref 23]) (rest := [.int v]) (pc' := 1489) (cs := []) (v := some (.int v)) (h1 := (HP X c1 m2 o)) rfl trivial (by decide) hR ?_
  show Runs _ _ 1489 _ [.int v, .int v] _ _ _ _
  refine Runs.go 1 (cs := []) (pc' := bif decide (v = v) then 2133 else 1492) (pl' := [some (.ref 1000), some (.ref 0), some (.ref 23), some (.ref 36), some (.int (N (4 * t))), none, none, none, none]) (st' := []) (h' := (HP X c1 m2 o)) rfl trivial ?_
  exact Runs.brT (decide_eq_true rfl) (law_wk r)
theorem w_made {X : Nat × (Nat → Int32)} {t : Nat} {c c1 : CT} {m m2 : MT} {o : Nat → Int64} {res : Option Value ⊕ String} {h2 : PH} {v : Int32} {kk : Nat} (hL : Call 30 mX6_made [.ref 0] (HP X c m o) (.inl (some (.int v))) (HP X c1 m o) 0) (hR : Call 30 mX7_made [.ref 23] (HP X c1 m o) (.inl (some (.int v))) (HP X c1 m2 o) 0) (r : Runs 60 mL_law 2133 (lawL (N (4 * t))) [] (HP X c1 m2 o) res h2 kk) : Runs 60 mL_law 1494 (lawL (N (4 * t))) [] (HP X c m o) res h2 kk := by
  refine Runs.go 1 (cs := []) (pc' := 1495) (pl' := [some (.ref 1000), some (.ref 0), some (.ref 23), some (.ref 36), some (.int (N (4 * t))), none, none, none, none]) (st' := [.ref 0]) (h' := (HP X c m o)) rfl trivial ?_
  refine Runs.cal (y := mX6_made) (as := [.ref 0]) (rest := []) (pc' := 1498) (cs := []) (v := some (.int v)) (h1 := (HP X c1 m o)) rfl trivial (by decide) hL ?_
  show Runs _ _ 1498 _ [.int v] _ _ _ _
  refine Runs.go 1 (cs := []) (pc' := 1499) (pl' := [some (.ref 1000), some (.ref 0), some (.ref 23), some (.ref 36), some (.int (N (4 * t))), none, none, none, none]) (st' := [.ref 23, .int v]) (h' := (HP X c1 m o)) rfl trivial ?_
  refine Runs.cal (y := mX7_made) (as := [.ref 23]) (rest := [.int v]) (pc' := 1502) (cs := []) (v := some (.int v)) (h1 := (HP X c1 m2 o)) rfl trivial (by decide) hR ?_
  show Runs _ _ 1502 _ [.int v, .int v] _ _ _ _
  refine Runs.go 1 (cs := []) (pc' := bif decide (v = v) then 2133 else 1505) (pl' := [some (.ref 1000), some (.ref 0), some (.ref 23), some (.ref 36), some (.int (N (4 * t))), none, none, none, none]) (st' := []) (h' := (HP X c1 m2 o)) rfl trivial ?_
  exact Runs.brT (decide_eq_true rfl) (law_wk r)
theorem w_left {X : Nat × (Nat → Int32)} {t : Nat} {c c1 : CT} {m m2 : MT} {o o1 : Nat → Int64} {res : Option Value ⊕ String} {h2 : PH} {e w : Int32} {k kk : Nat} (hX : X.1 ≤ 2048) (ht : 4 * t + 4 ≤ X.1) (hL : Call 31 mL_left [.ref 0, .int (X.2 (4 * t + 1)), .ref 36] (HP X c m o) (.inl (some (.int e))) (HP X c1 m o1) k) (hR : Call 30 mX7_left [.ref 23, .int (X.2 (4 * t + 1))] (HP X c1 m o1) (.inl (some (.int w))) (HP X c1 m2 o1) 0) (hth : thZ m2 = e) (hv : e = 0 → o1 0 = w.toInt64) (r : Runs 60 mL_law 2133 (lawL (N (4 * t))) [] (HP X c1 m2 o1) res h2 kk) : Runs 60 mL_law 1507 (lawL (N (4 * t))) [] (HP X c m o) res h2 (k + kk) := by
  refine Runs.topI 6 (cs := [vp_in (N (4 * t) + N 1) X.1]) (pc' := 1514) (pl' := [some (.ref 1000), some (.ref 0), some (.ref 23), some (.ref 36), some (.int (N (4 * t))), none, none, none, none]) (v := X.2 (N (4 * t) + N 1).toNatClampNeg) (v' := X.2 (4 * t + 1)) (st' := [.ref 0]) (h' := (HP X c m o)) rfl ⟨xs_in (by omega) hX, trivial⟩ (xs_at (by omega)) ?_
  refine Runs.go 1 (cs := []) (pc' := 1515) (pl' := [some (.ref 1000), some (.ref 0), some (.ref 23), some (.ref 36), some (.int (N (4 * t))), none, none, none, none]) (st' := [.ref 36, .int (X.2 (4 * t + 1)), .ref 0]) (h' := (HP X c m o)) rfl trivial ?_
  refine Runs.call (y := mL_left) (as := [.ref 0, .int (X.2 (4 * t + 1)), .ref 36]) (rest := []) (pc' := 1518) (cs := []) (v := some (.int e)) (h1 := (HP X c1 m o1)) rfl trivial (by decide) hL ?_
  show Runs _ _ 1518 _ [.int e] _ _ _ _
  refine Runs.go 1 (cs := []) (pc' := 1520) (pl' := [some (.ref 1000), some (.ref 0), some (.ref 23), some (.ref 36), some (.int (N (4 * t))), some (.int e), none, none, none]) (st' := []) (h' := (HP X c1 m o1)) rfl trivial ?_
  refine Runs.topI 6 (cs := [vp_in (N (4 * t) + N 1) X.1]) (pc' := 1527) (pl' := [some (.ref 1000), some (.ref 0), some (.ref 23), some (.ref 36), some (.int (N (4 * t))), some (.int e), none, none, none]) (v := X.2 (N (4 * t) + N 1).toNatClampNeg) (v' := X.2 (4 * t + 1)) (st' := [.ref 23]) (h' := (HP X c1 m o1)) rfl ⟨xs_in (by omega) hX, trivial⟩ (xs_at (by omega)) ?_
  refine Runs.cal (y := mX7_left) (as := [.ref 23, .int (X.2 (4 * t + 1))]) (rest := []) (pc' := 1530) (cs := []) (v := some (.int w)) (h1 := (HP X c1 m2 o1)) rfl trivial (by decide) hR ?_
  show Runs _ _ 1530 _ [.int w] _ _ _ _
  refine Runs.go 2 (cs := []) (pc' := 1533) (pl' := [some (.ref 1000), some (.ref 0), some (.ref 23), some (.ref 36), some (.int (N (4 * t))), some (.int e), some (.int w), none, none]) (st' := [.ref 23]) (h' := (HP X c1 m2 o1)) rfl trivial ?_
  refine Runs.cal (y := mX7_thrown) (as := [.ref 23]) (rest := []) (pc' := 1536) (cs := []) (v := some (.int (thZ m2))) (h1 := (HP X c1 m2 o1)) rfl trivial (by decide) k_thr ?_
  show Runs _ _ 1536 _ [.int (thZ m2)] _ _ _ _
  refine Runs.go 2 (cs := []) (pc' := bif decide (thZ m2 = e) then 1543 else 1541) (pl' := [some (.ref 1000), some (.ref 0), some (.ref 23), some (.ref 36), some (.int (N (4 * t))), some (.int e), some (.int w), none, none]) (st' := []) (h' := (HP X c1 m2 o1)) rfl trivial ?_
  refine Runs.brT (decide_eq_true hth) ?_
  refine Runs.go 2 (cs := []) (pc' := bif decide (¬ e = 0) then 1560 else 1548) (pl' := [some (.ref 1000), some (.ref 0), some (.ref 23), some (.ref 36), some (.int (N (4 * t))), some (.int e), some (.int w), none, none]) (st' := []) (h' := (HP X c1 m2 o1)) rfl trivial ?_
  refine Runs.br (fun _ => ?_) (fun z => ?_)
  · refine Runs.go 1 (cs := []) (pc' := 2133) (pl' := [some (.ref 1000), some (.ref 0), some (.ref 23), some (.ref 36), some (.int (N (4 * t))), some (.int e), some (.int w), none, none]) (st' := []) (h' := (HP X c1 m2 o1)) rfl trivial ?_
    exact law_wk r
  · replace z : e = 0 := Classical.not_not.mp (of_decide_eq_false z)
    refine Runs.go 7 (cs := [vp_in (N 0) 1]) (pc' := bif decide (lg_cmp (o1 (N 0).toNatClampNeg) (w.toInt64) = 0) then 1560 else 1558) (pl' := [some (.ref 1000), some (.ref 0), some (.ref 23), some (.ref 36), some (.int (N (4 * t))), some (.int e), some (.int w), none, none]) (st' := []) (h' := (HP X c1 m2 o1)) rfl ⟨(N_in (by decide) (by decide)), trivial⟩ ?_
    refine Runs.brT (decide_eq_true (by rw [show o1 (N 0).toNatClampNeg = w.toInt64 from hv z]; exact lg_same _)) ?_
    refine Runs.go 1 (cs := []) (pc' := 2133) (pl' := [some (.ref 1000), some (.ref 0), some (.ref 23), some (.ref 36), some (.int (N (4 * t))), some (.int e), some (.int w), none, none]) (st' := []) (h' := (HP X c1 m2 o1)) rfl trivial ?_
    exact law_wk r
theorem w_leftByTurns {X : Nat × (Nat → Int32)} {t : Nat} {c c1 : CT} {m m2 : MT} {o o1 : Nat → Int64} {res : Option Value ⊕ String} {h2 : PH} {e w : Int32} {k kk : Nat} (hX : X.1 ≤ 2048) (ht : 4 * t + 4 ≤ X.1) (hL : Call 31 mL_leftByTurns [.ref 0, .int (X.2 (4 * t + 1)), .ref 36] (HP X c m o) (.inl (some (.int e))) (HP X c1 m o1) k) (hR : Call 30 mX7_leftByTurns [.ref 23, .int (X.2 (4 * t + 1))] (HP X c1 m o1) (.inl (some (.int w))) (HP X c1 m2 o1) 0) (hth : thZ m2 = e) (hv : e = 0 → o1 0 = w.toInt64) (r : Runs 60 mL_law 2133 (lawL (N (4 * t))) [] (HP X c1 m2 o1) res h2 kk) : Runs 60 mL_law 1563 (lawL (N (4 * t))) [] (HP X c m o) res h2 (k + kk) := by
  refine Runs.topI 6 (cs := [vp_in (N (4 * t) + N 1) X.1]) (pc' := 1570) (pl' := [some (.ref 1000), some (.ref 0), some (.ref 23), some (.ref 36), some (.int (N (4 * t))), none, none, none, none]) (v := X.2 (N (4 * t) + N 1).toNatClampNeg) (v' := X.2 (4 * t + 1)) (st' := [.ref 0]) (h' := (HP X c m o)) rfl ⟨xs_in (by omega) hX, trivial⟩ (xs_at (by omega)) ?_
  refine Runs.go 1 (cs := []) (pc' := 1571) (pl' := [some (.ref 1000), some (.ref 0), some (.ref 23), some (.ref 36), some (.int (N (4 * t))), none, none, none, none]) (st' := [.ref 36, .int (X.2 (4 * t + 1)), .ref 0]) (h' := (HP X c m o)) rfl trivial ?_
  refine Runs.call (y := mL_leftByTurns) (as := [.ref 0, .int (X.2 (4 * t + 1)), .ref 36]) (rest := []) (pc' := 1574) (cs := []) (v := some (.int e)) (h1 := (HP X c1 m o1)) rfl trivial (by decide) hL ?_
  show Runs _ _ 1574 _ [.int e] _ _ _ _
  refine Runs.go 1 (cs := []) (pc' := 1576) (pl' := [some (.ref 1000), some (.ref 0), some (.ref 23), some (.ref 36), some (.int (N (4 * t))), some (.int e), none, none, none]) (st' := []) (h' := (HP X c1 m o1)) rfl trivial ?_
  refine Runs.topI 6 (cs := [vp_in (N (4 * t) + N 1) X.1]) (pc' := 1583) (pl' := [some (.ref 1000), some (.ref 0), some (.ref 23), some (.ref 36), some (.int (N (4 * t))), some (.int e), none, none, none]) (v := X.2 (N (4 * t) + N 1).toNatClampNeg) (v' := X.2 (4 * t + 1)) (st' := [.ref 23]) (h' := (HP X c1 m o1)) rfl ⟨xs_in (by omega) hX, trivial⟩ (xs_at (by omega)) ?_
  refine Runs.cal (y := mX7_leftByTurns) (as := [.ref 23, .int (X.2 (4 * t + 1))]) (rest := []) (pc' := 1586) (cs := []) (v := some (.int w)) (h1 := (HP X c1 m2 o1)) rfl trivial (by decide) hR ?_
  show Runs _ _ 1586 _ [.int w] _ _ _ _
  refine Runs.go 2 (cs := []) (pc' := 1589) (pl' := [some (.ref 1000), some (.ref 0), some (.ref 23), some (.ref 36), some (.int (N (4 * t))), some (.int e), some (.int w), none, none]) (st' := [.ref 23]) (h' := (HP X c1 m2 o1)) rfl trivial ?_
  refine Runs.cal (y := mX7_thrown) (as := [.ref 23]) (rest := []) (pc' := 1592) (cs := []) (v := some (.int (thZ m2))) (h1 := (HP X c1 m2 o1)) rfl trivial (by decide) k_thr ?_
  show Runs _ _ 1592 _ [.int (thZ m2)] _ _ _ _
  refine Runs.go 2 (cs := []) (pc' := bif decide (thZ m2 = e) then 1599 else 1597) (pl' := [some (.ref 1000), some (.ref 0), some (.ref 23), some (.ref 36), some (.int (N (4 * t))), some (.int e), some (.int w), none, none]) (st' := []) (h' := (HP X c1 m2 o1)) rfl trivial ?_
  refine Runs.brT (decide_eq_true hth) ?_
  refine Runs.go 2 (cs := []) (pc' := bif decide (¬ e = 0) then 1616 else 1604) (pl' := [some (.ref 1000), some (.ref 0), some (.ref 23), some (.ref 36), some (.int (N (4 * t))), some (.int e), some (.int w), none, none]) (st' := []) (h' := (HP X c1 m2 o1)) rfl trivial ?_
  refine Runs.br (fun _ => ?_) (fun z => ?_)
  · refine Runs.go 1 (cs := []) (pc' := 2133) (pl' := [some (.ref 1000), some (.ref 0), some (.ref 23), some (.ref 36), some (.int (N (4 * t))), some (.int e), some (.int w), none, none]) (st' := []) (h' := (HP X c1 m2 o1)) rfl trivial ?_
    exact law_wk r
  · replace z : e = 0 := Classical.not_not.mp (of_decide_eq_false z)
    refine Runs.go 7 (cs := [vp_in (N 0) 1]) (pc' := bif decide (lg_cmp (o1 (N 0).toNatClampNeg) (w.toInt64) = 0) then 1616 else 1614) (pl' := [some (.ref 1000), some (.ref 0), some (.ref 23), some (.ref 36), some (.int (N (4 * t))), some (.int e), some (.int w), none, none]) (st' := []) (h' := (HP X c1 m2 o1)) rfl ⟨(N_in (by decide) (by decide)), trivial⟩ ?_
    refine Runs.brT (decide_eq_true (by rw [show o1 (N 0).toNatClampNeg = w.toInt64 from hv z]; exact lg_same _)) ?_
    refine Runs.go 1 (cs := []) (pc' := 2133) (pl' := [some (.ref 1000), some (.ref 0), some (.ref 23), some (.ref 36), some (.int (N (4 * t))), some (.int e), some (.int w), none, none]) (st' := []) (h' := (HP X c1 m2 o1)) rfl trivial ?_
    exact law_wk r
theorem w_rounds {X : Nat × (Nat → Int32)} {t : Nat} {c c1 : CT} {m m2 : MT} {o : Nat → Int64} {res : Option Value ⊕ String} {h2 : PH} {v : Int32} {kk : Nat} (hL : Call 30 mX6_rounds [.ref 0] (HP X c m o) (.inl (some (.int v))) (HP X c1 m o) 0) (hR : Call 30 mX7_rounds [.ref 23] (HP X c1 m o) (.inl (some (.int v))) (HP X c1 m2 o) 0) (r : Runs 60 mL_law 2133 (lawL (N (4 * t))) [] (HP X c1 m2 o) res h2 kk) : Runs 60 mL_law 1619 (lawL (N (4 * t))) [] (HP X c m o) res h2 kk := by
  refine Runs.go 1 (cs := []) (pc' := 1620) (pl' := [some (.ref 1000), some (.ref 0), some (.ref 23), some (.ref 36), some (.int (N (4 * t))), none, none, none, none]) (st' := [.ref 0]) (h' := (HP X c m o)) rfl trivial ?_
  refine Runs.cal (y := mX6_rounds) (as := [.ref 0]) (rest := []) (pc' := 1623) (cs := []) (v := some (.int v)) (h1 := (HP X c1 m o)) rfl trivial (by decide) hL ?_
  show Runs _ _ 1623 _ [.int v] _ _ _ _
  refine Runs.go 1 (cs := []) (pc' := 1624) (pl' := [some (.ref 1000), some (.ref 0), some (.ref 23), some (.ref 36), some (.int (N (4 * t))), none, none, none, none]) (st' := [.ref 23, .int v]) (h' := (HP X c1 m o)) rfl trivial ?_
  refine Runs.cal (y := mX7_rounds) (as := [.ref 23]) (rest := [.int v]) (pc' := 1627) (cs := []) (v := some (.int v)) (h1 := (HP X c1 m2 o)) rfl trivial (by decide) hR ?_
  show Runs _ _ 1627 _ [.int v, .int v] _ _ _ _
  refine Runs.go 1 (cs := []) (pc' := bif decide (v = v) then 2133 else 1630) (pl' := [some (.ref 1000), some (.ref 0), some (.ref 23), some (.ref 36), some (.int (N (4 * t))), none, none, none, none]) (st' := []) (h' := (HP X c1 m2 o)) rfl trivial ?_
  exact Runs.brT (decide_eq_true rfl) (law_wk r)
theorem w_isContradiction {X : Nat × (Nat → Int32)} {t : Nat} {c c1 : CT} {m m2 : MT} {o : Nat → Int64} {res : Option Value ⊕ String} {h2 : PH} {v : Int32} {kk : Nat} (hL : Call 30 mX6_isContradiction [.ref 0] (HP X c m o) (.inl (some (.int v))) (HP X c1 m o) 0) (hR : Call 30 mX7_isContradiction [.ref 23] (HP X c1 m o) (.inl (some (.int v))) (HP X c1 m2 o) 0) (r : Runs 60 mL_law 2133 (lawL (N (4 * t))) [] (HP X c1 m2 o) res h2 kk) : Runs 60 mL_law 1632 (lawL (N (4 * t))) [] (HP X c m o) res h2 kk := by
  refine Runs.go 1 (cs := []) (pc' := 1633) (pl' := [some (.ref 1000), some (.ref 0), some (.ref 23), some (.ref 36), some (.int (N (4 * t))), none, none, none, none]) (st' := [.ref 0]) (h' := (HP X c m o)) rfl trivial ?_
  refine Runs.cal (y := mX6_isContradiction) (as := [.ref 0]) (rest := []) (pc' := 1636) (cs := []) (v := some (.int v)) (h1 := (HP X c1 m o)) rfl trivial (by decide) hL ?_
  show Runs _ _ 1636 _ [.int v] _ _ _ _
  refine Runs.go 1 (cs := []) (pc' := 1637) (pl' := [some (.ref 1000), some (.ref 0), some (.ref 23), some (.ref 36), some (.int (N (4 * t))), none, none, none, none]) (st' := [.ref 23, .int v]) (h' := (HP X c1 m o)) rfl trivial ?_
  refine Runs.cal (y := mX7_isContradiction) (as := [.ref 23]) (rest := [.int v]) (pc' := 1640) (cs := []) (v := some (.int v)) (h1 := (HP X c1 m2 o)) rfl trivial (by decide) hR ?_
  show Runs _ _ 1640 _ [.int v, .int v] _ _ _ _
  refine Runs.go 1 (cs := []) (pc' := bif decide (v = v) then 2133 else 1643) (pl' := [some (.ref 1000), some (.ref 0), some (.ref 23), some (.ref 36), some (.int (N (4 * t))), none, none, none, none]) (st' := []) (h' := (HP X c1 m2 o)) rfl trivial ?_
  exact Runs.brT (decide_eq_true rfl) (law_wk r)
theorem w_fixedAt {X : Nat × (Nat → Int32)} {t : Nat} {c c1 : CT} {m m2 : MT} {o o1 : Nat → Int64} {res : Option Value ⊕ String} {h2 : PH} {e w : Int32} {k kk : Nat} (hX : X.1 ≤ 2048) (ht : 4 * t + 4 ≤ X.1) (hL : Call 31 mL_fixedAt [.ref 0, .int (X.2 (4 * t + 1)), .ref 36] (HP X c m o) (.inl (some (.int e))) (HP X c1 m o1) k) (hR : Call 30 mX7_fixedAt [.ref 23, .int (X.2 (4 * t + 1))] (HP X c1 m o1) (.inl (some (.int w))) (HP X c1 m2 o1) 0) (hth : thZ m2 = e) (hv : e = 0 → o1 0 = w.toInt64) (r : Runs 60 mL_law 2133 (lawL (N (4 * t))) [] (HP X c1 m2 o1) res h2 kk) : Runs 60 mL_law 1645 (lawL (N (4 * t))) [] (HP X c m o) res h2 (k + kk) := by
  refine Runs.topI 6 (cs := [vp_in (N (4 * t) + N 1) X.1]) (pc' := 1652) (pl' := [some (.ref 1000), some (.ref 0), some (.ref 23), some (.ref 36), some (.int (N (4 * t))), none, none, none, none]) (v := X.2 (N (4 * t) + N 1).toNatClampNeg) (v' := X.2 (4 * t + 1)) (st' := [.ref 0]) (h' := (HP X c m o)) rfl ⟨xs_in (by omega) hX, trivial⟩ (xs_at (by omega)) ?_
  refine Runs.go 1 (cs := []) (pc' := 1653) (pl' := [some (.ref 1000), some (.ref 0), some (.ref 23), some (.ref 36), some (.int (N (4 * t))), none, none, none, none]) (st' := [.ref 36, .int (X.2 (4 * t + 1)), .ref 0]) (h' := (HP X c m o)) rfl trivial ?_
  refine Runs.call (y := mL_fixedAt) (as := [.ref 0, .int (X.2 (4 * t + 1)), .ref 36]) (rest := []) (pc' := 1656) (cs := []) (v := some (.int e)) (h1 := (HP X c1 m o1)) rfl trivial (by decide) hL ?_
  show Runs _ _ 1656 _ [.int e] _ _ _ _
  refine Runs.go 1 (cs := []) (pc' := 1658) (pl' := [some (.ref 1000), some (.ref 0), some (.ref 23), some (.ref 36), some (.int (N (4 * t))), some (.int e), none, none, none]) (st' := []) (h' := (HP X c1 m o1)) rfl trivial ?_
  refine Runs.topI 6 (cs := [vp_in (N (4 * t) + N 1) X.1]) (pc' := 1665) (pl' := [some (.ref 1000), some (.ref 0), some (.ref 23), some (.ref 36), some (.int (N (4 * t))), some (.int e), none, none, none]) (v := X.2 (N (4 * t) + N 1).toNatClampNeg) (v' := X.2 (4 * t + 1)) (st' := [.ref 23]) (h' := (HP X c1 m o1)) rfl ⟨xs_in (by omega) hX, trivial⟩ (xs_at (by omega)) ?_
  refine Runs.cal (y := mX7_fixedAt) (as := [.ref 23, .int (X.2 (4 * t + 1))]) (rest := []) (pc' := 1668) (cs := []) (v := some (.int w)) (h1 := (HP X c1 m2 o1)) rfl trivial (by decide) hR ?_
  show Runs _ _ 1668 _ [.int w] _ _ _ _
  refine Runs.go 2 (cs := []) (pc' := 1671) (pl' := [some (.ref 1000), some (.ref 0), some (.ref 23), some (.ref 36), some (.int (N (4 * t))), some (.int e), some (.int w), none, none]) (st' := [.ref 23]) (h' := (HP X c1 m2 o1)) rfl trivial ?_
  refine Runs.cal (y := mX7_thrown) (as := [.ref 23]) (rest := []) (pc' := 1674) (cs := []) (v := some (.int (thZ m2))) (h1 := (HP X c1 m2 o1)) rfl trivial (by decide) k_thr ?_
  show Runs _ _ 1674 _ [.int (thZ m2)] _ _ _ _
  refine Runs.go 2 (cs := []) (pc' := bif decide (thZ m2 = e) then 1681 else 1679) (pl' := [some (.ref 1000), some (.ref 0), some (.ref 23), some (.ref 36), some (.int (N (4 * t))), some (.int e), some (.int w), none, none]) (st' := []) (h' := (HP X c1 m2 o1)) rfl trivial ?_
  refine Runs.brT (decide_eq_true hth) ?_
  refine Runs.go 2 (cs := []) (pc' := bif decide (¬ e = 0) then 1698 else 1686) (pl' := [some (.ref 1000), some (.ref 0), some (.ref 23), some (.ref 36), some (.int (N (4 * t))), some (.int e), some (.int w), none, none]) (st' := []) (h' := (HP X c1 m2 o1)) rfl trivial ?_
  refine Runs.br (fun _ => ?_) (fun z => ?_)
  · refine Runs.go 1 (cs := []) (pc' := 2133) (pl' := [some (.ref 1000), some (.ref 0), some (.ref 23), some (.ref 36), some (.int (N (4 * t))), some (.int e), some (.int w), none, none]) (st' := []) (h' := (HP X c1 m2 o1)) rfl trivial ?_
    exact law_wk r
  · replace z : e = 0 := Classical.not_not.mp (of_decide_eq_false z)
    refine Runs.go 7 (cs := [vp_in (N 0) 1]) (pc' := bif decide (lg_cmp (o1 (N 0).toNatClampNeg) (w.toInt64) = 0) then 1698 else 1696) (pl' := [some (.ref 1000), some (.ref 0), some (.ref 23), some (.ref 36), some (.int (N (4 * t))), some (.int e), some (.int w), none, none]) (st' := []) (h' := (HP X c1 m2 o1)) rfl ⟨(N_in (by decide) (by decide)), trivial⟩ ?_
    refine Runs.brT (decide_eq_true (by rw [show o1 (N 0).toNatClampNeg = w.toInt64 from hv z]; exact lg_same _)) ?_
    refine Runs.go 1 (cs := []) (pc' := 2133) (pl' := [some (.ref 1000), some (.ref 0), some (.ref 23), some (.ref 36), some (.int (N (4 * t))), some (.int e), some (.int w), none, none]) (st' := []) (h' := (HP X c1 m2 o1)) rfl trivial ?_
    exact law_wk r
theorem w_fixedItems {X : Nat × (Nat → Int32)} {t : Nat} {c c1 : CT} {m m2 : MT} {o : Nat → Int64} {res : Option Value ⊕ String} {h2 : PH} {v : Int32} {kk : Nat} (hL : Call 30 mX6_fixedItems [.ref 0] (HP X c m o) (.inl (some (.int v))) (HP X c1 m o) 0) (hR : Call 30 mX7_fixedItems [.ref 23] (HP X c1 m o) (.inl (some (.int v))) (HP X c1 m2 o) 0) (r : Runs 60 mL_law 2133 (lawL (N (4 * t))) [] (HP X c1 m2 o) res h2 kk) : Runs 60 mL_law 1701 (lawL (N (4 * t))) [] (HP X c m o) res h2 kk := by
  refine Runs.go 1 (cs := []) (pc' := 1702) (pl' := [some (.ref 1000), some (.ref 0), some (.ref 23), some (.ref 36), some (.int (N (4 * t))), none, none, none, none]) (st' := [.ref 0]) (h' := (HP X c m o)) rfl trivial ?_
  refine Runs.cal (y := mX6_fixedItems) (as := [.ref 0]) (rest := []) (pc' := 1705) (cs := []) (v := some (.int v)) (h1 := (HP X c1 m o)) rfl trivial (by decide) hL ?_
  show Runs _ _ 1705 _ [.int v] _ _ _ _
  refine Runs.go 1 (cs := []) (pc' := 1706) (pl' := [some (.ref 1000), some (.ref 0), some (.ref 23), some (.ref 36), some (.int (N (4 * t))), none, none, none, none]) (st' := [.ref 23, .int v]) (h' := (HP X c1 m o)) rfl trivial ?_
  refine Runs.cal (y := mX7_fixedItems) (as := [.ref 23]) (rest := [.int v]) (pc' := 1709) (cs := []) (v := some (.int v)) (h1 := (HP X c1 m2 o)) rfl trivial (by decide) hR ?_
  show Runs _ _ 1709 _ [.int v, .int v] _ _ _ _
  refine Runs.go 1 (cs := []) (pc' := bif decide (v = v) then 2133 else 1712) (pl' := [some (.ref 1000), some (.ref 0), some (.ref 23), some (.ref 36), some (.int (N (4 * t))), none, none, none, none]) (st' := []) (h' := (HP X c1 m2 o)) rfl trivial ?_
  exact Runs.brT (decide_eq_true rfl) (law_wk r)
theorem w_hint {X : Nat × (Nat → Int32)} {t : Nat} {c c1 : CT} {m m2 : MT} {o : Nat → Int64} {res : Option Value ⊕ String} {h2 : PH} {v : Int32} {kk : Nat} (hL : Call 30 mX6_hint [.ref 0] (HP X c m o) (.inl (some (.int v))) (HP X c1 m o) 0) (hR : Call 30 mX7_hint [.ref 23] (HP X c1 m o) (.inl (some (.int v))) (HP X c1 m2 o) 0) (r : Runs 60 mL_law 2133 (lawL (N (4 * t))) [] (HP X c1 m2 o) res h2 kk) : Runs 60 mL_law 1714 (lawL (N (4 * t))) [] (HP X c m o) res h2 kk := by
  refine Runs.go 1 (cs := []) (pc' := 1715) (pl' := [some (.ref 1000), some (.ref 0), some (.ref 23), some (.ref 36), some (.int (N (4 * t))), none, none, none, none]) (st' := [.ref 0]) (h' := (HP X c m o)) rfl trivial ?_
  refine Runs.cal (y := mX6_hint) (as := [.ref 0]) (rest := []) (pc' := 1718) (cs := []) (v := some (.int v)) (h1 := (HP X c1 m o)) rfl trivial (by decide) hL ?_
  show Runs _ _ 1718 _ [.int v] _ _ _ _
  refine Runs.go 1 (cs := []) (pc' := 1719) (pl' := [some (.ref 1000), some (.ref 0), some (.ref 23), some (.ref 36), some (.int (N (4 * t))), none, none, none, none]) (st' := [.ref 23, .int v]) (h' := (HP X c1 m o)) rfl trivial ?_
  refine Runs.cal (y := mX7_hint) (as := [.ref 23]) (rest := [.int v]) (pc' := 1722) (cs := []) (v := some (.int v)) (h1 := (HP X c1 m2 o)) rfl trivial (by decide) hR ?_
  show Runs _ _ 1722 _ [.int v, .int v] _ _ _ _
  refine Runs.go 1 (cs := []) (pc' := bif decide (v = v) then 2133 else 1725) (pl' := [some (.ref 1000), some (.ref 0), some (.ref 23), some (.ref 36), some (.int (N (4 * t))), none, none, none, none]) (st' := []) (h' := (HP X c1 m2 o)) rfl trivial ?_
  exact Runs.brT (decide_eq_true rfl) (law_wk r)
theorem w_hintBy {X : Nat × (Nat → Int32)} {t : Nat} {c c1 : CT} {m m2 : MT} {o : Nat → Int64} {res : Option Value ⊕ String} {h2 : PH} {v : Int32} {kk : Nat} (hL : Call 30 mX6_hintBy [.ref 0] (HP X c m o) (.inl (some (.int v))) (HP X c1 m o) 0) (hR : Call 30 mX7_hintBy [.ref 23] (HP X c1 m o) (.inl (some (.int v))) (HP X c1 m2 o) 0) (r : Runs 60 mL_law 2133 (lawL (N (4 * t))) [] (HP X c1 m2 o) res h2 kk) : Runs 60 mL_law 1727 (lawL (N (4 * t))) [] (HP X c m o) res h2 kk := by
  refine Runs.go 1 (cs := []) (pc' := 1728) (pl' := [some (.ref 1000), some (.ref 0), some (.ref 23), some (.ref 36), some (.int (N (4 * t))), none, none, none, none]) (st' := [.ref 0]) (h' := (HP X c m o)) rfl trivial ?_
  refine Runs.cal (y := mX6_hintBy) (as := [.ref 0]) (rest := []) (pc' := 1731) (cs := []) (v := some (.int v)) (h1 := (HP X c1 m o)) rfl trivial (by decide) hL ?_
  show Runs _ _ 1731 _ [.int v] _ _ _ _
  refine Runs.go 1 (cs := []) (pc' := 1732) (pl' := [some (.ref 1000), some (.ref 0), some (.ref 23), some (.ref 36), some (.int (N (4 * t))), none, none, none, none]) (st' := [.ref 23, .int v]) (h' := (HP X c1 m o)) rfl trivial ?_
  refine Runs.cal (y := mX7_hintBy) (as := [.ref 23]) (rest := [.int v]) (pc' := 1735) (cs := []) (v := some (.int v)) (h1 := (HP X c1 m2 o)) rfl trivial (by decide) hR ?_
  show Runs _ _ 1735 _ [.int v, .int v] _ _ _ _
  refine Runs.go 1 (cs := []) (pc' := bif decide (v = v) then 2133 else 1738) (pl' := [some (.ref 1000), some (.ref 0), some (.ref 23), some (.ref 36), some (.int (N (4 * t))), none, none, none, none]) (st' := []) (h' := (HP X c1 m2 o)) rfl trivial ?_
  exact Runs.brT (decide_eq_true rfl) (law_wk r)
theorem w_solutions {X : Nat × (Nat → Int32)} {t : Nat} {c c1 : CT} {m m2 : MT} {o : Nat → Int64} {res : Option Value ⊕ String} {h2 : PH} {v : Int32} {kk : Nat} (hL : Call 30 mX6_solutions [.ref 0] (HP X c m o) (.inl (some (.int v))) (HP X c1 m o) 0) (hR : Call 30 mX7_solutions [.ref 23] (HP X c1 m o) (.inl (some (.int v))) (HP X c1 m2 o) 0) (r : Runs 60 mL_law 2133 (lawL (N (4 * t))) [] (HP X c1 m2 o) res h2 kk) : Runs 60 mL_law 1740 (lawL (N (4 * t))) [] (HP X c m o) res h2 kk := by
  refine Runs.go 1 (cs := []) (pc' := 1741) (pl' := [some (.ref 1000), some (.ref 0), some (.ref 23), some (.ref 36), some (.int (N (4 * t))), none, none, none, none]) (st' := [.ref 0]) (h' := (HP X c m o)) rfl trivial ?_
  refine Runs.cal (y := mX6_solutions) (as := [.ref 0]) (rest := []) (pc' := 1744) (cs := []) (v := some (.int v)) (h1 := (HP X c1 m o)) rfl trivial (by decide) hL ?_
  show Runs _ _ 1744 _ [.int v] _ _ _ _
  refine Runs.go 1 (cs := []) (pc' := 1745) (pl' := [some (.ref 1000), some (.ref 0), some (.ref 23), some (.ref 36), some (.int (N (4 * t))), none, none, none, none]) (st' := [.ref 23, .int v]) (h' := (HP X c1 m o)) rfl trivial ?_
  refine Runs.cal (y := mX7_solutions) (as := [.ref 23]) (rest := [.int v]) (pc' := 1748) (cs := []) (v := some (.int v)) (h1 := (HP X c1 m2 o)) rfl trivial (by decide) hR ?_
  show Runs _ _ 1748 _ [.int v, .int v] _ _ _ _
  refine Runs.go 1 (cs := []) (pc' := bif decide (v = v) then 2133 else 1751) (pl' := [some (.ref 1000), some (.ref 0), some (.ref 23), some (.ref 36), some (.int (N (4 * t))), none, none, none, none]) (st' := []) (h' := (HP X c1 m2 o)) rfl trivial ?_
  exact Runs.brT (decide_eq_true rfl) (law_wk r)
theorem w_solutionsBySearch {X : Nat × (Nat → Int32)} {t : Nat} {c c1 : CT} {m m2 : MT} {o : Nat → Int64} {res : Option Value ⊕ String} {h2 : PH} {v : Int32} {kk : Nat} (hL : Call 30 mX6_solutionsBySearch [.ref 0] (HP X c m o) (.inl (some (.int v))) (HP X c1 m o) 0) (hR : Call 30 mX7_solutionsBySearch [.ref 23] (HP X c1 m o) (.inl (some (.int v))) (HP X c1 m2 o) 0) (r : Runs 60 mL_law 2133 (lawL (N (4 * t))) [] (HP X c1 m2 o) res h2 kk) : Runs 60 mL_law 1753 (lawL (N (4 * t))) [] (HP X c m o) res h2 kk := by
  refine Runs.go 1 (cs := []) (pc' := 1754) (pl' := [some (.ref 1000), some (.ref 0), some (.ref 23), some (.ref 36), some (.int (N (4 * t))), none, none, none, none]) (st' := [.ref 0]) (h' := (HP X c m o)) rfl trivial ?_
  refine Runs.cal (y := mX6_solutionsBySearch) (as := [.ref 0]) (rest := []) (pc' := 1757) (cs := []) (v := some (.int v)) (h1 := (HP X c1 m o)) rfl trivial (by decide) hL ?_
  show Runs _ _ 1757 _ [.int v] _ _ _ _
  refine Runs.go 1 (cs := []) (pc' := 1758) (pl' := [some (.ref 1000), some (.ref 0), some (.ref 23), some (.ref 36), some (.int (N (4 * t))), none, none, none, none]) (st' := [.ref 23, .int v]) (h' := (HP X c1 m o)) rfl trivial ?_
  refine Runs.cal (y := mX7_solutionsBySearch) (as := [.ref 23]) (rest := [.int v]) (pc' := 1761) (cs := []) (v := some (.int v)) (h1 := (HP X c1 m2 o)) rfl trivial (by decide) hR ?_
  show Runs _ _ 1761 _ [.int v, .int v] _ _ _ _
  refine Runs.go 1 (cs := []) (pc' := bif decide (v = v) then 2133 else 1764) (pl' := [some (.ref 1000), some (.ref 0), some (.ref 23), some (.ref 36), some (.int (N (4 * t))), none, none, none, none]) (st' := []) (h' := (HP X c1 m2 o)) rfl trivial ?_
  exact Runs.brT (decide_eq_true rfl) (law_wk r)
theorem w_placeIn {X : Nat × (Nat → Int32)} {t : Nat} {c c1 : CT} {m m2 : MT} {o o1 : Nat → Int64} {res : Option Value ⊕ String} {h2 : PH} {e w : Int32} {k kk : Nat} (hX : X.1 ≤ 2048) (ht : 4 * t + 4 ≤ X.1) (hL : Call 31 mL_placeIn [.ref 0, .int (X.2 (4 * t + 1)), .int (X.2 (4 * t + 2)), .ref 36] (HP X c m o) (.inl (some (.int e))) (HP X c1 m o1) k) (hR : Call 30 mX7_placeIn [.ref 23, .int (X.2 (4 * t + 1)), .int (X.2 (4 * t + 2))] (HP X c1 m o1) (.inl (some (.int w))) (HP X c1 m2 o1) 0) (hth : thZ m2 = e) (hv : e = 0 → o1 0 = w.toInt64) (r : Runs 60 mL_law 2133 (lawL (N (4 * t))) [] (HP X c1 m2 o1) res h2 kk) : Runs 60 mL_law 1766 (lawL (N (4 * t))) [] (HP X c m o) res h2 (k + kk) := by
  refine Runs.topI 6 (cs := [vp_in (N (4 * t) + N 1) X.1]) (pc' := 1773) (pl' := [some (.ref 1000), some (.ref 0), some (.ref 23), some (.ref 36), some (.int (N (4 * t))), none, none, none, none]) (v := X.2 (N (4 * t) + N 1).toNatClampNeg) (v' := X.2 (4 * t + 1)) (st' := [.ref 0]) (h' := (HP X c m o)) rfl ⟨xs_in (by omega) hX, trivial⟩ (xs_at (by omega)) ?_
  refine Runs.topI 5 (cs := [vp_in (N (4 * t) + N 2) X.1]) (pc' := 1779) (pl' := [some (.ref 1000), some (.ref 0), some (.ref 23), some (.ref 36), some (.int (N (4 * t))), none, none, none, none]) (v := X.2 (N (4 * t) + N 2).toNatClampNeg) (v' := X.2 (4 * t + 2)) (st' := [.int (X.2 (4 * t + 1)), .ref 0]) (h' := (HP X c m o)) rfl ⟨xs_in (by omega) hX, trivial⟩ (xs_at (by omega)) ?_
  refine Runs.go 1 (cs := []) (pc' := 1780) (pl' := [some (.ref 1000), some (.ref 0), some (.ref 23), some (.ref 36), some (.int (N (4 * t))), none, none, none, none]) (st' := [.ref 36, .int (X.2 (4 * t + 2)), .int (X.2 (4 * t + 1)), .ref 0]) (h' := (HP X c m o)) rfl trivial ?_
  refine Runs.call (y := mL_placeIn) (as := [.ref 0, .int (X.2 (4 * t + 1)), .int (X.2 (4 * t + 2)), .ref 36]) (rest := []) (pc' := 1783) (cs := []) (v := some (.int e)) (h1 := (HP X c1 m o1)) rfl trivial (by decide) hL ?_
  show Runs _ _ 1783 _ [.int e] _ _ _ _
  refine Runs.go 1 (cs := []) (pc' := 1785) (pl' := [some (.ref 1000), some (.ref 0), some (.ref 23), some (.ref 36), some (.int (N (4 * t))), some (.int e), none, none, none]) (st' := []) (h' := (HP X c1 m o1)) rfl trivial ?_
  refine Runs.topI 6 (cs := [vp_in (N (4 * t) + N 1) X.1]) (pc' := 1792) (pl' := [some (.ref 1000), some (.ref 0), some (.ref 23), some (.ref 36), some (.int (N (4 * t))), some (.int e), none, none, none]) (v := X.2 (N (4 * t) + N 1).toNatClampNeg) (v' := X.2 (4 * t + 1)) (st' := [.ref 23]) (h' := (HP X c1 m o1)) rfl ⟨xs_in (by omega) hX, trivial⟩ (xs_at (by omega)) ?_
  refine Runs.topI 5 (cs := [vp_in (N (4 * t) + N 2) X.1]) (pc' := 1798) (pl' := [some (.ref 1000), some (.ref 0), some (.ref 23), some (.ref 36), some (.int (N (4 * t))), some (.int e), none, none, none]) (v := X.2 (N (4 * t) + N 2).toNatClampNeg) (v' := X.2 (4 * t + 2)) (st' := [.int (X.2 (4 * t + 1)), .ref 23]) (h' := (HP X c1 m o1)) rfl ⟨xs_in (by omega) hX, trivial⟩ (xs_at (by omega)) ?_
  refine Runs.cal (y := mX7_placeIn) (as := [.ref 23, .int (X.2 (4 * t + 1)), .int (X.2 (4 * t + 2))]) (rest := []) (pc' := 1801) (cs := []) (v := some (.int w)) (h1 := (HP X c1 m2 o1)) rfl trivial (by decide) hR ?_
  show Runs _ _ 1801 _ [.int w] _ _ _ _
  refine Runs.go 2 (cs := []) (pc' := 1804) (pl' := [some (.ref 1000), some (.ref 0), some (.ref 23), some (.ref 36), some (.int (N (4 * t))), some (.int e), some (.int w), none, none]) (st' := [.ref 23]) (h' := (HP X c1 m2 o1)) rfl trivial ?_
  refine Runs.cal (y := mX7_thrown) (as := [.ref 23]) (rest := []) (pc' := 1807) (cs := []) (v := some (.int (thZ m2))) (h1 := (HP X c1 m2 o1)) rfl trivial (by decide) k_thr ?_
  show Runs _ _ 1807 _ [.int (thZ m2)] _ _ _ _
  refine Runs.go 2 (cs := []) (pc' := bif decide (thZ m2 = e) then 1814 else 1812) (pl' := [some (.ref 1000), some (.ref 0), some (.ref 23), some (.ref 36), some (.int (N (4 * t))), some (.int e), some (.int w), none, none]) (st' := []) (h' := (HP X c1 m2 o1)) rfl trivial ?_
  refine Runs.brT (decide_eq_true hth) ?_
  refine Runs.go 2 (cs := []) (pc' := bif decide (¬ e = 0) then 1831 else 1819) (pl' := [some (.ref 1000), some (.ref 0), some (.ref 23), some (.ref 36), some (.int (N (4 * t))), some (.int e), some (.int w), none, none]) (st' := []) (h' := (HP X c1 m2 o1)) rfl trivial ?_
  refine Runs.br (fun _ => ?_) (fun z => ?_)
  · refine Runs.go 1 (cs := []) (pc' := 2133) (pl' := [some (.ref 1000), some (.ref 0), some (.ref 23), some (.ref 36), some (.int (N (4 * t))), some (.int e), some (.int w), none, none]) (st' := []) (h' := (HP X c1 m2 o1)) rfl trivial ?_
    exact law_wk r
  · replace z : e = 0 := Classical.not_not.mp (of_decide_eq_false z)
    refine Runs.go 7 (cs := [vp_in (N 0) 1]) (pc' := bif decide (lg_cmp (o1 (N 0).toNatClampNeg) (w.toInt64) = 0) then 1831 else 1829) (pl' := [some (.ref 1000), some (.ref 0), some (.ref 23), some (.ref 36), some (.int (N (4 * t))), some (.int e), some (.int w), none, none]) (st' := []) (h' := (HP X c1 m2 o1)) rfl ⟨(N_in (by decide) (by decide)), trivial⟩ ?_
    refine Runs.brT (decide_eq_true (by rw [show o1 (N 0).toNatClampNeg = w.toInt64 from hv z]; exact lg_same _)) ?_
    refine Runs.go 1 (cs := []) (pc' := 2133) (pl' := [some (.ref 1000), some (.ref 0), some (.ref 23), some (.ref 36), some (.int (N (4 * t))), some (.int e), some (.int w), none, none]) (st' := []) (h' := (HP X c1 m2 o1)) rfl trivial ?_
    exact law_wk r
theorem w_trulyLeft {X : Nat × (Nat → Int32)} {t : Nat} {c c1 : CT} {m m2 : MT} {o o1 : Nat → Int64} {res : Option Value ⊕ String} {h2 : PH} {e w : Int32} {k kk : Nat} (hX : X.1 ≤ 2048) (ht : 4 * t + 4 ≤ X.1) (hL : Call 31 mL_trulyLeft [.ref 0, .int (X.2 (4 * t + 1)), .ref 36] (HP X c m o) (.inl (some (.int e))) (HP X c1 m o1) k) (hR : Call 30 mX7_trulyLeft [.ref 23, .int (X.2 (4 * t + 1))] (HP X c1 m o1) (.inl (some (.int w))) (HP X c1 m2 o1) 0) (hth : thZ m2 = e) (hv : e = 0 → o1 0 = w.toInt64) (r : Runs 60 mL_law 2133 (lawL (N (4 * t))) [] (HP X c1 m2 o1) res h2 kk) : Runs 60 mL_law 1834 (lawL (N (4 * t))) [] (HP X c m o) res h2 (k + kk) := by
  refine Runs.topI 6 (cs := [vp_in (N (4 * t) + N 1) X.1]) (pc' := 1841) (pl' := [some (.ref 1000), some (.ref 0), some (.ref 23), some (.ref 36), some (.int (N (4 * t))), none, none, none, none]) (v := X.2 (N (4 * t) + N 1).toNatClampNeg) (v' := X.2 (4 * t + 1)) (st' := [.ref 0]) (h' := (HP X c m o)) rfl ⟨xs_in (by omega) hX, trivial⟩ (xs_at (by omega)) ?_
  refine Runs.go 1 (cs := []) (pc' := 1842) (pl' := [some (.ref 1000), some (.ref 0), some (.ref 23), some (.ref 36), some (.int (N (4 * t))), none, none, none, none]) (st' := [.ref 36, .int (X.2 (4 * t + 1)), .ref 0]) (h' := (HP X c m o)) rfl trivial ?_
  refine Runs.call (y := mL_trulyLeft) (as := [.ref 0, .int (X.2 (4 * t + 1)), .ref 36]) (rest := []) (pc' := 1845) (cs := []) (v := some (.int e)) (h1 := (HP X c1 m o1)) rfl trivial (by decide) hL ?_
  show Runs _ _ 1845 _ [.int e] _ _ _ _
  refine Runs.go 1 (cs := []) (pc' := 1847) (pl' := [some (.ref 1000), some (.ref 0), some (.ref 23), some (.ref 36), some (.int (N (4 * t))), some (.int e), none, none, none]) (st' := []) (h' := (HP X c1 m o1)) rfl trivial ?_
  refine Runs.topI 6 (cs := [vp_in (N (4 * t) + N 1) X.1]) (pc' := 1854) (pl' := [some (.ref 1000), some (.ref 0), some (.ref 23), some (.ref 36), some (.int (N (4 * t))), some (.int e), none, none, none]) (v := X.2 (N (4 * t) + N 1).toNatClampNeg) (v' := X.2 (4 * t + 1)) (st' := [.ref 23]) (h' := (HP X c1 m o1)) rfl ⟨xs_in (by omega) hX, trivial⟩ (xs_at (by omega)) ?_
  refine Runs.cal (y := mX7_trulyLeft) (as := [.ref 23, .int (X.2 (4 * t + 1))]) (rest := []) (pc' := 1857) (cs := []) (v := some (.int w)) (h1 := (HP X c1 m2 o1)) rfl trivial (by decide) hR ?_
  show Runs _ _ 1857 _ [.int w] _ _ _ _
  refine Runs.go 2 (cs := []) (pc' := 1860) (pl' := [some (.ref 1000), some (.ref 0), some (.ref 23), some (.ref 36), some (.int (N (4 * t))), some (.int e), some (.int w), none, none]) (st' := [.ref 23]) (h' := (HP X c1 m2 o1)) rfl trivial ?_
  refine Runs.cal (y := mX7_thrown) (as := [.ref 23]) (rest := []) (pc' := 1863) (cs := []) (v := some (.int (thZ m2))) (h1 := (HP X c1 m2 o1)) rfl trivial (by decide) k_thr ?_
  show Runs _ _ 1863 _ [.int (thZ m2)] _ _ _ _
  refine Runs.go 2 (cs := []) (pc' := bif decide (thZ m2 = e) then 1870 else 1868) (pl' := [some (.ref 1000), some (.ref 0), some (.ref 23), some (.ref 36), some (.int (N (4 * t))), some (.int e), some (.int w), none, none]) (st' := []) (h' := (HP X c1 m2 o1)) rfl trivial ?_
  refine Runs.brT (decide_eq_true hth) ?_
  refine Runs.go 2 (cs := []) (pc' := bif decide (¬ e = 0) then 1887 else 1875) (pl' := [some (.ref 1000), some (.ref 0), some (.ref 23), some (.ref 36), some (.int (N (4 * t))), some (.int e), some (.int w), none, none]) (st' := []) (h' := (HP X c1 m2 o1)) rfl trivial ?_
  refine Runs.br (fun _ => ?_) (fun z => ?_)
  · refine Runs.go 1 (cs := []) (pc' := 2133) (pl' := [some (.ref 1000), some (.ref 0), some (.ref 23), some (.ref 36), some (.int (N (4 * t))), some (.int e), some (.int w), none, none]) (st' := []) (h' := (HP X c1 m2 o1)) rfl trivial ?_
    exact law_wk r
  · replace z : e = 0 := Classical.not_not.mp (of_decide_eq_false z)
    refine Runs.go 7 (cs := [vp_in (N 0) 1]) (pc' := bif decide (lg_cmp (o1 (N 0).toNatClampNeg) (w.toInt64) = 0) then 1887 else 1885) (pl' := [some (.ref 1000), some (.ref 0), some (.ref 23), some (.ref 36), some (.int (N (4 * t))), some (.int e), some (.int w), none, none]) (st' := []) (h' := (HP X c1 m2 o1)) rfl ⟨(N_in (by decide) (by decide)), trivial⟩ ?_
    refine Runs.brT (decide_eq_true (by rw [show o1 (N 0).toNatClampNeg = w.toInt64 from hv z]; exact lg_same _)) ?_
    refine Runs.go 1 (cs := []) (pc' := 2133) (pl' := [some (.ref 1000), some (.ref 0), some (.ref 23), some (.ref 36), some (.int (N (4 * t))), some (.int e), some (.int w), none, none]) (st' := []) (h' := (HP X c1 m2 o1)) rfl trivial ?_
    exact law_wk r
theorem w_isSpare {X : Nat × (Nat → Int32)} {t : Nat} {c c1 : CT} {m m2 : MT} {o o1 : Nat → Int64} {res : Option Value ⊕ String} {h2 : PH} {e : Int32} {b0 : Bool} {k kk : Nat} (hX : X.1 ≤ 2048) (ht : 4 * t + 4 ≤ X.1) (hL : Call 31 mL_isSpare [.ref 0, .int (X.2 (4 * t + 1)), .ref 36] (HP X c m o) (.inl (some (.int e))) (HP X c1 m o1) k) (hR : Call 30 mX7_isSpare [.ref 23, .int (X.2 (4 * t + 1))] (HP X c1 m o1) (.inl (some (.int (bI b0)))) (HP X c1 m2 o1) 0) (hth : thZ m2 = e) (hv : e = 0 → o1 0 = (bI b0).toInt64) (r : Runs 60 mL_law 2133 (lawL (N (4 * t))) [] (HP X c1 m2 o1) res h2 kk) : Runs 60 mL_law 1890 (lawL (N (4 * t))) [] (HP X c m o) res h2 (k + kk) := by
  refine Runs.topI 6 (cs := [vp_in (N (4 * t) + N 1) X.1]) (pc' := 1897) (pl' := [some (.ref 1000), some (.ref 0), some (.ref 23), some (.ref 36), some (.int (N (4 * t))), none, none, none, none]) (v := X.2 (N (4 * t) + N 1).toNatClampNeg) (v' := X.2 (4 * t + 1)) (st' := [.ref 0]) (h' := (HP X c m o)) rfl ⟨xs_in (by omega) hX, trivial⟩ (xs_at (by omega)) ?_
  refine Runs.go 1 (cs := []) (pc' := 1898) (pl' := [some (.ref 1000), some (.ref 0), some (.ref 23), some (.ref 36), some (.int (N (4 * t))), none, none, none, none]) (st' := [.ref 36, .int (X.2 (4 * t + 1)), .ref 0]) (h' := (HP X c m o)) rfl trivial ?_
  refine Runs.call (y := mL_isSpare) (as := [.ref 0, .int (X.2 (4 * t + 1)), .ref 36]) (rest := []) (pc' := 1901) (cs := []) (v := some (.int e)) (h1 := (HP X c1 m o1)) rfl trivial (by decide) hL ?_
  show Runs _ _ 1901 _ [.int e] _ _ _ _
  refine Runs.go 1 (cs := []) (pc' := 1903) (pl' := [some (.ref 1000), some (.ref 0), some (.ref 23), some (.ref 36), some (.int (N (4 * t))), some (.int e), none, none, none]) (st' := []) (h' := (HP X c1 m o1)) rfl trivial ?_
  refine Runs.topI 6 (cs := [vp_in (N (4 * t) + N 1) X.1]) (pc' := 1910) (pl' := [some (.ref 1000), some (.ref 0), some (.ref 23), some (.ref 36), some (.int (N (4 * t))), some (.int e), none, none, none]) (v := X.2 (N (4 * t) + N 1).toNatClampNeg) (v' := X.2 (4 * t + 1)) (st' := [.ref 23]) (h' := (HP X c1 m o1)) rfl ⟨xs_in (by omega) hX, trivial⟩ (xs_at (by omega)) ?_
  refine Runs.cal (y := mX7_isSpare) (as := [.ref 23, .int (X.2 (4 * t + 1))]) (rest := []) (pc' := 1913) (cs := []) (v := some (.int (bI b0))) (h1 := (HP X c1 m2 o1)) rfl trivial (by decide) hR ?_
  show Runs _ _ 1913 _ [.int (bI b0)] _ _ _ _
  refine Runs.go 2 (cs := []) (pc' := 1916) (pl' := [some (.ref 1000), some (.ref 0), some (.ref 23), some (.ref 36), some (.int (N (4 * t))), some (.int e), some (.int (bI b0)), none, none]) (st' := [.ref 23]) (h' := (HP X c1 m2 o1)) rfl trivial ?_
  refine Runs.cal (y := mX7_thrown) (as := [.ref 23]) (rest := []) (pc' := 1919) (cs := []) (v := some (.int (thZ m2))) (h1 := (HP X c1 m2 o1)) rfl trivial (by decide) k_thr ?_
  show Runs _ _ 1919 _ [.int (thZ m2)] _ _ _ _
  refine Runs.go 2 (cs := []) (pc' := bif decide (thZ m2 = e) then 1926 else 1924) (pl' := [some (.ref 1000), some (.ref 0), some (.ref 23), some (.ref 36), some (.int (N (4 * t))), some (.int e), some (.int (bI b0)), none, none]) (st' := []) (h' := (HP X c1 m2 o1)) rfl trivial ?_
  refine Runs.brT (decide_eq_true hth) ?_
  refine Runs.go 2 (cs := []) (pc' := bif decide (¬ e = 0) then 1950 else 1931) (pl' := [some (.ref 1000), some (.ref 0), some (.ref 23), some (.ref 36), some (.int (N (4 * t))), some (.int e), some (.int (bI b0)), none, none]) (st' := []) (h' := (HP X c1 m2 o1)) rfl trivial ?_
  refine Runs.br (fun _ => ?_) (fun z => ?_)
  · refine Runs.go 1 (cs := []) (pc' := 2133) (pl' := [some (.ref 1000), some (.ref 0), some (.ref 23), some (.ref 36), some (.int (N (4 * t))), some (.int e), some (.int (bI b0)), none, none]) (st' := []) (h' := (HP X c1 m2 o1)) rfl trivial ?_
    exact law_wk r
  · replace z : e = 0 := Classical.not_not.mp (of_decide_eq_false z)
    refine Runs.go 5 (cs := [vp_in (N 0) 1]) (pc' := bif decide (bI b0 = 0) then 1943 else 1939) (pl' := [some (.ref 1000), some (.ref 0), some (.ref 23), some (.ref 36), some (.int (N (4 * t))), some (.int e), some (.int (bI b0)), none, none]) (st' := [.long (o1 (N 0).toNatClampNeg)]) (h' := (HP X c1 m2 o1)) rfl ⟨(N_in (by decide) (by decide)), trivial⟩ ?_
    cases b0 with
    | false =>
      refine Runs.brT rfl ?_
      refine Runs.go 3 (cs := []) (pc' := bif decide (lg_cmp (o1 (N 0).toNatClampNeg) ((bI false : Int32).toInt64) = 0) then 1950 else 1948) (pl' := [some (.ref 1000), some (.ref 0), some (.ref 23), some (.ref 36), some (.int (N (4 * t))), some (.int e), some (.int (bI false)), none, none]) (st' := []) (h' := (HP X c1 m2 o1)) rfl trivial ?_
      refine Runs.brT (decide_eq_true (by rw [show o1 (N 0).toNatClampNeg = (bI false : Int32).toInt64 from hv z]; exact lg_same _)) ?_
      refine Runs.go 1 (cs := []) (pc' := 2133) (pl' := [some (.ref 1000), some (.ref 0), some (.ref 23), some (.ref 36), some (.int (N (4 * t))), some (.int e), some (.int (bI false)), none, none]) (st' := []) (h' := (HP X c1 m2 o1)) rfl trivial ?_
      exact law_wk r
    | true =>
      refine Runs.brF rfl ?_
      refine Runs.go 4 (cs := []) (pc' := bif decide (lg_cmp (o1 (N 0).toNatClampNeg) ((bI true : Int32).toInt64) = 0) then 1950 else 1948) (pl' := [some (.ref 1000), some (.ref 0), some (.ref 23), some (.ref 36), some (.int (N (4 * t))), some (.int e), some (.int (bI true)), none, none]) (st' := []) (h' := (HP X c1 m2 o1)) rfl trivial ?_
      refine Runs.brT (decide_eq_true (by rw [show o1 (N 0).toNatClampNeg = (bI true : Int32).toInt64 from hv z]; exact lg_same _)) ?_
      refine Runs.go 1 (cs := []) (pc' := 2133) (pl' := [some (.ref 1000), some (.ref 0), some (.ref 23), some (.ref 36), some (.int (N (4 * t))), some (.int e), some (.int (bI true)), none, none]) (st' := []) (h' := (HP X c1 m2 o1)) rfl trivial ?_
      exact law_wk r
theorem w_culprit {X : Nat × (Nat → Int32)} {t : Nat} {c c1 : CT} {m m2 : MT} {o : Nat → Int64} {res : Option Value ⊕ String} {h2 : PH} {v : Int32} {kk : Nat} (hL : Call 30 mX6_culprit [.ref 0] (HP X c m o) (.inl (some (.int v))) (HP X c1 m o) 0) (hR : Call 30 mX7_culprit [.ref 23] (HP X c1 m o) (.inl (some (.int v))) (HP X c1 m2 o) 0) (r : Runs 60 mL_law 2133 (lawL (N (4 * t))) [] (HP X c1 m2 o) res h2 kk) : Runs 60 mL_law 1953 (lawL (N (4 * t))) [] (HP X c m o) res h2 kk := by
  refine Runs.go 1 (cs := []) (pc' := 1954) (pl' := [some (.ref 1000), some (.ref 0), some (.ref 23), some (.ref 36), some (.int (N (4 * t))), none, none, none, none]) (st' := [.ref 0]) (h' := (HP X c m o)) rfl trivial ?_
  refine Runs.cal (y := mX6_culprit) (as := [.ref 0]) (rest := []) (pc' := 1957) (cs := []) (v := some (.int v)) (h1 := (HP X c1 m o)) rfl trivial (by decide) hL ?_
  show Runs _ _ 1957 _ [.int v] _ _ _ _
  refine Runs.go 1 (cs := []) (pc' := 1958) (pl' := [some (.ref 1000), some (.ref 0), some (.ref 23), some (.ref 36), some (.int (N (4 * t))), none, none, none, none]) (st' := [.ref 23, .int v]) (h' := (HP X c1 m o)) rfl trivial ?_
  refine Runs.cal (y := mX7_culprit) (as := [.ref 23]) (rest := [.int v]) (pc' := 1961) (cs := []) (v := some (.int v)) (h1 := (HP X c1 m2 o)) rfl trivial (by decide) hR ?_
  show Runs _ _ 1961 _ [.int v, .int v] _ _ _ _
  refine Runs.go 1 (cs := []) (pc' := bif decide (v = v) then 2133 else 1964) (pl' := [some (.ref 1000), some (.ref 0), some (.ref 23), some (.ref 36), some (.int (N (4 * t))), none, none, none, none]) (st' := []) (h' := (HP X c1 m2 o)) rfl trivial ?_
  exact Runs.brT (decide_eq_true rfl) (law_wk r)
theorem w_barredBy {X : Nat × (Nat → Int32)} {t : Nat} {c c1 : CT} {m m2 : MT} {o o1 : Nat → Int64} {res : Option Value ⊕ String} {h2 : PH} {e w : Int32} {k kk : Nat} (hX : X.1 ≤ 2048) (ht : 4 * t + 4 ≤ X.1) (hL : Call 31 mL_barredBy [.ref 0, .int (X.2 (4 * t + 1)), .ref 36] (HP X c m o) (.inl (some (.int e))) (HP X c1 m o1) k) (hR : Call 30 mX7_barredBy [.ref 23, .int (X.2 (4 * t + 1))] (HP X c1 m o1) (.inl (some (.int w))) (HP X c1 m2 o1) 0) (hth : thZ m2 = e) (hv : e = 0 → o1 0 = w.toInt64) (r : Runs 60 mL_law 2133 (lawL (N (4 * t))) [] (HP X c1 m2 o1) res h2 kk) : Runs 60 mL_law 1966 (lawL (N (4 * t))) [] (HP X c m o) res h2 (k + kk) := by
  refine Runs.topI 6 (cs := [vp_in (N (4 * t) + N 1) X.1]) (pc' := 1973) (pl' := [some (.ref 1000), some (.ref 0), some (.ref 23), some (.ref 36), some (.int (N (4 * t))), none, none, none, none]) (v := X.2 (N (4 * t) + N 1).toNatClampNeg) (v' := X.2 (4 * t + 1)) (st' := [.ref 0]) (h' := (HP X c m o)) rfl ⟨xs_in (by omega) hX, trivial⟩ (xs_at (by omega)) ?_
  refine Runs.go 1 (cs := []) (pc' := 1974) (pl' := [some (.ref 1000), some (.ref 0), some (.ref 23), some (.ref 36), some (.int (N (4 * t))), none, none, none, none]) (st' := [.ref 36, .int (X.2 (4 * t + 1)), .ref 0]) (h' := (HP X c m o)) rfl trivial ?_
  refine Runs.call (y := mL_barredBy) (as := [.ref 0, .int (X.2 (4 * t + 1)), .ref 36]) (rest := []) (pc' := 1977) (cs := []) (v := some (.int e)) (h1 := (HP X c1 m o1)) rfl trivial (by decide) hL ?_
  show Runs _ _ 1977 _ [.int e] _ _ _ _
  refine Runs.go 1 (cs := []) (pc' := 1979) (pl' := [some (.ref 1000), some (.ref 0), some (.ref 23), some (.ref 36), some (.int (N (4 * t))), some (.int e), none, none, none]) (st' := []) (h' := (HP X c1 m o1)) rfl trivial ?_
  refine Runs.topI 6 (cs := [vp_in (N (4 * t) + N 1) X.1]) (pc' := 1986) (pl' := [some (.ref 1000), some (.ref 0), some (.ref 23), some (.ref 36), some (.int (N (4 * t))), some (.int e), none, none, none]) (v := X.2 (N (4 * t) + N 1).toNatClampNeg) (v' := X.2 (4 * t + 1)) (st' := [.ref 23]) (h' := (HP X c1 m o1)) rfl ⟨xs_in (by omega) hX, trivial⟩ (xs_at (by omega)) ?_
  refine Runs.cal (y := mX7_barredBy) (as := [.ref 23, .int (X.2 (4 * t + 1))]) (rest := []) (pc' := 1989) (cs := []) (v := some (.int w)) (h1 := (HP X c1 m2 o1)) rfl trivial (by decide) hR ?_
  show Runs _ _ 1989 _ [.int w] _ _ _ _
  refine Runs.go 2 (cs := []) (pc' := 1992) (pl' := [some (.ref 1000), some (.ref 0), some (.ref 23), some (.ref 36), some (.int (N (4 * t))), some (.int e), some (.int w), none, none]) (st' := [.ref 23]) (h' := (HP X c1 m2 o1)) rfl trivial ?_
  refine Runs.cal (y := mX7_thrown) (as := [.ref 23]) (rest := []) (pc' := 1995) (cs := []) (v := some (.int (thZ m2))) (h1 := (HP X c1 m2 o1)) rfl trivial (by decide) k_thr ?_
  show Runs _ _ 1995 _ [.int (thZ m2)] _ _ _ _
  refine Runs.go 2 (cs := []) (pc' := bif decide (thZ m2 = e) then 2002 else 2000) (pl' := [some (.ref 1000), some (.ref 0), some (.ref 23), some (.ref 36), some (.int (N (4 * t))), some (.int e), some (.int w), none, none]) (st' := []) (h' := (HP X c1 m2 o1)) rfl trivial ?_
  refine Runs.brT (decide_eq_true hth) ?_
  refine Runs.go 2 (cs := []) (pc' := bif decide (¬ e = 0) then 2019 else 2007) (pl' := [some (.ref 1000), some (.ref 0), some (.ref 23), some (.ref 36), some (.int (N (4 * t))), some (.int e), some (.int w), none, none]) (st' := []) (h' := (HP X c1 m2 o1)) rfl trivial ?_
  refine Runs.br (fun _ => ?_) (fun z => ?_)
  · refine Runs.go 1 (cs := []) (pc' := 2133) (pl' := [some (.ref 1000), some (.ref 0), some (.ref 23), some (.ref 36), some (.int (N (4 * t))), some (.int e), some (.int w), none, none]) (st' := []) (h' := (HP X c1 m2 o1)) rfl trivial ?_
    exact law_wk r
  · replace z : e = 0 := Classical.not_not.mp (of_decide_eq_false z)
    refine Runs.go 7 (cs := [vp_in (N 0) 1]) (pc' := bif decide (lg_cmp (o1 (N 0).toNatClampNeg) (w.toInt64) = 0) then 2019 else 2017) (pl' := [some (.ref 1000), some (.ref 0), some (.ref 23), some (.ref 36), some (.int (N (4 * t))), some (.int e), some (.int w), none, none]) (st' := []) (h' := (HP X c1 m2 o1)) rfl ⟨(N_in (by decide) (by decide)), trivial⟩ ?_
    refine Runs.brT (decide_eq_true (by rw [show o1 (N 0).toNatClampNeg = w.toInt64 from hv z]; exact lg_same _)) ?_
    refine Runs.go 1 (cs := []) (pc' := 2133) (pl' := [some (.ref 1000), some (.ref 0), some (.ref 23), some (.ref 36), some (.int (N (4 * t))), some (.int e), some (.int w), none, none]) (st' := []) (h' := (HP X c1 m2 o1)) rfl trivial ?_
    exact law_wk r
theorem w_isPlain {X : Nat × (Nat → Int32)} {t : Nat} {c c1 : CT} {m m2 : MT} {o : Nat → Int64} {res : Option Value ⊕ String} {h2 : PH} {v : Int32} {kk : Nat} (hL : Call 30 mX6_isPlain [.ref 0] (HP X c m o) (.inl (some (.int v))) (HP X c1 m o) 0) (hR : Call 30 mX7_isPlain [.ref 23] (HP X c1 m o) (.inl (some (.int v))) (HP X c1 m2 o) 0) (r : Runs 60 mL_law 2133 (lawL (N (4 * t))) [] (HP X c1 m2 o) res h2 kk) : Runs 60 mL_law 2022 (lawL (N (4 * t))) [] (HP X c m o) res h2 kk := by
  refine Runs.go 1 (cs := []) (pc' := 2023) (pl' := [some (.ref 1000), some (.ref 0), some (.ref 23), some (.ref 36), some (.int (N (4 * t))), none, none, none, none]) (st' := [.ref 0]) (h' := (HP X c m o)) rfl trivial ?_
  refine Runs.cal (y := mX6_isPlain) (as := [.ref 0]) (rest := []) (pc' := 2026) (cs := []) (v := some (.int v)) (h1 := (HP X c1 m o)) rfl trivial (by decide) hL ?_
  show Runs _ _ 2026 _ [.int v] _ _ _ _
  refine Runs.go 1 (cs := []) (pc' := 2027) (pl' := [some (.ref 1000), some (.ref 0), some (.ref 23), some (.ref 36), some (.int (N (4 * t))), none, none, none, none]) (st' := [.ref 23, .int v]) (h' := (HP X c1 m o)) rfl trivial ?_
  refine Runs.cal (y := mX7_isPlain) (as := [.ref 23]) (rest := [.int v]) (pc' := 2030) (cs := []) (v := some (.int v)) (h1 := (HP X c1 m2 o)) rfl trivial (by decide) hR ?_
  show Runs _ _ 2030 _ [.int v, .int v] _ _ _ _
  refine Runs.go 1 (cs := []) (pc' := bif decide (v = v) then 2133 else 2033) (pl' := [some (.ref 1000), some (.ref 0), some (.ref 23), some (.ref 36), some (.int (N (4 * t))), none, none, none, none]) (st' := []) (h' := (HP X c1 m2 o)) rfl trivial ?_
  exact Runs.brT (decide_eq_true rfl) (law_wk r)
theorem w_digest {X : Nat × (Nat → Int32)} {t : Nat} {c c1 : CT} {m m2 : MT} {o : Nat → Int64} {res : Option Value ⊕ String} {h2 : PH} {v : Int64} {kk : Nat} (hL : Call 30 mX6_digest [.ref 0] (HP X c m o) (.inl (some (.long v))) (HP X c1 m o) 0) (hR : Call 30 mX7_digest [.ref 23] (HP X c1 m o) (.inl (some (.long v))) (HP X c1 m2 o) 0) (r : Runs 60 mL_law 2133 (lawL (N (4 * t))) [] (HP X c1 m2 o) res h2 kk) : Runs 60 mL_law 2119 (lawL (N (4 * t))) [] (HP X c m o) res h2 kk := by
  refine Runs.go 1 (cs := []) (pc' := 2120) (pl' := [some (.ref 1000), some (.ref 0), some (.ref 23), some (.ref 36), some (.int (N (4 * t))), none, none, none, none]) (st' := [.ref 0]) (h' := (HP X c m o)) rfl trivial ?_
  refine Runs.cal (y := mX6_digest) (as := [.ref 0]) (rest := []) (pc' := 2123) (cs := []) (v := some (.long v)) (h1 := (HP X c1 m o)) rfl trivial (by decide) hL ?_
  show Runs _ _ 2123 _ [.long v] _ _ _ _
  refine Runs.go 1 (cs := []) (pc' := 2124) (pl' := [some (.ref 1000), some (.ref 0), some (.ref 23), some (.ref 36), some (.int (N (4 * t))), none, none, none, none]) (st' := [.ref 23, .long v]) (h' := (HP X c1 m o)) rfl trivial ?_
  refine Runs.cal (y := mX7_digest) (as := [.ref 23]) (rest := [.long v]) (pc' := 2127) (cs := []) (v := some (.long v)) (h1 := (HP X c1 m2 o)) rfl trivial (by decide) hR ?_
  show Runs _ _ 2127 _ [.long v, .long v] _ _ _ _
  refine Runs.go 2 (cs := []) (pc' := bif decide (lg_cmp v v = 0) then 2133 else 2131) (pl' := [some (.ref 1000), some (.ref 0), some (.ref 23), some (.ref 36), some (.int (N (4 * t))), none, none, none, none]) (st' := []) (h' := (HP X c1 m2 o)) rfl trivial ?_
  exact Runs.brT (decide_eq_true (lg_same v)) (law_wk r)
