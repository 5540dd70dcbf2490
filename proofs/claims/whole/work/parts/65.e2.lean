/-! THE REFERENCE: how it reads a text (gen_e2.py) -/
/-- the sign that is read; one step; a letter and a digit read -/
def sgx (c : Nat → Nat) (n : Nat) (x : Nat × Bool) : Nat := if x.2 = false ∧ x.1 < n then c x.1 else 0
def stp (b : Bool) (x : Nat × Bool) : Nat × Bool := (if (x.2 || !b) = true then x.1 else x.1 + 1, x.2 || !b)
def itx (c : Nat → Nat) (n : Nat) (x : Nat × Bool) : Int32 := N (sgx c n x) - N 65
def dgx (c : Nat → Nat) (n : Nat) (x : Nat × Bool) : Int32 := N (sgx c n x) - N 48
def lBx (c : Nat → Nat) (n : Nat) (x : Nat × Bool) (u v : Int32) : Bool := inB (itx c n x) (N 0) (N 11) && !decide (itx c n x = u) && !decide (itx c n x = v)
def dBx (c : Nat → Nat) (n : Nat) (x : Nat × Bool) : Bool := inB (dgx c n x) (N 0) (N 3)
def ltx (c : Nat → Nat) (n : Nat) (x : Nat × Bool) (u v : Int32) : Nat × Bool := stp (lBx c n x u v) x
def dtx (c : Nat → Nat) (n : Nat) (x : Nat × Bool) : Nat × Bool := stp (dBx c n x) x
def soN (v : Nat) : Nat := if v = 61 then 0 else if v = 35 then 1 else if v = 60 then 2 else if v = 126 then 3 else if v = 64 then 4 else if v = 33 then 5 else 6
/-- a buffer -/
def BF (c : Nat → Nat) (n : Nat) : Prop := n ≤ 60 ∧ ∀ i, i < n → 33 ≤ c i ∧ c i ≤ 126
theorem sgx_le {c : Nat → Nat} {n : Nat} (hB : BF c n) (x : Nat × Bool) : sgx c n x ≤ 126 := by
  unfold sgx
  split
  next h => exact (hB.2 _ h.2).2
  next => decide
theorem stp_le {b : Bool} {x : Nat × Bool} {n : Nat} (h : x.1 ≤ n) (hb : b = true → x.2 = false → x.1 < n) : (stp b x).1 ≤ n := by
  unfold stp
  cases hx : x.2 with
  | true =>
    show (if (true || !b) = true then x.1 else x.1 + 1) ≤ n
    rw [Bool.true_or, if_pos rfl]
    exact h
  | false =>
    cases hb2 : b with
    | true => exact hb hb2 hx
    | false => exact h
theorem out_65 : inB (N 0 - N 65) (N 0) (N 11) = false := by decide +kernel
theorem out_48 : inB (N 0 - N 48) (N 0) (N 3) = false := by decide +kernel
theorem lt_le {c : Nat → Nat} {n : Nat} {x : Nat × Bool} {u v : Int32} (h : x.1 ≤ n) : (ltx c n x u v).1 ≤ n := stp_le h (fun hb hx => by
  by_cases hl : x.1 < n
  · exact hl
  · have e : itx c n x = N 0 - N 65 := by
      unfold itx sgx
      rw [if_neg (fun z => hl z.2)]
    unfold lBx at hb
    rw [e, out_65] at hb
    cases hb)
theorem dt_le {c : Nat → Nat} {n : Nat} {x : Nat × Bool} (h : x.1 ≤ n) : (dtx c n x).1 ≤ n := stp_le h (fun hb hx => by
  by_cases hl : x.1 < n
  · exact hl
  · have e : dgx c n x = N 0 - N 48 := by
      unfold dgx sgx
      rw [if_neg (fun z => hl z.2)]
    unfold dBx at hb
    rw [e, out_48] at hb
    cases hb)
theorem k_sign {X : Nat × (Nat → Int32)} {c : CT} {S bf : Nat → Nat} {kn : Nat} {kp : Nat → Nat} {ik : Bool} {od bu : Nat → Nat} {le th : Nat} {mk ol : Nat → Nat} {tu : Nat} {ib : Bool} {sp : Nat → Nat} {so : Nat} {al br tr : Nat → Nat} {x : Nat × Bool} {ha : Int64} {se : Nat → Int32} {o : Nat → Int64} (hB : BF bu le) (hx : x.1 ≤ le) : Call 0 mX7_sign [.ref 23] (MP X c S bf kn kp ik od bu le th mk ol tu ib sp so al br tr x.1 x.2 ha se o) (.inl (some (.int (N (sgx bu le x))))) (MP X c S bf kn kp ik od bu le th mk ol tu ib sp so al br tr x.1 x.2 ha se o) 0 := by
  have hle := hB.1
  refine Runs.go 3 (cs := []) (pc' := bif decide (¬ (bI x.2) = 0) then 30 else 7) (pl' := [some (.ref 23)]) (st' := []) (h' := (MP X c S bf kn kp ik od bu le th mk ol tu ib sp so al br tr x.1 x.2 ha se o)) rfl trivial ?_
  refine Runs.br (fun z1 => ?_) (fun z1 => ?_)
  · replace z1 : ¬ (x.2 = false) := mt (bI_0 _).mpr (of_decide_eq_true z1)
    refine Runs.go 1 (cs := []) (pc' := 31) (pl' := [some (.ref 23)]) (st' := [.int (N 0)]) (h' := (MP X c S bf kn kp ik od bu le th mk ol tu ib sp so al br tr x.1 x.2 ha se o)) rfl trivial ?_
    refine Runs.retE (cs := []) rfl trivial (retI (congrArg N ?_)) rfl
    exact if_neg (fun zq => by have := zq.1; have := zq.2; first | omega | simp_all)
  · replace z1 : x.2 = false := (bI_0 _).mp (Classical.not_not.mp (of_decide_eq_false z1))
    refine Runs.go 5 (cs := []) (pc' := bif decide ((N le) ≤ (N x.1)) then 30 else 18) (pl' := [some (.ref 23)]) (st' := []) (h' := (MP X c S bf kn kp ik od bu le th mk ol tu ib sp so al br tr x.1 x.2 ha se o)) rfl trivial ?_
    refine Runs.br (fun z2 => ?_) (fun z2 => ?_)
    · replace z2 : le ≤ x.1 := (N_le (a := le) (b := x.1) (by omega) (by omega)).mp (of_decide_eq_true z2)
      refine Runs.go 1 (cs := []) (pc' := 31) (pl' := [some (.ref 23)]) (st' := [.int (N 0)]) (h' := (MP X c S bf kn kp ik od bu le th mk ol tu ib sp so al br tr x.1 x.2 ha se o)) rfl trivial ?_
      refine Runs.retE (cs := []) rfl trivial (retI (congrArg N ?_)) rfl
      exact if_neg (fun zq => by have := zq.1; have := zq.2; first | omega | simp_all)
    · replace z2 : ¬ (le ≤ x.1) := mt (N_le (a := le) (b := x.1) (by omega) (by omega)).mpr (of_decide_eq_false z2)
      refine Runs.topI 5 (cs := [vp_in (N x.1) 60]) (pc' := 27) (pl' := [some (.ref 23)]) (v := aN bu (N x.1).toNatClampNeg) (v' := N (bu x.1)) (st' := []) (h' := (MP X c S bf kn kp ik od bu le th mk ol tu ib sp so al br tr x.1 x.2 ha se o)) rfl ⟨(N_in (by omega) (by decide)), trivial⟩ (aN_at (by omega)) ?_
      refine Runs.go 1 (cs := []) (pc' := 31) (pl' := [some (.ref 23)]) (st' := [.int (N (bu x.1))]) (h' := (MP X c S bf kn kp ik od bu le th mk ol tu ib sp so al br tr x.1 x.2 ha se o)) rfl trivial ?_
      refine Runs.retE (cs := []) rfl trivial (retI (congrArg N ?_)) rfl
      exact if_pos ⟨z1, by omega⟩
theorem k_step {X : Nat × (Nat → Int32)} {c : CT} {S bf : Nat → Nat} {kn : Nat} {kp : Nat → Nat} {ik : Bool} {od bu : Nat → Nat} {le th : Nat} {mk ol : Nat → Nat} {tu : Nat} {ib : Bool} {sp : Nat → Nat} {so : Nat} {al br tr : Nat → Nat} {x : Nat × Bool} {ha : Int64} {se : Nat → Int32} {o : Nat → Int64} {b : Bool} (hx : x.1 < 1000) : Call 0 mX7_step [.ref 23, .int (bI b)] (MP X c S bf kn kp ik od bu le th mk ol tu ib sp so al br tr x.1 x.2 ha se o) (.inl none) (MP X c S bf kn kp ik od bu le th mk ol tu ib sp so al br tr ((stp b x).1) ((stp b x).2) ha se o) 0 := by
  refine Runs.go 2 (cs := []) (pc' := 2) (pl' := [some (.ref 23), some (.int (bI b))]) (st' := [.ref 23, .ref 23]) (h' := (MP X c S bf kn kp ik od bu le th mk ol tu ib sp so al br tr x.1 x.2 ha se o)) rfl trivial ?_
  refine Runs.join 17 [some (.ref 23), some (.int (bI b))] [.int (bI (x.2 || !b)), .ref 23] (MP X c S bf kn kp ik od bu le th mk ol tu ib sp so al br tr x.1 x.2 ha se o) (fun J1 => ?_) ?_
  · show Runs _ _ 2 _ _ _ _ _ _
    refine Runs.go 2 (cs := []) (pc' := bif decide (¬ (bI x.2) = 0) then 12 else 8) (pl' := [some (.ref 23), some (.int (bI b))]) (st' := [.ref 23]) (h' := (MP X c S bf kn kp ik od bu le th mk ol tu ib sp so al br tr x.1 x.2 ha se o)) rfl trivial ?_
    refine Runs.br (fun z1 => ?_) (fun z1 => ?_)
    · replace z1 : ¬ (x.2 = false) := mt (bI_0 _).mpr (of_decide_eq_true z1)
      refine Runs.go 2 (cs := []) (pc' := 17) (pl' := [some (.ref 23), some (.int (bI b))]) (st' := [.int (N 1), .ref 23]) (h' := (MP X c S bf kn kp ik od bu le th mk ol tu ib sp so al br tr x.1 x.2 ha se o)) rfl trivial ?_
      exact Runs.wk (pl' := [some (.ref 23), some (.int (bI b))]) (st' := [.int (bI (x.2 || !b)), .ref 23]) (h' := (MP X c S bf kn kp ik od bu le th mk ol tu ib sp so al br tr x.1 x.2 ha se o)) ⟨Or.inr rfl, Or.inr rfl, trivial⟩ (congrArg (fun zq9 => ([.int zq9, .ref 23] : List Value)) (bIT (by simp [z1])).symm) rfl J1
    · replace z1 : x.2 = false := (bI_0 _).mp (Classical.not_not.mp (of_decide_eq_false z1))
      refine Runs.go 2 (cs := []) (pc' := bif decide (¬ (bI b) = 0) then 16 else 12) (pl' := [some (.ref 23), some (.int (bI b))]) (st' := [.ref 23]) (h' := (MP X c S bf kn kp ik od bu le th mk ol tu ib sp so al br tr x.1 x.2 ha se o)) rfl trivial ?_
      refine Runs.br (fun z2 => ?_) (fun z2 => ?_)
      · replace z2 : ¬ (b = false) := mt (bI_0 _).mpr (of_decide_eq_true z2)
        refine Runs.go 1 (cs := []) (pc' := 17) (pl' := [some (.ref 23), some (.int (bI b))]) (st' := [.int (N 0), .ref 23]) (h' := (MP X c S bf kn kp ik od bu le th mk ol tu ib sp so al br tr x.1 x.2 ha se o)) rfl trivial ?_
        exact Runs.wk (pl' := [some (.ref 23), some (.int (bI b))]) (st' := [.int (bI (x.2 || !b)), .ref 23]) (h' := (MP X c S bf kn kp ik od bu le th mk ol tu ib sp so al br tr x.1 x.2 ha se o)) ⟨Or.inr rfl, Or.inr rfl, trivial⟩ (congrArg (fun zq9 => ([.int zq9, .ref 23] : List Value)) (bIF (by simp [z1, z2])).symm) rfl J1
      · replace z2 : b = false := (bI_0 _).mp (Classical.not_not.mp (of_decide_eq_false z2))
        refine Runs.go 2 (cs := []) (pc' := 17) (pl' := [some (.ref 23), some (.int (bI b))]) (st' := [.int (N 1), .ref 23]) (h' := (MP X c S bf kn kp ik od bu le th mk ol tu ib sp so al br tr x.1 x.2 ha se o)) rfl trivial ?_
        exact Runs.wk (pl' := [some (.ref 23), some (.int (bI b))]) (st' := [.int (bI (x.2 || !b)), .ref 23]) (h' := (MP X c S bf kn kp ik od bu le th mk ol tu ib sp so al br tr x.1 x.2 ha se o)) ⟨Or.inr rfl, Or.inr rfl, trivial⟩ (congrArg (fun zq9 => ([.int zq9, .ref 23] : List Value)) (bIT (by simp [z1, z2])).symm) rfl J1
  refine Runs.go 7 (cs := [(bI (x.2 || !b) : Int32) = 0 ∨ (bI (x.2 || !b) : Int32) = 1]) (pc' := bif decide ((bI (x.2 || !b)) = 0) then 36 else 32) (pl' := [some (.ref 23), some (.int (bI b))]) (st' := [.int (N x.1), .ref 23]) (h' := (MP X c S bf kn kp ik od bu le th mk ol tu ib sp so al br tr x.1 (x.2 || !b) ha se o)) rfl ⟨(bI_01 _), trivial⟩ ?_
  refine Runs.br (fun z3 => ?_) (fun z3 => ?_)
  · replace z3 : (x.2 || !b) = false := (bI_0 _).mp (of_decide_eq_true z3)
    refine Runs.topI 2 (cs := []) (pc' := 38) (pl' := [some (.ref 23), some (.int (bI b))]) (v := (N x.1) + (N 1)) (v' := N (x.1 + 1)) (st' := [.ref 23]) (h' := (MP X c S bf kn kp ik od bu le th mk ol tu ib sp so al br tr x.1 (x.2 || !b) ha se o)) rfl trivial (NA (by omega)) ?_
    refine Runs.go 1 (cs := []) (pc' := 41) (pl' := [some (.ref 23), some (.int (bI b))]) (st' := []) (h' := (MP X c S bf kn kp ik od bu le th mk ol tu ib sp so al br tr (x.1 + 1) (x.2 || !b) ha se o)) rfl trivial ?_
    exact Runs.retE (cs := []) rfl trivial rfl (by rw [show (stp b x).1 = (if (x.2 || !b) = true then x.1 else x.1 + 1) from rfl, if_neg (by rw [z3]; decide)]; rfl)
  · replace z3 : ¬ ((x.2 || !b) = false) := mt (bI_0 _).mpr (of_decide_eq_false z3)
    refine Runs.topI 3 (cs := []) (pc' := 38) (pl' := [some (.ref 23), some (.int (bI b))]) (v := (N x.1) + (N 0)) (v' := N x.1) (st' := [.ref 23]) (h' := (MP X c S bf kn kp ik od bu le th mk ol tu ib sp so al br tr x.1 (x.2 || !b) ha se o)) rfl trivial (NA (by omega)) ?_
    refine Runs.go 1 (cs := []) (pc' := 41) (pl' := [some (.ref 23), some (.int (bI b))]) (st' := []) (h' := (MP X c S bf kn kp ik od bu le th mk ol tu ib sp so al br tr x.1 (x.2 || !b) ha se o)) rfl trivial ?_
    exact Runs.retE (cs := []) rfl trivial rfl (by rw [show (stp b x).1 = (if (x.2 || !b) = true then x.1 else x.1 + 1) from rfl, if_pos (bT z3)]; rfl)
theorem k_letter {X : Nat × (Nat → Int32)} {c : CT} {S bf : Nat → Nat} {kn : Nat} {kp : Nat → Nat} {ik : Bool} {od bu : Nat → Nat} {le th : Nat} {mk ol : Nat → Nat} {tu : Nat} {ib : Bool} {sp : Nat → Nat} {so : Nat} {al br tr : Nat → Nat} {x : Nat × Bool} {ha : Int64} {se : Nat → Int32} {o : Nat → Int64} {u v : Int32} (hB : BF bu le) (hx : x.1 ≤ le) : Call 2 mX7_letter [.ref 23, .int u, .int v] (MP X c S bf kn kp ik od bu le th mk ol tu ib sp so al br tr x.1 x.2 ha se o) (.inl (some (.int (itx bu le x)))) (MP X c S bf kn kp ik od bu le th mk ol tu ib sp so al br tr ((ltx bu le x u v).1) ((ltx bu le x u v).2) ha se o) 0 := by
  refine Runs.go 1 (cs := []) (pc' := 1) (pl' := [some (.ref 23), some (.int u), some (.int v), none]) (st' := [.ref 23]) (h' := (MP X c S bf kn kp ik od bu le th mk ol tu ib sp so al br tr x.1 x.2 ha se o)) rfl trivial ?_
  refine Runs.cal (y := mX7_sign) (as := [.ref 23]) (rest := []) (pc' := 4) (cs := []) (v := some (.int (N (sgx bu le x)))) (h1 := (MP X c S bf kn kp ik od bu le th mk ol tu ib sp so al br tr x.1 x.2 ha se o)) rfl trivial (by decide) (k_sign (x := x) hB hx) ?_
  show Runs _ _ 4 _ [.int (N (sgx bu le x))] _ _ _ _
  have hs1 := sgx_le hB x
  refine Runs.topI 2 (cs := []) (pc' := 7) (pl' := [some (.ref 23), some (.int u), some (.int v), none]) (v := (N (sgx bu le x)) - (N 65)) (v' := itx bu le x) (st' := []) (h' := (MP X c S bf kn kp ik od bu le th mk ol tu ib sp so al br tr x.1 x.2 ha se o)) rfl trivial rfl ?_
  refine Runs.go 3 (cs := []) (pc' := 10) (pl' := [some (.ref 23), some (.int u), some (.int v), some (.int (itx bu le x))]) (st' := [.int (itx bu le x), .ref 23]) (h' := (MP X c S bf kn kp ik od bu le th mk ol tu ib sp so al br tr x.1 x.2 ha se o)) rfl trivial ?_
  refine Runs.cal (y := mX7_isItem) (as := [.int (itx bu le x)]) (rest := [.ref 23]) (pc' := 13) (cs := []) (v := some (.int (bI (inB (itx bu le x) (N 0) (N 11))))) (h1 := (MP X c S bf kn kp ik od bu le th mk ol tu ib sp so al br tr x.1 x.2 ha se o)) rfl trivial (by decide) (k_isItem) ?_
  show Runs _ _ 13 _ [.int (bI (inB (itx bu le x) (N 0) (N 11))), .ref 23] _ _ _ _
  refine Runs.join 31 [some (.ref 23), some (.int u), some (.int v), some (.int (itx bu le x))] [.int (bI (lBx bu le x u v)), .ref 23] (MP X c S bf kn kp ik od bu le th mk ol tu ib sp so al br tr x.1 x.2 ha se o) (fun J1 => ?_) ?_
  · show Runs _ _ 13 _ _ _ _ _ _
    refine Runs.go 1 (cs := []) (pc' := bif decide ((bI (inB (itx bu le x) (N 0) (N 11))) = 0) then 30 else 16) (pl' := [some (.ref 23), some (.int u), some (.int v), some (.int (itx bu le x))]) (st' := [.ref 23]) (h' := (MP X c S bf kn kp ik od bu le th mk ol tu ib sp so al br tr x.1 x.2 ha se o)) rfl trivial ?_
    refine Runs.br (fun z1 => ?_) (fun z1 => ?_)
    · replace z1 : (inB (itx bu le x) (N 0) (N 11)) = false := (bI_0 _).mp (of_decide_eq_true z1)
      refine Runs.go 1 (cs := []) (pc' := 31) (pl' := [some (.ref 23), some (.int u), some (.int v), some (.int (itx bu le x))]) (st' := [.int (N 0), .ref 23]) (h' := (MP X c S bf kn kp ik od bu le th mk ol tu ib sp so al br tr x.1 x.2 ha se o)) rfl trivial ?_
      exact Runs.wk (pl' := [some (.ref 23), some (.int u), some (.int v), some (.int (itx bu le x))]) (st' := [.int (bI (lBx bu le x u v)), .ref 23]) (h' := (MP X c S bf kn kp ik od bu le th mk ol tu ib sp so al br tr x.1 x.2 ha se o)) ⟨Or.inr rfl, Or.inr rfl, Or.inr rfl, Or.inr rfl, trivial⟩ (congrArg (fun zq9 => ([.int zq9, .ref 23] : List Value)) (bIF (by simp [lBx, z1])).symm) rfl J1
    · replace z1 : ¬ ((inB (itx bu le x) (N 0) (N 11)) = false) := mt (bI_0 _).mpr (of_decide_eq_false z1)
      refine Runs.go 3 (cs := []) (pc' := bif decide ((itx bu le x) = u) then 30 else 21) (pl' := [some (.ref 23), some (.int u), some (.int v), some (.int (itx bu le x))]) (st' := [.ref 23]) (h' := (MP X c S bf kn kp ik od bu le th mk ol tu ib sp so al br tr x.1 x.2 ha se o)) rfl trivial ?_
      refine Runs.br (fun z2 => ?_) (fun z2 => ?_)
      · replace z2 : (itx bu le x) = u := Iff.rfl.mp (of_decide_eq_true z2)
        refine Runs.go 1 (cs := []) (pc' := 31) (pl' := [some (.ref 23), some (.int u), some (.int v), some (.int (itx bu le x))]) (st' := [.int (N 0), .ref 23]) (h' := (MP X c S bf kn kp ik od bu le th mk ol tu ib sp so al br tr x.1 x.2 ha se o)) rfl trivial ?_
        exact Runs.wk (pl' := [some (.ref 23), some (.int u), some (.int v), some (.int (itx bu le x))]) (st' := [.int (bI (lBx bu le x u v)), .ref 23]) (h' := (MP X c S bf kn kp ik od bu le th mk ol tu ib sp so al br tr x.1 x.2 ha se o)) ⟨Or.inr rfl, Or.inr rfl, Or.inr rfl, Or.inr rfl, trivial⟩ (congrArg (fun zq9 => ([.int zq9, .ref 23] : List Value)) (bIF (by simp [lBx, z1, z2])).symm) rfl J1
      · replace z2 : ¬ ((itx bu le x) = u) := mt Iff.rfl.mpr (of_decide_eq_false z2)
        refine Runs.go 3 (cs := []) (pc' := bif decide ((itx bu le x) = v) then 30 else 26) (pl' := [some (.ref 23), some (.int u), some (.int v), some (.int (itx bu le x))]) (st' := [.ref 23]) (h' := (MP X c S bf kn kp ik od bu le th mk ol tu ib sp so al br tr x.1 x.2 ha se o)) rfl trivial ?_
        refine Runs.br (fun z3 => ?_) (fun z3 => ?_)
        · replace z3 : (itx bu le x) = v := Iff.rfl.mp (of_decide_eq_true z3)
          refine Runs.go 1 (cs := []) (pc' := 31) (pl' := [some (.ref 23), some (.int u), some (.int v), some (.int (itx bu le x))]) (st' := [.int (N 0), .ref 23]) (h' := (MP X c S bf kn kp ik od bu le th mk ol tu ib sp so al br tr x.1 x.2 ha se o)) rfl trivial ?_
          exact Runs.wk (pl' := [some (.ref 23), some (.int u), some (.int v), some (.int (itx bu le x))]) (st' := [.int (bI (lBx bu le x u v)), .ref 23]) (h' := (MP X c S bf kn kp ik od bu le th mk ol tu ib sp so al br tr x.1 x.2 ha se o)) ⟨Or.inr rfl, Or.inr rfl, Or.inr rfl, Or.inr rfl, trivial⟩ (congrArg (fun zq9 => ([.int zq9, .ref 23] : List Value)) (bIF (by simp [lBx, z1, z2, z3])).symm) rfl J1
        · replace z3 : ¬ ((itx bu le x) = v) := mt Iff.rfl.mpr (of_decide_eq_false z3)
          refine Runs.go 2 (cs := []) (pc' := 31) (pl' := [some (.ref 23), some (.int u), some (.int v), some (.int (itx bu le x))]) (st' := [.int (N 1), .ref 23]) (h' := (MP X c S bf kn kp ik od bu le th mk ol tu ib sp so al br tr x.1 x.2 ha se o)) rfl trivial ?_
          exact Runs.wk (pl' := [some (.ref 23), some (.int u), some (.int v), some (.int (itx bu le x))]) (st' := [.int (bI (lBx bu le x u v)), .ref 23]) (h' := (MP X c S bf kn kp ik od bu le th mk ol tu ib sp so al br tr x.1 x.2 ha se o)) ⟨Or.inr rfl, Or.inr rfl, Or.inr rfl, Or.inr rfl, trivial⟩ (congrArg (fun zq9 => ([.int zq9, .ref 23] : List Value)) (bIT (by simp [lBx, z1, z2, z3])).symm) rfl J1
  refine Runs.cal (y := mX7_step) (as := [.ref 23, .int (bI (lBx bu le x u v))]) (rest := []) (pc' := 34) (cs := []) (v := none) (h1 := (MP X c S bf kn kp ik od bu le th mk ol tu ib sp so al br tr ((stp (lBx bu le x u v) x).1) ((stp (lBx bu le x u v) x).2) ha se o)) rfl trivial (by decide) (k_step (x := x) (Nat.lt_of_le_of_lt hx (by have := hB.1; omega))) ?_
  show Runs _ _ 34 _ [] _ _ _ _
  refine Runs.go 1 (cs := []) (pc' := 35) (pl' := [some (.ref 23), some (.int u), some (.int v), some (.int (itx bu le x))]) (st' := [.int (itx bu le x)]) (h' := (MP X c S bf kn kp ik od bu le th mk ol tu ib sp so al br tr ((stp (lBx bu le x u v) x).1) ((stp (lBx bu le x u v) x).2) ha se o)) rfl trivial ?_
  exact Runs.retE (cs := []) rfl trivial (retI rfl) rfl
theorem k_digit {X : Nat × (Nat → Int32)} {c : CT} {S bf : Nat → Nat} {kn : Nat} {kp : Nat → Nat} {ik : Bool} {od bu : Nat → Nat} {le th : Nat} {mk ol : Nat → Nat} {tu : Nat} {ib : Bool} {sp : Nat → Nat} {so : Nat} {al br tr : Nat → Nat} {x : Nat × Bool} {ha : Int64} {se : Nat → Int32} {o : Nat → Int64} (hB : BF bu le) (hx : x.1 ≤ le) : Call 2 mX7_digit [.ref 23] (MP X c S bf kn kp ik od bu le th mk ol tu ib sp so al br tr x.1 x.2 ha se o) (.inl (some (.int (dgx bu le x)))) (MP X c S bf kn kp ik od bu le th mk ol tu ib sp so al br tr ((dtx bu le x).1) ((dtx bu le x).2) ha se o) 0 := by
  refine Runs.go 1 (cs := []) (pc' := 1) (pl' := [some (.ref 23), none]) (st' := [.ref 23]) (h' := (MP X c S bf kn kp ik od bu le th mk ol tu ib sp so al br tr x.1 x.2 ha se o)) rfl trivial ?_
  refine Runs.cal (y := mX7_sign) (as := [.ref 23]) (rest := []) (pc' := 4) (cs := []) (v := some (.int (N (sgx bu le x)))) (h1 := (MP X c S bf kn kp ik od bu le th mk ol tu ib sp so al br tr x.1 x.2 ha se o)) rfl trivial (by decide) (k_sign (x := x) hB hx) ?_
  show Runs _ _ 4 _ [.int (N (sgx bu le x))] _ _ _ _
  have hs1 := sgx_le hB x
  refine Runs.topI 2 (cs := []) (pc' := 7) (pl' := [some (.ref 23), none]) (v := (N (sgx bu le x)) - (N 48)) (v' := dgx bu le x) (st' := []) (h' := (MP X c S bf kn kp ik od bu le th mk ol tu ib sp so al br tr x.1 x.2 ha se o)) rfl trivial rfl ?_
  refine Runs.go 3 (cs := []) (pc' := 10) (pl' := [some (.ref 23), some (.int (dgx bu le x))]) (st' := [.int (dgx bu le x), .ref 23]) (h' := (MP X c S bf kn kp ik od bu le th mk ol tu ib sp so al br tr x.1 x.2 ha se o)) rfl trivial ?_
  refine Runs.cal (y := mX7_isPlace) (as := [.int (dgx bu le x)]) (rest := [.ref 23]) (pc' := 13) (cs := []) (v := some (.int (bI (dBx bu le x)))) (h1 := (MP X c S bf kn kp ik od bu le th mk ol tu ib sp so al br tr x.1 x.2 ha se o)) rfl trivial (by decide) (k_isPlace) ?_
  show Runs _ _ 13 _ [.int (bI (dBx bu le x)), .ref 23] _ _ _ _
  refine Runs.cal (y := mX7_step) (as := [.ref 23, .int (bI (dBx bu le x))]) (rest := []) (pc' := 16) (cs := []) (v := none) (h1 := (MP X c S bf kn kp ik od bu le th mk ol tu ib sp so al br tr ((stp (dBx bu le x) x).1) ((stp (dBx bu le x) x).2) ha se o)) rfl trivial (by decide) (k_step (x := x) (Nat.lt_of_le_of_lt hx (by have := hB.1; omega))) ?_
  show Runs _ _ 16 _ [] _ _ _ _
  refine Runs.go 1 (cs := []) (pc' := 17) (pl' := [some (.ref 23), some (.int (dgx bu le x))]) (st' := [.int (dgx bu le x)]) (h' := (MP X c S bf kn kp ik od bu le th mk ol tu ib sp so al br tr ((stp (dBx bu le x) x).1) ((stp (dBx bu le x) x).2) ha se o)) rfl trivial ?_
  exact Runs.retE (cs := []) rfl trivial (retI rfl) rfl
