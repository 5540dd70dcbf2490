/-! THE REFERENCE: its small methods (gen_k1.py) -/
theorem k_in {v a b : Int32} {h : PH} : Call 0 mX7_in [.int v, .int a, .int b] h (.inl (some (.int (bI (inB v a b))))) h 0 := by
  refine Runs.go 3 (cs := []) (pc' := bif decide (v < a) then 14 else 5) (pl' := [some (.int v), some (.int a), some (.int b)]) (st' := []) (h' := h) rfl trivial ?_
  refine Runs.br (fun z1 => ?_) (fun z1 => ?_)
  · replace z1 : v < a := Iff.rfl.mp (of_decide_eq_true z1)
    refine Runs.go 1 (cs := []) (pc' := 15) (pl' := [some (.int v), some (.int a), some (.int b)]) (st' := [.int (N 0)]) (h' := h) rfl trivial ?_
    refine Runs.retE (cs := [(N 0 : Int32) = 0 ∨ (N 0 : Int32) = 1]) rfl ⟨Or.inl rfl, trivial⟩ (retI (bIF ?_)) rfl
    simp [inB, Int32.not_le.mpr z1]
  · replace z1 : ¬ (v < a) := mt Iff.rfl.mpr (of_decide_eq_false z1)
    refine Runs.go 3 (cs := []) (pc' := bif decide (b < v) then 14 else 10) (pl' := [some (.int v), some (.int a), some (.int b)]) (st' := []) (h' := h) rfl trivial ?_
    refine Runs.br (fun z2 => ?_) (fun z2 => ?_)
    · replace z2 : b < v := Iff.rfl.mp (of_decide_eq_true z2)
      refine Runs.go 1 (cs := []) (pc' := 15) (pl' := [some (.int v), some (.int a), some (.int b)]) (st' := [.int (N 0)]) (h' := h) rfl trivial ?_
      refine Runs.retE (cs := [(N 0 : Int32) = 0 ∨ (N 0 : Int32) = 1]) rfl ⟨Or.inl rfl, trivial⟩ (retI (bIF ?_)) rfl
      first | (exfalso; omega) | (simp [inB, Int32.not_lt.mp z1, Int32.not_le.mpr z2])
    · replace z2 : ¬ (b < v) := mt Iff.rfl.mpr (of_decide_eq_false z2)
      refine Runs.go 2 (cs := []) (pc' := 15) (pl' := [some (.int v), some (.int a), some (.int b)]) (st' := [.int (N 1)]) (h' := h) rfl trivial ?_
      refine Runs.retE (cs := [(N 1 : Int32) = 0 ∨ (N 1 : Int32) = 1]) rfl ⟨Or.inr rfl, trivial⟩ (retI (bIT ?_)) rfl
      first | (exfalso; omega) | (simp [inB, Int32.not_lt.mp z1, Int32.not_lt.mp z2])
theorem k_isItem {v : Int32} {h : PH} : Call 1 mX7_isItem [.int v] h (.inl (some (.int (bI (inB v (N 0) (N 11)))))) h 0 := by
  refine Runs.go 3 (cs := []) (pc' := 4) (pl' := [some (.int v)]) (st' := [.int (N 11), .int (N 0), .int v]) (h' := h) rfl trivial ?_
  refine Runs.cal (y := mX7_in) (as := [.int v, .int (N 0), .int (N 11)]) (rest := []) (pc' := 7) (cs := []) (v := some (.int (bI (inB v (N 0) (N 11))))) (h1 := h) rfl trivial (by decide) (k_in) ?_
  show Runs _ _ 7 _ [.int (bI (inB v (N 0) (N 11)))] _ _ _ _
  exact Runs.retE (cs := [(bI (inB v (N 0) (N 11)) : Int32) = 0 ∨ (bI (inB v (N 0) (N 11)) : Int32) = 1]) rfl ⟨(bI_01 _), trivial⟩ (retI rfl) rfl
theorem k_isPlace {v : Int32} {h : PH} : Call 1 mX7_isPlace [.int v] h (.inl (some (.int (bI (inB v (N 0) (N 3)))))) h 0 := by
  refine Runs.go 3 (cs := []) (pc' := 3) (pl' := [some (.int v)]) (st' := [.int (N 3), .int (N 0), .int v]) (h' := h) rfl trivial ?_
  refine Runs.cal (y := mX7_in) (as := [.int v, .int (N 0), .int (N 3)]) (rest := []) (pc' := 6) (cs := []) (v := some (.int (bI (inB v (N 0) (N 3))))) (h1 := h) rfl trivial (by decide) (k_in) ?_
  show Runs _ _ 6 _ [.int (bI (inB v (N 0) (N 3)))] _ _ _ _
  exact Runs.retE (cs := [(bI (inB v (N 0) (N 3)) : Int32) = 0 ∨ (bI (inB v (N 0) (N 3)) : Int32) = 1]) rfl ⟨(bI_01 _), trivial⟩ (retI rfl) rfl
theorem k_bits {m : Nat} {h : PH} (hm : m < 16) : Call 0 mX7_bits [.int (N m)] h (.inl (some (.int (N (pc4 m))))) h 0 := by
  refine Runs.topI 3 (cs := []) (pc' := 3) (pl' := [some (.int (N m))]) (v := (N m) &&& (N 1)) (v' := N (m % 2)) (st' := []) (h' := h) rfl trivial (N_and1 _) ?_
  refine Runs.topI 3 (cs := []) (pc' := 6) (pl' := [some (.int (N m))]) (v := (N m) >>> (N 1 &&& 31)) (v' := N (m / 2)) (st' := [.int (N (m % 2))]) (h' := h) rfl trivial (NHR (by omega) (by omega) rfl) ?_
  refine Runs.topI 2 (cs := []) (pc' := 8) (pl' := [some (.int (N m))]) (v := (N (m / 2)) &&& (N 1)) (v' := N ((m / 2) % 2)) (st' := [.int (N (m % 2))]) (h' := h) rfl trivial (N_and1 _) ?_
  refine Runs.topI 1 (cs := []) (pc' := 9) (pl' := [some (.int (N m))]) (v := (N (m % 2)) + (N ((m / 2) % 2))) (v' := N (((m / 2) % 2) + (m % 2))) (st' := []) (h' := h) rfl trivial (NA (by omega)) ?_
  refine Runs.topI 3 (cs := []) (pc' := 12) (pl' := [some (.int (N m))]) (v := (N m) >>> (N 2 &&& 31)) (v' := N (m / 4)) (st' := [.int (N (((m / 2) % 2) + (m % 2)))]) (h' := h) rfl trivial (NHR (by omega) (by omega) rfl) ?_
  refine Runs.topI 2 (cs := []) (pc' := 14) (pl' := [some (.int (N m))]) (v := (N (m / 4)) &&& (N 1)) (v' := N ((m / 4) % 2)) (st' := [.int (N (((m / 2) % 2) + (m % 2)))]) (h' := h) rfl trivial (N_and1 _) ?_
  refine Runs.topI 1 (cs := []) (pc' := 15) (pl' := [some (.int (N m))]) (v := (N (((m / 2) % 2) + (m % 2))) + (N ((m / 4) % 2))) (v' := N (((m / 2) % 2) + ((m / 4) % 2) + (m % 2))) (st' := []) (h' := h) rfl trivial (NA (by omega)) ?_
  refine Runs.topI 3 (cs := []) (pc' := 18) (pl' := [some (.int (N m))]) (v := (N m) >>> (N 3 &&& 31)) (v' := N (m / 8)) (st' := [.int (N (((m / 2) % 2) + ((m / 4) % 2) + (m % 2)))]) (h' := h) rfl trivial (NHR (by omega) (by omega) rfl) ?_
  refine Runs.topI 2 (cs := []) (pc' := 20) (pl' := [some (.int (N m))]) (v := (N (m / 8)) &&& (N 1)) (v' := N ((m / 8) % 2)) (st' := [.int (N (((m / 2) % 2) + ((m / 4) % 2) + (m % 2)))]) (h' := h) rfl trivial (N_and1 _) ?_
  refine Runs.topI 1 (cs := []) (pc' := 21) (pl' := [some (.int (N m))]) (v := (N (((m / 2) % 2) + ((m / 4) % 2) + (m % 2))) + (N ((m / 8) % 2))) (v' := N (((m / 2) % 2) + ((m / 4) % 2) + ((m / 8) % 2) + (m % 2))) (st' := []) (h' := h) rfl trivial (NA (by omega)) ?_
  exact Runs.retE (cs := []) rfl trivial (retI (congrArg N (by unfold pc4; omega))) rfl
theorem k_thrown {X : Nat × (Nat → Int32)} {c : CT} {S bf : Nat → Nat} {kn : Nat} {kp : Nat → Nat} {ik : Bool} {od bu : Nat → Nat} {le th : Nat} {mk ol : Nat → Nat} {tu : Nat} {ib : Bool} {sp : Nat → Nat} {so : Nat} {al br tr : Nat → Nat} {at_ : Nat} {iw : Bool} {ha : Int64} {se : Nat → Int32} {o : Nat → Int64} : Call 0 mX7_thrown [.ref 23] (MP X c S bf kn kp ik od bu le th mk ol tu ib sp so al br tr at_ iw ha se o) (.inl (some (.int (N th)))) (MP X c S bf kn kp ik od bu le th mk ol tu ib sp so al br tr at_ iw ha se o) 0 := by
  refine Runs.go 2 (cs := []) (pc' := 4) (pl' := [some (.ref 23)]) (st' := [.int (N th)]) (h' := (MP X c S bf kn kp ik od bu le th mk ol tu ib sp so al br tr at_ iw ha se o)) rfl trivial ?_
  exact Runs.retE (cs := []) rfl trivial (retI rfl) rfl
theorem k_throwing {X : Nat × (Nat → Int32)} {c : CT} {S bf : Nat → Nat} {kn : Nat} {kp : Nat → Nat} {ik : Bool} {od bu : Nat → Nat} {le th : Nat} {mk ol : Nat → Nat} {tu : Nat} {ib : Bool} {sp : Nat → Nat} {so : Nat} {al br tr : Nat → Nat} {at_ : Nat} {iw : Bool} {ha : Int64} {se : Nat → Int32} {o : Nat → Int64} {p : Nat} : Call 0 mX7_throwing [.ref 23, .int (N p)] (MP X c S bf kn kp ik od bu le th mk ol tu ib sp so al br tr at_ iw ha se o) (.inl (some (.int (N 0)))) (MP X c S bf kn kp ik od bu le p mk ol tu ib sp so al br tr at_ iw ha se o) 0 := by
  refine Runs.go 4 (cs := []) (pc' := 6) (pl' := [some (.ref 23), some (.int (N p))]) (st' := [.int (N 0)]) (h' := (MP X c S bf kn kp ik od bu le p mk ol tu ib sp so al br tr at_ iw ha se o)) rfl trivial ?_
  exact Runs.retE (cs := []) rfl trivial (retI rfl) rfl
theorem k_told {b : Bool} {h : PH} : Call 0 mX7_told [.int (bI b)] h (.inl (some (.int (bI b)))) h 0 := by
  refine Runs.go 2 (cs := []) (pc' := bif decide ((bI b) = 0) then 8 else 4) (pl' := [some (.int (bI b))]) (st' := []) (h' := h) rfl trivial ?_
  refine Runs.br (fun z1 => ?_) (fun z1 => ?_)
  · replace z1 : b = false := (bI_0 _).mp (of_decide_eq_true z1)
    refine Runs.go 1 (cs := []) (pc' := 9) (pl' := [some (.int (bI b))]) (st' := [.int (N 0)]) (h' := h) rfl trivial ?_
    refine Runs.retE (cs := []) rfl trivial (retI (bIF ?_)) rfl
    simpa using z1
  · replace z1 : ¬ (b = false) := mt (bI_0 _).mpr (of_decide_eq_false z1)
    refine Runs.go 2 (cs := []) (pc' := 9) (pl' := [some (.int (bI b))]) (st' := [.int (N 1)]) (h' := h) rfl trivial ?_
    refine Runs.retE (cs := []) rfl trivial (retI (bIT ?_)) rfl
    simpa using z1
theorem k_isClue {X : Nat × (Nat → Int32)} {c : CT} {S bf : Nat → Nat} {kn : Nat} {kp : Nat → Nat} {ik : Bool} {od bu : Nat → Nat} {le th : Nat} {mk ol : Nat → Nat} {tu : Nat} {ib : Bool} {sp : Nat → Nat} {so : Nat} {al br tr : Nat → Nat} {at_ : Nat} {iw : Bool} {ha : Int64} {se : Nat → Int32} {o : Nat → Int64} {v : Int32} : Call 1 mX7_isClue [.ref 23, .int v] (MP X c S bf kn kp ik od bu le th mk ol tu ib sp so al br tr at_ iw ha se o) (.inl (some (.int (bI (inB v (N 0) (N (S 0) - N 1)))))) (MP X c S bf kn kp ik od bu le th mk ol tu ib sp so al br tr at_ iw ha se o) 0 := by
  refine Runs.topI 6 (cs := [vp_in (N 0) 63]) (pc' := 8) (pl' := [some (.ref 23), some (.int v)]) (v := aN S (N 0).toNatClampNeg) (v' := N (S 0)) (st' := [.int (N 0), .int v]) (h' := (MP X c S bf kn kp ik od bu le th mk ol tu ib sp so al br tr at_ iw ha se o)) rfl ⟨(N_in (by omega) (by decide)), trivial⟩ (aN_at (by omega)) ?_
  refine Runs.topI 2 (cs := []) (pc' := 10) (pl' := [some (.ref 23), some (.int v)]) (v := (N (S 0)) - (N 1)) (v' := N (S 0) - N 1) (st' := [.int (N 0), .int v]) (h' := (MP X c S bf kn kp ik od bu le th mk ol tu ib sp so al br tr at_ iw ha se o)) rfl trivial rfl ?_
  refine Runs.cal (y := mX7_in) (as := [.int v, .int (N 0), .int (N (S 0) - N 1)]) (rest := []) (pc' := 13) (cs := []) (v := some (.int (bI (inB v (N 0) (N (S 0) - N 1))))) (h1 := (MP X c S bf kn kp ik od bu le th mk ol tu ib sp so al br tr at_ iw ha se o)) rfl trivial (by decide) (k_in) ?_
  show Runs _ _ 13 _ [.int (bI (inB v (N 0) (N (S 0) - N 1)))] _ _ _ _
  exact Runs.retE (cs := [(bI (inB v (N 0) (N (S 0) - N 1)) : Int32) = 0 ∨ (bI (inB v (N 0) (N (S 0) - N 1)) : Int32) = 1]) rfl ⟨(bI_01 _), trivial⟩ (retI rfl) rfl
theorem k_sort {X : Nat × (Nat → Int32)} {c : CT} {S bf : Nat → Nat} {kn : Nat} {kp : Nat → Nat} {ik : Bool} {od bu : Nat → Nat} {le th : Nat} {mk ol : Nat → Nat} {tu : Nat} {ib : Bool} {sp : Nat → Nat} {so : Nat} {al br tr : Nat → Nat} {at_ : Nat} {iw : Bool} {ha : Int64} {se : Nat → Int32} {o : Nat → Int64} {k : Nat} (hk : k < 12) : Call 0 mX7_sort [.ref 23, .int (N k)] (MP X c S bf kn kp ik od bu le th mk ol tu ib sp so al br tr at_ iw ha se o) (.inl (some (.int (N (S (4 * k + 1)))))) (MP X c S bf kn kp ik od bu le th mk ol tu ib sp so al br tr at_ iw ha se o) 0 := by
  refine Runs.topI 6 (cs := []) (pc' := 8) (pl' := [some (.ref 23), some (.int (N k))]) (v := (N 4) * (N k)) (v' := N (4 * k)) (st' := [.int (N 1), .ref 24]) (h' := (MP X c S bf kn kp ik od bu le th mk ol tu ib sp so al br tr at_ iw ha se o)) rfl trivial (NM (by omega)) ?_
  refine Runs.topI 1 (cs := []) (pc' := 9) (pl' := [some (.ref 23), some (.int (N k))]) (v := (N 1) + (N (4 * k))) (v' := N (4 * k + 1)) (st' := [.ref 24]) (h' := (MP X c S bf kn kp ik od bu le th mk ol tu ib sp so al br tr at_ iw ha se o)) rfl trivial (NA (by omega)) ?_
  refine Runs.topI 1 (cs := [vp_in (N (4 * k + 1)) 63]) (pc' := 10) (pl' := [some (.ref 23), some (.int (N k))]) (v := aN S (N (4 * k + 1)).toNatClampNeg) (v' := N (S (4 * k + 1))) (st' := []) (h' := (MP X c S bf kn kp ik od bu le th mk ol tu ib sp so al br tr at_ iw ha se o)) rfl ⟨(N_in (by omega) (by decide)), trivial⟩ (aN_at (by omega)) ?_
  exact Runs.retE (cs := []) rfl trivial (retI rfl) rfl
def hasP (S : Nat → Nat) (k p : Nat) : Bool := decide (p = 0) || (decide (p = 1) && !decide (S (4 * k + 1) = 4) && !decide (S (4 * k + 1) = 5)) || decide (S (4 * k + 1) = 6)
def itmI (S : Nat → Nat) (k p : Nat) : Int32 := bif hasP S k p then N (S (4 * k + p + 2)) else -1
theorem k_item {X : Nat × (Nat → Int32)} {c : CT} {S bf : Nat → Nat} {kn : Nat} {kp : Nat → Nat} {ik : Bool} {od bu : Nat → Nat} {le th : Nat} {mk ol : Nat → Nat} {tu : Nat} {ib : Bool} {sp : Nat → Nat} {so : Nat} {al br tr : Nat → Nat} {at_ : Nat} {iw : Bool} {ha : Int64} {se : Nat → Int32} {o : Nat → Int64} {k p : Nat} (hS : ∀ j, j < 61 → S j < 16) (hk : k < 12) (hp : p < 3) : Call 1 mX7_item [.ref 23, .int (N k), .int (N p)] (MP X c S bf kn kp ik od bu le th mk ol tu ib sp so al br tr at_ iw ha se o) (.inl (some (.int (itmI S k p)))) (MP X c S bf kn kp ik od bu le th mk ol tu ib sp so al br tr at_ iw ha se o) 0 := by
  refine Runs.go 2 (cs := []) (pc' := bif decide ((N p) = 0) then 37 else 4) (pl' := [some (.ref 23), some (.int (N k)), some (.int (N p)), none]) (st' := []) (h' := (MP X c S bf kn kp ik od bu le th mk ol tu ib sp so al br tr at_ iw ha se o)) rfl trivial ?_
  refine Runs.br (fun z1 => ?_) (fun z1 => ?_)
  · replace z1 : p = 0 := (N_eq (a := p) (b := 0) (by omega) (by omega)).mp (of_decide_eq_true z1)
    refine Runs.go 5 (cs := []) (pc' := bif decide ((N 1) = 0) then 64 else 47) (pl' := [some (.ref 23), some (.int (N k)), some (.int (N p)), some (.int (N 1))]) (st' := []) (h' := (MP X c S bf kn kp ik od bu le th mk ol tu ib sp so al br tr at_ iw ha se o)) rfl trivial ?_
    refine Runs.brF (decide_eq_false (by decide)) ?_
    refine Runs.topI 6 (cs := []) (pc' := 55) (pl' := [some (.ref 23), some (.int (N k)), some (.int (N p)), some (.int (N 1))]) (v := (N 4) * (N k)) (v' := N (4 * k)) (st' := [.int (N 1), .ref 24]) (h' := (MP X c S bf kn kp ik od bu le th mk ol tu ib sp so al br tr at_ iw ha se o)) rfl trivial (NM (by omega)) ?_
    refine Runs.topI 1 (cs := []) (pc' := 56) (pl' := [some (.ref 23), some (.int (N k)), some (.int (N p)), some (.int (N 1))]) (v := (N 1) + (N (4 * k))) (v' := N (4 * k + 1)) (st' := [.ref 24]) (h' := (MP X c S bf kn kp ik od bu le th mk ol tu ib sp so al br tr at_ iw ha se o)) rfl trivial (NA (by omega)) ?_
    refine Runs.topI 2 (cs := []) (pc' := 58) (pl' := [some (.ref 23), some (.int (N k)), some (.int (N p)), some (.int (N 1))]) (v := (N (4 * k + 1)) + (N 1)) (v' := N (4 * k + 2)) (st' := [.ref 24]) (h' := (MP X c S bf kn kp ik od bu le th mk ol tu ib sp so al br tr at_ iw ha se o)) rfl trivial (NA (by omega)) ?_
    refine Runs.topI 2 (cs := []) (pc' := 60) (pl' := [some (.ref 23), some (.int (N k)), some (.int (N p)), some (.int (N 1))]) (v := (N (4 * k + 2)) + (N p)) (v' := N (4 * k + p + 2)) (st' := [.ref 24]) (h' := (MP X c S bf kn kp ik od bu le th mk ol tu ib sp so al br tr at_ iw ha se o)) rfl trivial (NA (by omega)) ?_
    refine Runs.topI 1 (cs := [vp_in (N (4 * k + p + 2)) 63]) (pc' := 61) (pl' := [some (.ref 23), some (.int (N k)), some (.int (N p)), some (.int (N 1))]) (v := aN S (N (4 * k + p + 2)).toNatClampNeg) (v' := N (S (4 * k + p + 2))) (st' := []) (h' := (MP X c S bf kn kp ik od bu le th mk ol tu ib sp so al br tr at_ iw ha se o)) rfl ⟨(N_in (by omega) (by decide)), trivial⟩ (aN_at (by omega)) ?_
    have b2 := hS (4 * k + p + 2) (by omega)
    refine Runs.go 1 (cs := []) (pc' := 65) (pl' := [some (.ref 23), some (.int (N k)), some (.int (N p)), some (.int (N 1))]) (st' := [.int (N (S (4 * k + p + 2)))]) (h' := (MP X c S bf kn kp ik od bu le th mk ol tu ib sp so al br tr at_ iw ha se o)) rfl trivial ?_
    refine Runs.retE (cs := []) rfl trivial (retI ?_) rfl
    simp_all [itmI, hasP]
  · replace z1 : ¬ (p = 0) := mt (N_eq (a := p) (b := 0) (by omega) (by omega)).mpr (of_decide_eq_false z1)
    refine Runs.go 3 (cs := []) (pc' := bif decide (¬ (N p) = (N 1)) then 27 else 9) (pl' := [some (.ref 23), some (.int (N k)), some (.int (N p)), none]) (st' := []) (h' := (MP X c S bf kn kp ik od bu le th mk ol tu ib sp so al br tr at_ iw ha se o)) rfl trivial ?_
    refine Runs.br (fun z3 => ?_) (fun z3 => ?_)
    · replace z3 : ¬ (p = 1) := mt (N_eq (a := p) (b := 1) (by omega) (by omega)).mpr (of_decide_eq_true z3)
      refine Runs.go 2 (cs := []) (pc' := 29) (pl' := [some (.ref 23), some (.int (N k)), some (.int (N p)), none]) (st' := [.int (N k), .ref 23]) (h' := (MP X c S bf kn kp ik od bu le th mk ol tu ib sp so al br tr at_ iw ha se o)) rfl trivial ?_
      refine Runs.cal (y := mX7_sort) (as := [.ref 23, .int (N k)]) (rest := []) (pc' := 32) (cs := []) (v := some (.int (N (S (4 * k + 1))))) (h1 := (MP X c S bf kn kp ik od bu le th mk ol tu ib sp so al br tr at_ iw ha se o)) rfl trivial (by decide) (k_sort (by omega)) ?_
      show Runs _ _ 32 _ [.int (N (S (4 * k + 1)))] _ _ _ _
      have b4 := hS (4 * k + 1) (by omega)
      refine Runs.go 2 (cs := []) (pc' := bif decide (¬ (N (S (4 * k + 1))) = (N 6)) then 41 else 37) (pl' := [some (.ref 23), some (.int (N k)), some (.int (N p)), none]) (st' := []) (h' := (MP X c S bf kn kp ik od bu le th mk ol tu ib sp so al br tr at_ iw ha se o)) rfl trivial ?_
      refine Runs.br (fun z5 => ?_) (fun z5 => ?_)
      · replace z5 : ¬ (S (4 * k + 1) = 6) := mt (N_eq (a := S (4 * k + 1)) (b := 6) (by omega) (by omega)).mpr (of_decide_eq_true z5)
        refine Runs.go 4 (cs := []) (pc' := bif decide ((N 0) = 0) then 64 else 47) (pl' := [some (.ref 23), some (.int (N k)), some (.int (N p)), some (.int (N 0))]) (st' := []) (h' := (MP X c S bf kn kp ik od bu le th mk ol tu ib sp so al br tr at_ iw ha se o)) rfl trivial ?_
        refine Runs.brT (decide_eq_true (by decide)) ?_
        refine Runs.go 1 (cs := []) (pc' := 65) (pl' := [some (.ref 23), some (.int (N k)), some (.int (N p)), some (.int (N 0))]) (st' := [.int (-1 : Int32)]) (h' := (MP X c S bf kn kp ik od bu le th mk ol tu ib sp so al br tr at_ iw ha se o)) rfl trivial ?_
        refine Runs.retE (cs := []) rfl trivial (retI ?_) rfl
        simp_all [itmI, hasP]
      · replace z5 : S (4 * k + 1) = 6 := (N_eq (a := S (4 * k + 1)) (b := 6) (by omega) (by omega)).mp (Classical.not_not.mp (of_decide_eq_false z5))
        refine Runs.go 5 (cs := []) (pc' := bif decide ((N 1) = 0) then 64 else 47) (pl' := [some (.ref 23), some (.int (N k)), some (.int (N p)), some (.int (N 1))]) (st' := []) (h' := (MP X c S bf kn kp ik od bu le th mk ol tu ib sp so al br tr at_ iw ha se o)) rfl trivial ?_
        refine Runs.brF (decide_eq_false (by decide)) ?_
        refine Runs.topI 6 (cs := []) (pc' := 55) (pl' := [some (.ref 23), some (.int (N k)), some (.int (N p)), some (.int (N 1))]) (v := (N 4) * (N k)) (v' := N (4 * k)) (st' := [.int (N 1), .ref 24]) (h' := (MP X c S bf kn kp ik od bu le th mk ol tu ib sp so al br tr at_ iw ha se o)) rfl trivial (NM (by omega)) ?_
        refine Runs.topI 1 (cs := []) (pc' := 56) (pl' := [some (.ref 23), some (.int (N k)), some (.int (N p)), some (.int (N 1))]) (v := (N 1) + (N (4 * k))) (v' := N (4 * k + 1)) (st' := [.ref 24]) (h' := (MP X c S bf kn kp ik od bu le th mk ol tu ib sp so al br tr at_ iw ha se o)) rfl trivial (NA (by omega)) ?_
        refine Runs.topI 2 (cs := []) (pc' := 58) (pl' := [some (.ref 23), some (.int (N k)), some (.int (N p)), some (.int (N 1))]) (v := (N (4 * k + 1)) + (N 1)) (v' := N (4 * k + 2)) (st' := [.ref 24]) (h' := (MP X c S bf kn kp ik od bu le th mk ol tu ib sp so al br tr at_ iw ha se o)) rfl trivial (NA (by omega)) ?_
        refine Runs.topI 2 (cs := []) (pc' := 60) (pl' := [some (.ref 23), some (.int (N k)), some (.int (N p)), some (.int (N 1))]) (v := (N (4 * k + 2)) + (N p)) (v' := N (4 * k + p + 2)) (st' := [.ref 24]) (h' := (MP X c S bf kn kp ik od bu le th mk ol tu ib sp so al br tr at_ iw ha se o)) rfl trivial (NA (by omega)) ?_
        refine Runs.topI 1 (cs := [vp_in (N (4 * k + p + 2)) 63]) (pc' := 61) (pl' := [some (.ref 23), some (.int (N k)), some (.int (N p)), some (.int (N 1))]) (v := aN S (N (4 * k + p + 2)).toNatClampNeg) (v' := N (S (4 * k + p + 2))) (st' := []) (h' := (MP X c S bf kn kp ik od bu le th mk ol tu ib sp so al br tr at_ iw ha se o)) rfl ⟨(N_in (by omega) (by decide)), trivial⟩ (aN_at (by omega)) ?_
        have b6 := hS (4 * k + p + 2) (by omega)
        refine Runs.go 1 (cs := []) (pc' := 65) (pl' := [some (.ref 23), some (.int (N k)), some (.int (N p)), some (.int (N 1))]) (st' := [.int (N (S (4 * k + p + 2)))]) (h' := (MP X c S bf kn kp ik od bu le th mk ol tu ib sp so al br tr at_ iw ha se o)) rfl trivial ?_
        refine Runs.retE (cs := []) rfl trivial (retI ?_) rfl
        simp_all [itmI, hasP]
    · replace z3 : p = 1 := (N_eq (a := p) (b := 1) (by omega) (by omega)).mp (Classical.not_not.mp (of_decide_eq_false z3))
      refine Runs.go 2 (cs := []) (pc' := 11) (pl' := [some (.ref 23), some (.int (N k)), some (.int (N p)), none]) (st' := [.int (N k), .ref 23]) (h' := (MP X c S bf kn kp ik od bu le th mk ol tu ib sp so al br tr at_ iw ha se o)) rfl trivial ?_
      refine Runs.cal (y := mX7_sort) (as := [.ref 23, .int (N k)]) (rest := []) (pc' := 14) (cs := []) (v := some (.int (N (S (4 * k + 1))))) (h1 := (MP X c S bf kn kp ik od bu le th mk ol tu ib sp so al br tr at_ iw ha se o)) rfl trivial (by decide) (k_sort (by omega)) ?_
      show Runs _ _ 14 _ [.int (N (S (4 * k + 1)))] _ _ _ _
      have b7 := hS (4 * k + 1) (by omega)
      refine Runs.go 2 (cs := []) (pc' := bif decide ((N (S (4 * k + 1))) = (N 4)) then 27 else 18) (pl' := [some (.ref 23), some (.int (N k)), some (.int (N p)), none]) (st' := []) (h' := (MP X c S bf kn kp ik od bu le th mk ol tu ib sp so al br tr at_ iw ha se o)) rfl trivial ?_
      refine Runs.br (fun z8 => ?_) (fun z8 => ?_)
      · replace z8 : S (4 * k + 1) = 4 := (N_eq (a := S (4 * k + 1)) (b := 4) (by omega) (by omega)).mp (of_decide_eq_true z8)
        refine Runs.go 2 (cs := []) (pc' := 29) (pl' := [some (.ref 23), some (.int (N k)), some (.int (N p)), none]) (st' := [.int (N k), .ref 23]) (h' := (MP X c S bf kn kp ik od bu le th mk ol tu ib sp so al br tr at_ iw ha se o)) rfl trivial ?_
        refine Runs.cal (y := mX7_sort) (as := [.ref 23, .int (N k)]) (rest := []) (pc' := 32) (cs := []) (v := some (.int (N (S (4 * k + 1))))) (h1 := (MP X c S bf kn kp ik od bu le th mk ol tu ib sp so al br tr at_ iw ha se o)) rfl trivial (by decide) (k_sort (by omega)) ?_
        show Runs _ _ 32 _ [.int (N (S (4 * k + 1)))] _ _ _ _
        have b9 := hS (4 * k + 1) (by omega)
        refine Runs.go 2 (cs := []) (pc' := bif decide (¬ (N (S (4 * k + 1))) = (N 6)) then 41 else 37) (pl' := [some (.ref 23), some (.int (N k)), some (.int (N p)), none]) (st' := []) (h' := (MP X c S bf kn kp ik od bu le th mk ol tu ib sp so al br tr at_ iw ha se o)) rfl trivial ?_
        refine Runs.br (fun z10 => ?_) (fun z10 => ?_)
        · replace z10 : ¬ (S (4 * k + 1) = 6) := mt (N_eq (a := S (4 * k + 1)) (b := 6) (by omega) (by omega)).mpr (of_decide_eq_true z10)
          refine Runs.go 4 (cs := []) (pc' := bif decide ((N 0) = 0) then 64 else 47) (pl' := [some (.ref 23), some (.int (N k)), some (.int (N p)), some (.int (N 0))]) (st' := []) (h' := (MP X c S bf kn kp ik od bu le th mk ol tu ib sp so al br tr at_ iw ha se o)) rfl trivial ?_
          refine Runs.brT (decide_eq_true (by decide)) ?_
          refine Runs.go 1 (cs := []) (pc' := 65) (pl' := [some (.ref 23), some (.int (N k)), some (.int (N p)), some (.int (N 0))]) (st' := [.int (-1 : Int32)]) (h' := (MP X c S bf kn kp ik od bu le th mk ol tu ib sp so al br tr at_ iw ha se o)) rfl trivial ?_
          refine Runs.retE (cs := []) rfl trivial (retI ?_) rfl
          simp_all [itmI, hasP]
        · replace z10 : S (4 * k + 1) = 6 := (N_eq (a := S (4 * k + 1)) (b := 6) (by omega) (by omega)).mp (Classical.not_not.mp (of_decide_eq_false z10))
          refine Runs.go 5 (cs := []) (pc' := bif decide ((N 1) = 0) then 64 else 47) (pl' := [some (.ref 23), some (.int (N k)), some (.int (N p)), some (.int (N 1))]) (st' := []) (h' := (MP X c S bf kn kp ik od bu le th mk ol tu ib sp so al br tr at_ iw ha se o)) rfl trivial ?_
          refine Runs.brF (decide_eq_false (by decide)) ?_
          refine Runs.topI 6 (cs := []) (pc' := 55) (pl' := [some (.ref 23), some (.int (N k)), some (.int (N p)), some (.int (N 1))]) (v := (N 4) * (N k)) (v' := N (4 * k)) (st' := [.int (N 1), .ref 24]) (h' := (MP X c S bf kn kp ik od bu le th mk ol tu ib sp so al br tr at_ iw ha se o)) rfl trivial (NM (by omega)) ?_
          refine Runs.topI 1 (cs := []) (pc' := 56) (pl' := [some (.ref 23), some (.int (N k)), some (.int (N p)), some (.int (N 1))]) (v := (N 1) + (N (4 * k))) (v' := N (4 * k + 1)) (st' := [.ref 24]) (h' := (MP X c S bf kn kp ik od bu le th mk ol tu ib sp so al br tr at_ iw ha se o)) rfl trivial (NA (by omega)) ?_
          refine Runs.topI 2 (cs := []) (pc' := 58) (pl' := [some (.ref 23), some (.int (N k)), some (.int (N p)), some (.int (N 1))]) (v := (N (4 * k + 1)) + (N 1)) (v' := N (4 * k + 2)) (st' := [.ref 24]) (h' := (MP X c S bf kn kp ik od bu le th mk ol tu ib sp so al br tr at_ iw ha se o)) rfl trivial (NA (by omega)) ?_
          refine Runs.topI 2 (cs := []) (pc' := 60) (pl' := [some (.ref 23), some (.int (N k)), some (.int (N p)), some (.int (N 1))]) (v := (N (4 * k + 2)) + (N p)) (v' := N (4 * k + p + 2)) (st' := [.ref 24]) (h' := (MP X c S bf kn kp ik od bu le th mk ol tu ib sp so al br tr at_ iw ha se o)) rfl trivial (NA (by omega)) ?_
          refine Runs.topI 1 (cs := [vp_in (N (4 * k + p + 2)) 63]) (pc' := 61) (pl' := [some (.ref 23), some (.int (N k)), some (.int (N p)), some (.int (N 1))]) (v := aN S (N (4 * k + p + 2)).toNatClampNeg) (v' := N (S (4 * k + p + 2))) (st' := []) (h' := (MP X c S bf kn kp ik od bu le th mk ol tu ib sp so al br tr at_ iw ha se o)) rfl ⟨(N_in (by omega) (by decide)), trivial⟩ (aN_at (by omega)) ?_
          have b11 := hS (4 * k + p + 2) (by omega)
          refine Runs.go 1 (cs := []) (pc' := 65) (pl' := [some (.ref 23), some (.int (N k)), some (.int (N p)), some (.int (N 1))]) (st' := [.int (N (S (4 * k + p + 2)))]) (h' := (MP X c S bf kn kp ik od bu le th mk ol tu ib sp so al br tr at_ iw ha se o)) rfl trivial ?_
          refine Runs.retE (cs := []) rfl trivial (retI ?_) rfl
          simp_all [itmI, hasP]
      · replace z8 : ¬ (S (4 * k + 1) = 4) := mt (N_eq (a := S (4 * k + 1)) (b := 4) (by omega) (by omega)).mpr (of_decide_eq_false z8)
        refine Runs.go 2 (cs := []) (pc' := 20) (pl' := [some (.ref 23), some (.int (N k)), some (.int (N p)), none]) (st' := [.int (N k), .ref 23]) (h' := (MP X c S bf kn kp ik od bu le th mk ol tu ib sp so al br tr at_ iw ha se o)) rfl trivial ?_
        refine Runs.cal (y := mX7_sort) (as := [.ref 23, .int (N k)]) (rest := []) (pc' := 23) (cs := []) (v := some (.int (N (S (4 * k + 1))))) (h1 := (MP X c S bf kn kp ik od bu le th mk ol tu ib sp so al br tr at_ iw ha se o)) rfl trivial (by decide) (k_sort (by omega)) ?_
        show Runs _ _ 23 _ [.int (N (S (4 * k + 1)))] _ _ _ _
        have b12 := hS (4 * k + 1) (by omega)
        refine Runs.go 2 (cs := []) (pc' := bif decide (¬ (N (S (4 * k + 1))) = (N 5)) then 37 else 27) (pl' := [some (.ref 23), some (.int (N k)), some (.int (N p)), none]) (st' := []) (h' := (MP X c S bf kn kp ik od bu le th mk ol tu ib sp so al br tr at_ iw ha se o)) rfl trivial ?_
        refine Runs.br (fun z13 => ?_) (fun z13 => ?_)
        · replace z13 : ¬ (S (4 * k + 1) = 5) := mt (N_eq (a := S (4 * k + 1)) (b := 5) (by omega) (by omega)).mpr (of_decide_eq_true z13)
          refine Runs.go 5 (cs := []) (pc' := bif decide ((N 1) = 0) then 64 else 47) (pl' := [some (.ref 23), some (.int (N k)), some (.int (N p)), some (.int (N 1))]) (st' := []) (h' := (MP X c S bf kn kp ik od bu le th mk ol tu ib sp so al br tr at_ iw ha se o)) rfl trivial ?_
          refine Runs.brF (decide_eq_false (by decide)) ?_
          refine Runs.topI 6 (cs := []) (pc' := 55) (pl' := [some (.ref 23), some (.int (N k)), some (.int (N p)), some (.int (N 1))]) (v := (N 4) * (N k)) (v' := N (4 * k)) (st' := [.int (N 1), .ref 24]) (h' := (MP X c S bf kn kp ik od bu le th mk ol tu ib sp so al br tr at_ iw ha se o)) rfl trivial (NM (by omega)) ?_
          refine Runs.topI 1 (cs := []) (pc' := 56) (pl' := [some (.ref 23), some (.int (N k)), some (.int (N p)), some (.int (N 1))]) (v := (N 1) + (N (4 * k))) (v' := N (4 * k + 1)) (st' := [.ref 24]) (h' := (MP X c S bf kn kp ik od bu le th mk ol tu ib sp so al br tr at_ iw ha se o)) rfl trivial (NA (by omega)) ?_
          refine Runs.topI 2 (cs := []) (pc' := 58) (pl' := [some (.ref 23), some (.int (N k)), some (.int (N p)), some (.int (N 1))]) (v := (N (4 * k + 1)) + (N 1)) (v' := N (4 * k + 2)) (st' := [.ref 24]) (h' := (MP X c S bf kn kp ik od bu le th mk ol tu ib sp so al br tr at_ iw ha se o)) rfl trivial (NA (by omega)) ?_
          refine Runs.topI 2 (cs := []) (pc' := 60) (pl' := [some (.ref 23), some (.int (N k)), some (.int (N p)), some (.int (N 1))]) (v := (N (4 * k + 2)) + (N p)) (v' := N (4 * k + p + 2)) (st' := [.ref 24]) (h' := (MP X c S bf kn kp ik od bu le th mk ol tu ib sp so al br tr at_ iw ha se o)) rfl trivial (NA (by omega)) ?_
          refine Runs.topI 1 (cs := [vp_in (N (4 * k + p + 2)) 63]) (pc' := 61) (pl' := [some (.ref 23), some (.int (N k)), some (.int (N p)), some (.int (N 1))]) (v := aN S (N (4 * k + p + 2)).toNatClampNeg) (v' := N (S (4 * k + p + 2))) (st' := []) (h' := (MP X c S bf kn kp ik od bu le th mk ol tu ib sp so al br tr at_ iw ha se o)) rfl ⟨(N_in (by omega) (by decide)), trivial⟩ (aN_at (by omega)) ?_
          have b14 := hS (4 * k + p + 2) (by omega)
          refine Runs.go 1 (cs := []) (pc' := 65) (pl' := [some (.ref 23), some (.int (N k)), some (.int (N p)), some (.int (N 1))]) (st' := [.int (N (S (4 * k + p + 2)))]) (h' := (MP X c S bf kn kp ik od bu le th mk ol tu ib sp so al br tr at_ iw ha se o)) rfl trivial ?_
          refine Runs.retE (cs := []) rfl trivial (retI ?_) rfl
          simp_all [itmI, hasP]
        · replace z13 : S (4 * k + 1) = 5 := (N_eq (a := S (4 * k + 1)) (b := 5) (by omega) (by omega)).mp (Classical.not_not.mp (of_decide_eq_false z13))
          refine Runs.go 2 (cs := []) (pc' := 29) (pl' := [some (.ref 23), some (.int (N k)), some (.int (N p)), none]) (st' := [.int (N k), .ref 23]) (h' := (MP X c S bf kn kp ik od bu le th mk ol tu ib sp so al br tr at_ iw ha se o)) rfl trivial ?_
          refine Runs.cal (y := mX7_sort) (as := [.ref 23, .int (N k)]) (rest := []) (pc' := 32) (cs := []) (v := some (.int (N (S (4 * k + 1))))) (h1 := (MP X c S bf kn kp ik od bu le th mk ol tu ib sp so al br tr at_ iw ha se o)) rfl trivial (by decide) (k_sort (by omega)) ?_
          show Runs _ _ 32 _ [.int (N (S (4 * k + 1)))] _ _ _ _
          have b15 := hS (4 * k + 1) (by omega)
          refine Runs.go 2 (cs := []) (pc' := bif decide (¬ (N (S (4 * k + 1))) = (N 6)) then 41 else 37) (pl' := [some (.ref 23), some (.int (N k)), some (.int (N p)), none]) (st' := []) (h' := (MP X c S bf kn kp ik od bu le th mk ol tu ib sp so al br tr at_ iw ha se o)) rfl trivial ?_
          refine Runs.br (fun z16 => ?_) (fun z16 => ?_)
          · replace z16 : ¬ (S (4 * k + 1) = 6) := mt (N_eq (a := S (4 * k + 1)) (b := 6) (by omega) (by omega)).mpr (of_decide_eq_true z16)
            refine Runs.go 4 (cs := []) (pc' := bif decide ((N 0) = 0) then 64 else 47) (pl' := [some (.ref 23), some (.int (N k)), some (.int (N p)), some (.int (N 0))]) (st' := []) (h' := (MP X c S bf kn kp ik od bu le th mk ol tu ib sp so al br tr at_ iw ha se o)) rfl trivial ?_
            refine Runs.brT (decide_eq_true (by decide)) ?_
            refine Runs.go 1 (cs := []) (pc' := 65) (pl' := [some (.ref 23), some (.int (N k)), some (.int (N p)), some (.int (N 0))]) (st' := [.int (-1 : Int32)]) (h' := (MP X c S bf kn kp ik od bu le th mk ol tu ib sp so al br tr at_ iw ha se o)) rfl trivial ?_
            refine Runs.retE (cs := []) rfl trivial (retI ?_) rfl
            simp_all [itmI, hasP]
          · replace z16 : S (4 * k + 1) = 6 := (N_eq (a := S (4 * k + 1)) (b := 6) (by omega) (by omega)).mp (Classical.not_not.mp (of_decide_eq_false z16))
            refine Runs.go 5 (cs := []) (pc' := bif decide ((N 1) = 0) then 64 else 47) (pl' := [some (.ref 23), some (.int (N k)), some (.int (N p)), some (.int (N 1))]) (st' := []) (h' := (MP X c S bf kn kp ik od bu le th mk ol tu ib sp so al br tr at_ iw ha se o)) rfl trivial ?_
            refine Runs.brF (decide_eq_false (by decide)) ?_
            refine Runs.topI 6 (cs := []) (pc' := 55) (pl' := [some (.ref 23), some (.int (N k)), some (.int (N p)), some (.int (N 1))]) (v := (N 4) * (N k)) (v' := N (4 * k)) (st' := [.int (N 1), .ref 24]) (h' := (MP X c S bf kn kp ik od bu le th mk ol tu ib sp so al br tr at_ iw ha se o)) rfl trivial (NM (by omega)) ?_
            refine Runs.topI 1 (cs := []) (pc' := 56) (pl' := [some (.ref 23), some (.int (N k)), some (.int (N p)), some (.int (N 1))]) (v := (N 1) + (N (4 * k))) (v' := N (4 * k + 1)) (st' := [.ref 24]) (h' := (MP X c S bf kn kp ik od bu le th mk ol tu ib sp so al br tr at_ iw ha se o)) rfl trivial (NA (by omega)) ?_
            refine Runs.topI 2 (cs := []) (pc' := 58) (pl' := [some (.ref 23), some (.int (N k)), some (.int (N p)), some (.int (N 1))]) (v := (N (4 * k + 1)) + (N 1)) (v' := N (4 * k + 2)) (st' := [.ref 24]) (h' := (MP X c S bf kn kp ik od bu le th mk ol tu ib sp so al br tr at_ iw ha se o)) rfl trivial (NA (by omega)) ?_
            refine Runs.topI 2 (cs := []) (pc' := 60) (pl' := [some (.ref 23), some (.int (N k)), some (.int (N p)), some (.int (N 1))]) (v := (N (4 * k + 2)) + (N p)) (v' := N (4 * k + p + 2)) (st' := [.ref 24]) (h' := (MP X c S bf kn kp ik od bu le th mk ol tu ib sp so al br tr at_ iw ha se o)) rfl trivial (NA (by omega)) ?_
            refine Runs.topI 1 (cs := [vp_in (N (4 * k + p + 2)) 63]) (pc' := 61) (pl' := [some (.ref 23), some (.int (N k)), some (.int (N p)), some (.int (N 1))]) (v := aN S (N (4 * k + p + 2)).toNatClampNeg) (v' := N (S (4 * k + p + 2))) (st' := []) (h' := (MP X c S bf kn kp ik od bu le th mk ol tu ib sp so al br tr at_ iw ha se o)) rfl ⟨(N_in (by omega) (by decide)), trivial⟩ (aN_at (by omega)) ?_
            have b17 := hS (4 * k + p + 2) (by omega)
            refine Runs.go 1 (cs := []) (pc' := 65) (pl' := [some (.ref 23), some (.int (N k)), some (.int (N p)), some (.int (N 1))]) (st' := [.int (N (S (4 * k + p + 2)))]) (h' := (MP X c S bf kn kp ik od bu le th mk ol tu ib sp so al br tr at_ iw ha se o)) rfl trivial ?_
            refine Runs.retE (cs := []) rfl trivial (retI ?_) rfl
            simp_all [itmI, hasP]
/-- a clue is added at the end -/
def addS (S : Nat → Nat) (a b c d : Nat) : Nat → Nat := upn (upn (upn (upn (upn S (4 * S 0 + 1) a) (4 * S 0 + 2) b) (4 * S 0 + 3) c) (4 * S 0 + 4) d) 0 (S 0 + 1)
theorem k_adds {X : Nat × (Nat → Int32)} {c : CT} {S bf : Nat → Nat} {kn : Nat} {kp : Nat → Nat} {ik : Bool} {od bu : Nat → Nat} {le th : Nat} {mk ol : Nat → Nat} {tu : Nat} {ib : Bool} {sp : Nat → Nat} {so : Nat} {al br tr : Nat → Nat} {at_ : Nat} {iw : Bool} {ha : Int64} {se : Nat → Int32} {o : Nat → Int64} {a b c1 d : Nat} (h0 : S 0 < 12) : Call 0 mX7_adds [.ref 23, .int (N a), .int (N b), .int (N c1), .int (N d)] (MP X c S bf kn kp ik od bu le th mk ol tu ib sp so al br tr at_ iw ha se o) (.inl (some (.int (N (S 0))))) (MP X c (addS S a b c1 d) bf kn kp ik od bu le th mk ol tu ib sp so al br tr at_ iw ha se o) 0 := by
  refine Runs.topI 6 (cs := [vp_in (N 0) 63]) (pc' := 8) (pl' := [some (.ref 23), some (.int (N a)), some (.int (N b)), some (.int (N c1)), some (.int (N d)), none]) (v := aN S (N 0).toNatClampNeg) (v' := N (S 0)) (st' := [.int (N 4), .int (N 1)]) (h' := (MP X c S bf kn kp ik od bu le th mk ol tu ib sp so al br tr at_ iw ha se o)) rfl ⟨(N_in (by omega) (by decide)), trivial⟩ (aN_at (by omega)) ?_
  refine Runs.topI 1 (cs := []) (pc' := 9) (pl' := [some (.ref 23), some (.int (N a)), some (.int (N b)), some (.int (N c1)), some (.int (N d)), none]) (v := (N 4) * (N (S 0))) (v' := N (4 * (S 0))) (st' := [.int (N 1)]) (h' := (MP X c S bf kn kp ik od bu le th mk ol tu ib sp so al br tr at_ iw ha se o)) rfl trivial (NM (by omega)) ?_
  refine Runs.topI 1 (cs := []) (pc' := 10) (pl' := [some (.ref 23), some (.int (N a)), some (.int (N b)), some (.int (N c1)), some (.int (N d)), none]) (v := (N 1) + (N (4 * (S 0)))) (v' := N (4 * (S 0) + 1)) (st' := []) (h' := (MP X c S bf kn kp ik od bu le th mk ol tu ib sp so al br tr at_ iw ha se o)) rfl trivial (NA (by omega)) ?_
  refine Runs.goH 6 (cs := [vp_in (N (4 * (S 0) + 1)) 63]) (pc' := 20) (pl' := [some (.ref 23), some (.int (N a)), some (.int (N b)), some (.int (N c1)), some (.int (N d)), some (.int (N (4 * (S 0) + 1)))]) (st' := []) (h1 := (GP X c (upd (aN S) (N (4 * (S 0) + 1)).toNatClampNeg (N a)) (aN bf) (N kn) (aN kp) (bI ik) (aN od) (aN bu) (N le) (N th) (aN mk) (aN ol) (N tu) (bI ib) (aN sp) (N so) (aN al) (aN br) (aN tr) (N at_) (bI iw) ha se o)) (h' := (MP X c (upn S (4 * (S 0) + 1) a) bf kn kp ik od bu le th mk ol tu ib sp so al br tr at_ iw ha se o)) rfl ⟨(N_in (by omega) (by decide)), trivial⟩ (congrArg (fun zq9 => (GP X c zq9 (aN bf) (N kn) (aN kp) (bI ik) (aN od) (aN bu) (N le) (N th) (aN mk) (aN ol) (N tu) (bI ib) (aN sp) (N so) (aN al) (aN br) (aN tr) (N at_) (bI iw) ha se o)) ((aN_up (by omega)))) ?_
  refine Runs.topI 5 (cs := []) (pc' := 28) (pl' := [some (.ref 23), some (.int (N a)), some (.int (N b)), some (.int (N c1)), some (.int (N d)), some (.int (N (4 * (S 0) + 1)))]) (v := (N (4 * (S 0) + 1)) + (N 1)) (v' := N (4 * (S 0) + 2)) (st' := [.ref 24]) (h' := (MP X c (upn S (4 * (S 0) + 1) a) bf kn kp ik od bu le th mk ol tu ib sp so al br tr at_ iw ha se o)) rfl trivial (NA (by omega)) ?_
  refine Runs.goH 2 (cs := [vp_in (N (4 * (S 0) + 2)) 63]) (pc' := 30) (pl' := [some (.ref 23), some (.int (N a)), some (.int (N b)), some (.int (N c1)), some (.int (N d)), some (.int (N (4 * (S 0) + 1)))]) (st' := []) (h1 := (GP X c (upd (aN (upn S (4 * (S 0) + 1) a)) (N (4 * (S 0) + 2)).toNatClampNeg (N b)) (aN bf) (N kn) (aN kp) (bI ik) (aN od) (aN bu) (N le) (N th) (aN mk) (aN ol) (N tu) (bI ib) (aN sp) (N so) (aN al) (aN br) (aN tr) (N at_) (bI iw) ha se o)) (h' := (MP X c (upn (upn S (4 * (S 0) + 1) a) (4 * (S 0) + 2) b) bf kn kp ik od bu le th mk ol tu ib sp so al br tr at_ iw ha se o)) rfl ⟨(N_in (by omega) (by decide)), trivial⟩ (congrArg (fun zq9 => (GP X c zq9 (aN bf) (N kn) (aN kp) (bI ik) (aN od) (aN bu) (N le) (N th) (aN mk) (aN ol) (N tu) (bI ib) (aN sp) (N so) (aN al) (aN br) (aN tr) (N at_) (bI iw) ha se o)) ((aN_up (by omega)))) ?_
  refine Runs.topI 5 (cs := []) (pc' := 38) (pl' := [some (.ref 23), some (.int (N a)), some (.int (N b)), some (.int (N c1)), some (.int (N d)), some (.int (N (4 * (S 0) + 1)))]) (v := (N (4 * (S 0) + 1)) + (N 2)) (v' := N (4 * (S 0) + 3)) (st' := [.ref 24]) (h' := (MP X c (upn (upn S (4 * (S 0) + 1) a) (4 * (S 0) + 2) b) bf kn kp ik od bu le th mk ol tu ib sp so al br tr at_ iw ha se o)) rfl trivial (NA (by omega)) ?_
  refine Runs.goH 2 (cs := [vp_in (N (4 * (S 0) + 3)) 63]) (pc' := 40) (pl' := [some (.ref 23), some (.int (N a)), some (.int (N b)), some (.int (N c1)), some (.int (N d)), some (.int (N (4 * (S 0) + 1)))]) (st' := []) (h1 := (GP X c (upd (aN (upn (upn S (4 * (S 0) + 1) a) (4 * (S 0) + 2) b)) (N (4 * (S 0) + 3)).toNatClampNeg (N c1)) (aN bf) (N kn) (aN kp) (bI ik) (aN od) (aN bu) (N le) (N th) (aN mk) (aN ol) (N tu) (bI ib) (aN sp) (N so) (aN al) (aN br) (aN tr) (N at_) (bI iw) ha se o)) (h' := (MP X c (upn (upn (upn S (4 * (S 0) + 1) a) (4 * (S 0) + 2) b) (4 * (S 0) + 3) c1) bf kn kp ik od bu le th mk ol tu ib sp so al br tr at_ iw ha se o)) rfl ⟨(N_in (by omega) (by decide)), trivial⟩ (congrArg (fun zq9 => (GP X c zq9 (aN bf) (N kn) (aN kp) (bI ik) (aN od) (aN bu) (N le) (N th) (aN mk) (aN ol) (N tu) (bI ib) (aN sp) (N so) (aN al) (aN br) (aN tr) (N at_) (bI iw) ha se o)) ((aN_up (by omega)))) ?_
  refine Runs.topI 5 (cs := []) (pc' := 48) (pl' := [some (.ref 23), some (.int (N a)), some (.int (N b)), some (.int (N c1)), some (.int (N d)), some (.int (N (4 * (S 0) + 1)))]) (v := (N (4 * (S 0) + 1)) + (N 3)) (v' := N (4 * (S 0) + 4)) (st' := [.ref 24]) (h' := (MP X c (upn (upn (upn S (4 * (S 0) + 1) a) (4 * (S 0) + 2) b) (4 * (S 0) + 3) c1) bf kn kp ik od bu le th mk ol tu ib sp so al br tr at_ iw ha se o)) rfl trivial (NA (by omega)) ?_
  refine Runs.goH 2 (cs := [vp_in (N (4 * (S 0) + 4)) 63]) (pc' := 51) (pl' := [some (.ref 23), some (.int (N a)), some (.int (N b)), some (.int (N c1)), some (.int (N d)), some (.int (N (4 * (S 0) + 1)))]) (st' := []) (h1 := (GP X c (upd (aN (upn (upn (upn S (4 * (S 0) + 1) a) (4 * (S 0) + 2) b) (4 * (S 0) + 3) c1)) (N (4 * (S 0) + 4)).toNatClampNeg (N d)) (aN bf) (N kn) (aN kp) (bI ik) (aN od) (aN bu) (N le) (N th) (aN mk) (aN ol) (N tu) (bI ib) (aN sp) (N so) (aN al) (aN br) (aN tr) (N at_) (bI iw) ha se o)) (h' := (MP X c (upn (upn (upn (upn S (4 * (S 0) + 1) a) (4 * (S 0) + 2) b) (4 * (S 0) + 3) c1) (4 * (S 0) + 4) d) bf kn kp ik od bu le th mk ol tu ib sp so al br tr at_ iw ha se o)) rfl ⟨(N_in (by omega) (by decide)), trivial⟩ (congrArg (fun zq9 => (GP X c zq9 (aN bf) (N kn) (aN kp) (bI ik) (aN od) (aN bu) (N le) (N th) (aN mk) (aN ol) (N tu) (bI ib) (aN sp) (N so) (aN al) (aN br) (aN tr) (N at_) (bI iw) ha se o)) ((aN_up (by omega)))) ?_
  refine Runs.topI 5 (cs := [vp_in (N 0) 63]) (pc' := 58) (pl' := [some (.ref 23), some (.int (N a)), some (.int (N b)), some (.int (N c1)), some (.int (N d)), some (.int (N (4 * (S 0) + 1)))]) (v := aN (upn (upn (upn (upn S (4 * (S 0) + 1) a) (4 * (S 0) + 2) b) (4 * (S 0) + 3) c1) (4 * (S 0) + 4) d) (N 0).toNatClampNeg) (v' := N (S 0)) (st' := [.int (N 0), .ref 24]) (h' := (MP X c (upn (upn (upn (upn S (4 * (S 0) + 1) a) (4 * (S 0) + 2) b) (4 * (S 0) + 3) c1) (4 * (S 0) + 4) d) bf kn kp ik od bu le th mk ol tu ib sp so al br tr at_ iw ha se o)) rfl ⟨(N_in (by omega) (by decide)), trivial⟩ ((aN_at (by omega)).trans (congrArg N (by simp [upn]))) ?_
  refine Runs.topI 2 (cs := []) (pc' := 60) (pl' := [some (.ref 23), some (.int (N a)), some (.int (N b)), some (.int (N c1)), some (.int (N d)), some (.int (N (4 * (S 0) + 1)))]) (v := (N (S 0)) + (N 1)) (v' := N (S 0 + 1)) (st' := [.int (N 0), .ref 24]) (h' := (MP X c (upn (upn (upn (upn S (4 * (S 0) + 1) a) (4 * (S 0) + 2) b) (4 * (S 0) + 3) c1) (4 * (S 0) + 4) d) bf kn kp ik od bu le th mk ol tu ib sp so al br tr at_ iw ha se o)) rfl trivial (NA (by omega)) ?_
  refine Runs.goH 1 (cs := [vp_in (N 0) 63]) (pc' := 61) (pl' := [some (.ref 23), some (.int (N a)), some (.int (N b)), some (.int (N c1)), some (.int (N d)), some (.int (N (4 * (S 0) + 1)))]) (st' := []) (h1 := (GP X c (upd (aN (upn (upn (upn (upn S (4 * (S 0) + 1) a) (4 * (S 0) + 2) b) (4 * (S 0) + 3) c1) (4 * (S 0) + 4) d)) (N 0).toNatClampNeg (N (S 0 + 1))) (aN bf) (N kn) (aN kp) (bI ik) (aN od) (aN bu) (N le) (N th) (aN mk) (aN ol) (N tu) (bI ib) (aN sp) (N so) (aN al) (aN br) (aN tr) (N at_) (bI iw) ha se o)) (h' := (MP X c (upn (upn (upn (upn (upn S (4 * (S 0) + 1) a) (4 * (S 0) + 2) b) (4 * (S 0) + 3) c1) (4 * (S 0) + 4) d) 0 (S 0 + 1)) bf kn kp ik od bu le th mk ol tu ib sp so al br tr at_ iw ha se o)) rfl ⟨(N_in (by omega) (by decide)), trivial⟩ (congrArg (fun zq9 => (GP X c zq9 (aN bf) (N kn) (aN kp) (bI ik) (aN od) (aN bu) (N le) (N th) (aN mk) (aN ol) (N tu) (bI ib) (aN sp) (N so) (aN al) (aN br) (aN tr) (N at_) (bI iw) ha se o)) ((aN_up (by omega)))) ?_
  refine Runs.topI 4 (cs := [vp_in (N 0) 63]) (pc' := 67) (pl' := [some (.ref 23), some (.int (N a)), some (.int (N b)), some (.int (N c1)), some (.int (N d)), some (.int (N (4 * (S 0) + 1)))]) (v := aN (upn (upn (upn (upn (upn S (4 * (S 0) + 1) a) (4 * (S 0) + 2) b) (4 * (S 0) + 3) c1) (4 * (S 0) + 4) d) 0 (S 0 + 1)) (N 0).toNatClampNeg) (v' := N (S 0 + 1)) (st' := []) (h' := (MP X c (upn (upn (upn (upn (upn S (4 * (S 0) + 1) a) (4 * (S 0) + 2) b) (4 * (S 0) + 3) c1) (4 * (S 0) + 4) d) 0 (S 0 + 1)) bf kn kp ik od bu le th mk ol tu ib sp so al br tr at_ iw ha se o)) rfl ⟨(N_in (by omega) (by decide)), trivial⟩ ((aN_at (by omega)).trans (congrArg N (by simp [upn]))) ?_
  refine Runs.topI 2 (cs := []) (pc' := 69) (pl' := [some (.ref 23), some (.int (N a)), some (.int (N b)), some (.int (N c1)), some (.int (N d)), some (.int (N (4 * (S 0) + 1)))]) (v := (N (S 0 + 1)) - (N 1)) (v' := N (S 0)) (st' := []) (h' := (MP X c (upn (upn (upn (upn (upn S (4 * (S 0) + 1) a) (4 * (S 0) + 2) b) (4 * (S 0) + 3) c1) (4 * (S 0) + 4) d) 0 (S 0 + 1)) bf kn kp ik od bu le th mk ol tu ib sp so al br tr at_ iw ha se o)) rfl trivial (NS (by omega)) ?_
  exact Runs.retE (cs := []) rfl trivial (retI rfl) rfl
theorem k_crossed {X : Nat × (Nat → Int32)} {c : CT} {S bf : Nat → Nat} {kn : Nat} {kp : Nat → Nat} {ik : Bool} {od bu : Nat → Nat} {le th : Nat} {mk ol : Nat → Nat} {tu : Nat} {ib : Bool} {sp : Nat → Nat} {so : Nat} {al br tr : Nat → Nat} {at_ : Nat} {iw : Bool} {ha : Int64} {se : Nat → Int32} {o : Nat → Int64} {i p : Nat} (hS : ∀ j, j < 61 → S j < 16) (hi : i < 12) (hp : p < 4) : Call 0 mX7_crossed [.ref 23, .int (N i), .int (N p)] (MP X c S bf kn kp ik od bu le th mk ol tu ib sp so al br tr at_ iw ha se o) (.inl (some (.int (bI (bt (S (i + 49)) p))))) (MP X c S bf kn kp ik od bu le th mk ol tu ib sp so al br tr at_ iw ha se o) 0 := by
  refine Runs.topI 5 (cs := []) (pc' := 8) (pl' := [some (.ref 23), some (.int (N i)), some (.int (N p))]) (v := (N 49) + (N i)) (v' := N (i + 49)) (st' := [.ref 24]) (h' := (MP X c S bf kn kp ik od bu le th mk ol tu ib sp so al br tr at_ iw ha se o)) rfl trivial (NA (by omega)) ?_
  refine Runs.topI 1 (cs := [vp_in (N (i + 49)) 63]) (pc' := 9) (pl' := [some (.ref 23), some (.int (N i)), some (.int (N p))]) (v := aN S (N (i + 49)).toNatClampNeg) (v' := N (S (i + 49))) (st' := []) (h' := (MP X c S bf kn kp ik od bu le th mk ol tu ib sp so al br tr at_ iw ha se o)) rfl ⟨(N_in (by omega) (by decide)), trivial⟩ (aN_at (by omega)) ?_
  have b1 := hS (i + 49) (by omega)
  refine Runs.topI 2 (cs := []) (pc' := 11) (pl' := [some (.ref 23), some (.int (N i)), some (.int (N p))]) (v := (N (S (i + 49))) >>> (N p &&& 31)) (v' := N ((S (i + 49)) / 2 ^ p)) (st' := []) (h' := (MP X c S bf kn kp ik od bu le th mk ol tu ib sp so al br tr at_ iw ha se o)) rfl trivial (N_shr (by omega) (by omega)) ?_
  refine Runs.topI 2 (cs := []) (pc' := 13) (pl' := [some (.ref 23), some (.int (N i)), some (.int (N p))]) (v := (N ((S (i + 49)) / 2 ^ p)) &&& (N 1)) (v' := N (((S (i + 49)) / 2 ^ p) % 2)) (st' := []) (h' := (MP X c S bf kn kp ik od bu le th mk ol tu ib sp so al br tr at_ iw ha se o)) rfl trivial (N_and1 _) ?_
  refine Runs.go 2 (cs := []) (pc' := bif decide (¬ (N (((S (i + 49)) / 2 ^ p) % 2)) = (N 1)) then 21 else 17) (pl' := [some (.ref 23), some (.int (N i)), some (.int (N p))]) (st' := []) (h' := (MP X c S bf kn kp ik od bu le th mk ol tu ib sp so al br tr at_ iw ha se o)) rfl trivial ?_
  refine Runs.br (fun z2 => ?_) (fun z2 => ?_)
  · replace z2 : ¬ ((((S (i + 49)) / 2 ^ p) % 2) = 1) := mt (N_eq (a := (((S (i + 49)) / 2 ^ p) % 2)) (b := 1) (by omega) (by omega)).mpr (of_decide_eq_true z2)
    refine Runs.go 1 (cs := []) (pc' := 22) (pl' := [some (.ref 23), some (.int (N i)), some (.int (N p))]) (st' := [.int (N 0)]) (h' := (MP X c S bf kn kp ik od bu le th mk ol tu ib sp so al br tr at_ iw ha se o)) rfl trivial ?_
    refine Runs.retE (cs := [(N 0 : Int32) = 0 ∨ (N 0 : Int32) = 1]) rfl ⟨Or.inl rfl, trivial⟩ (retI (bIF ?_)) rfl
    simp_all [bt]
  · replace z2 : (((S (i + 49)) / 2 ^ p) % 2) = 1 := (N_eq (a := (((S (i + 49)) / 2 ^ p) % 2)) (b := 1) (by omega) (by omega)).mp (Classical.not_not.mp (of_decide_eq_false z2))
    refine Runs.go 2 (cs := []) (pc' := 22) (pl' := [some (.ref 23), some (.int (N i)), some (.int (N p))]) (st' := [.int (N 1)]) (h' := (MP X c S bf kn kp ik od bu le th mk ol tu ib sp so al br tr at_ iw ha se o)) rfl trivial ?_
    refine Runs.retE (cs := [(N 1 : Int32) = 0 ∨ (N 1 : Int32) = 1]) rfl ⟨Or.inr rfl, trivial⟩ (retI (bIT ?_)) rfl
    simp_all [bt]
def crO (S : Nat → Nat) (i p : Nat) : Nat → Nat := upn (upn S (i + 49) (S (i + 49) ||| 2 ^ p)) 61 (S 61 + 1)
theorem k_crossesOut {X : Nat × (Nat → Int32)} {c : CT} {S bf : Nat → Nat} {kn : Nat} {kp : Nat → Nat} {ik : Bool} {od bu : Nat → Nat} {le th : Nat} {mk ol : Nat → Nat} {tu : Nat} {ib : Bool} {sp : Nat → Nat} {so : Nat} {al br tr : Nat → Nat} {at_ : Nat} {iw : Bool} {ha : Int64} {se : Nat → Int32} {o : Nat → Int64} {i p : Nat} (hS : ∀ j, j < 61 → S j < 16) (hi : i < 12) (hp : p < 4) : Call 1 mX7_crossesOut [.ref 23, .int (N i), .int (N p)] (MP X c S bf kn kp ik od bu le th mk ol tu ib sp so al br tr at_ iw ha se o) (.inl (some (.int (N (4 - pc4 (S (i + 49) ||| 2 ^ p)))))) (MP X c (crO S i p) bf kn kp ik od bu le th mk ol tu ib sp so al br tr at_ iw ha se o) 0 := by
  have hpp := p2_lt hp
  have hor := or_16 (hS (i + 49) (by omega)) hpp
  have hle := pc4_le (S (i + 49) ||| 2 ^ p)
  refine Runs.topI 5 (cs := []) (pc' := 8) (pl' := [some (.ref 23), some (.int (N i)), some (.int (N p))]) (v := (N 49) + (N i)) (v' := N (i + 49)) (st' := [.ref 24]) (h' := (MP X c S bf kn kp ik od bu le th mk ol tu ib sp so al br tr at_ iw ha se o)) rfl trivial (NA (by omega)) ?_
  refine Runs.topI 2 (cs := [vp_in (N (i + 49)) 63]) (pc' := 10) (pl' := [some (.ref 23), some (.int (N i)), some (.int (N p))]) (v := aN S (N (i + 49)).toNatClampNeg) (v' := N (S (i + 49))) (st' := [.int (N (i + 49)), .ref 24]) (h' := (MP X c S bf kn kp ik od bu le th mk ol tu ib sp so al br tr at_ iw ha se o)) rfl ⟨(N_in (by omega) (by decide)), trivial⟩ (aN_at (by omega)) ?_
  have b1 := hS (i + 49) (by omega)
  refine Runs.topI 3 (cs := []) (pc' := 13) (pl' := [some (.ref 23), some (.int (N i)), some (.int (N p))]) (v := (N 1) <<< (N p &&& 31)) (v' := N (2 ^ p)) (st' := [.int (N (S (i + 49))), .int (N (i + 49)), .ref 24]) (h' := (MP X c S bf kn kp ik od bu le th mk ol tu ib sp so al br tr at_ iw ha se o)) rfl trivial (NHL (by omega) (Nat.one_mul _)) ?_
  refine Runs.topI 1 (cs := []) (pc' := 14) (pl' := [some (.ref 23), some (.int (N i)), some (.int (N p))]) (v := (N (S (i + 49))) ||| (N (2 ^ p))) (v' := N ((S (i + 49)) ||| (2 ^ p))) (st' := [.int (N (i + 49)), .ref 24]) (h' := (MP X c S bf kn kp ik od bu le th mk ol tu ib sp so al br tr at_ iw ha se o)) rfl trivial (N_or _ _) ?_
  refine Runs.goH 1 (cs := [vp_in (N (i + 49)) 63]) (pc' := 15) (pl' := [some (.ref 23), some (.int (N i)), some (.int (N p))]) (st' := []) (h1 := (GP X c (upd (aN S) (N (i + 49)).toNatClampNeg (N ((S (i + 49)) ||| (2 ^ p)))) (aN bf) (N kn) (aN kp) (bI ik) (aN od) (aN bu) (N le) (N th) (aN mk) (aN ol) (N tu) (bI ib) (aN sp) (N so) (aN al) (aN br) (aN tr) (N at_) (bI iw) ha se o)) (h' := (MP X c (upn S (i + 49) ((S (i + 49)) ||| (2 ^ p))) bf kn kp ik od bu le th mk ol tu ib sp so al br tr at_ iw ha se o)) rfl ⟨(N_in (by omega) (by decide)), trivial⟩ (congrArg (fun zq9 => (GP X c zq9 (aN bf) (N kn) (aN kp) (bI ik) (aN od) (aN bu) (N le) (N th) (aN mk) (aN ol) (N tu) (bI ib) (aN sp) (N so) (aN al) (aN br) (aN tr) (N at_) (bI iw) ha se o)) ((aN_up (by omega)))) ?_
  refine Runs.topI 5 (cs := [vp_in (N 61) 63]) (pc' := 23) (pl' := [some (.ref 23), some (.int (N i)), some (.int (N p))]) (v := aN (upn S (i + 49) ((S (i + 49)) ||| (2 ^ p))) (N 61).toNatClampNeg) (v' := N (S 61)) (st' := [.int (N 61), .ref 24]) (h' := (MP X c (upn S (i + 49) ((S (i + 49)) ||| (2 ^ p))) bf kn kp ik od bu le th mk ol tu ib sp so al br tr at_ iw ha se o)) rfl ⟨(N_in (by omega) (by decide)), trivial⟩ ((aN_at (by omega)).trans (congrArg N (by simp [upn]; try omega))) ?_
  refine Runs.topI 2 (cs := []) (pc' := 25) (pl' := [some (.ref 23), some (.int (N i)), some (.int (N p))]) (v := (N (S 61)) + (N 1)) (v' := N (S 61 + 1)) (st' := [.int (N 61), .ref 24]) (h' := (MP X c (upn S (i + 49) ((S (i + 49)) ||| (2 ^ p))) bf kn kp ik od bu le th mk ol tu ib sp so al br tr at_ iw ha se o)) rfl trivial (NA (by omega)) ?_
  refine Runs.goH 1 (cs := [vp_in (N 61) 63]) (pc' := 26) (pl' := [some (.ref 23), some (.int (N i)), some (.int (N p))]) (st' := []) (h1 := (GP X c (upd (aN (upn S (i + 49) ((S (i + 49)) ||| (2 ^ p)))) (N 61).toNatClampNeg (N (S 61 + 1))) (aN bf) (N kn) (aN kp) (bI ik) (aN od) (aN bu) (N le) (N th) (aN mk) (aN ol) (N tu) (bI ib) (aN sp) (N so) (aN al) (aN br) (aN tr) (N at_) (bI iw) ha se o)) (h' := (MP X c (upn (upn S (i + 49) ((S (i + 49)) ||| (2 ^ p))) 61 (S 61 + 1)) bf kn kp ik od bu le th mk ol tu ib sp so al br tr at_ iw ha se o)) rfl ⟨(N_in (by omega) (by decide)), trivial⟩ (congrArg (fun zq9 => (GP X c zq9 (aN bf) (N kn) (aN kp) (bI ik) (aN od) (aN bu) (N le) (N th) (aN mk) (aN ol) (N tu) (bI ib) (aN sp) (N so) (aN al) (aN br) (aN tr) (N at_) (bI iw) ha se o)) ((aN_up (by omega)))) ?_
  refine Runs.topI 6 (cs := []) (pc' := 35) (pl' := [some (.ref 23), some (.int (N i)), some (.int (N p))]) (v := (N 49) + (N i)) (v' := N (i + 49)) (st' := [.ref 24, .int (N 4)]) (h' := (MP X c (upn (upn S (i + 49) ((S (i + 49)) ||| (2 ^ p))) 61 (S 61 + 1)) bf kn kp ik od bu le th mk ol tu ib sp so al br tr at_ iw ha se o)) rfl trivial (NA (by omega)) ?_
  refine Runs.topI 1 (cs := [vp_in (N (i + 49)) 63]) (pc' := 36) (pl' := [some (.ref 23), some (.int (N i)), some (.int (N p))]) (v := aN (upn (upn S (i + 49) ((S (i + 49)) ||| (2 ^ p))) 61 (S 61 + 1)) (N (i + 49)).toNatClampNeg) (v' := N (S (i + 49) ||| 2 ^ p)) (st' := [.int (N 4)]) (h' := (MP X c (upn (upn S (i + 49) ((S (i + 49)) ||| (2 ^ p))) 61 (S 61 + 1)) bf kn kp ik od bu le th mk ol tu ib sp so al br tr at_ iw ha se o)) rfl ⟨(N_in (by omega) (by decide)), trivial⟩ ((aN_at (by omega)).trans (congrArg N (by simp [upn]; try omega))) ?_
  refine Runs.cal (y := mX7_bits) (as := [.int (N (S (i + 49) ||| 2 ^ p))]) (rest := [.int (N 4)]) (pc' := 39) (cs := []) (v := some (.int (N (pc4 (S (i + 49) ||| 2 ^ p))))) (h1 := (MP X c (upn (upn S (i + 49) ((S (i + 49)) ||| (2 ^ p))) 61 (S 61 + 1)) bf kn kp ik od bu le th mk ol tu ib sp so al br tr at_ iw ha se o)) rfl trivial (by decide) (k_bits (by omega)) ?_
  show Runs _ _ 39 _ [.int (N (pc4 (S (i + 49) ||| 2 ^ p))), .int (N 4)] _ _ _ _
  refine Runs.topI 1 (cs := []) (pc' := 40) (pl' := [some (.ref 23), some (.int (N i)), some (.int (N p))]) (v := (N 4) - (N (pc4 (S (i + 49) ||| 2 ^ p)))) (v' := N (4 - (pc4 (S (i + 49) ||| 2 ^ p)))) (st' := []) (h' := (MP X c (upn (upn S (i + 49) ((S (i + 49)) ||| (2 ^ p))) 61 (S 61 + 1)) bf kn kp ik od bu le th mk ol tu ib sp so al br tr at_ iw ha se o)) rfl trivial (NS (by omega)) ?_
  exact Runs.retE (cs := []) rfl trivial (retI rfl) rfl
/-- whether two places fit a clue of two items -/
def fitB (so a b : Nat) : Bool := if so = 0 then decide (a = b) else if so = 1 then !decide (a = b) else if so = 2 then decide (a < b) else decide (a = b + 1) || decide (b = a + 1)
theorem N_sub1 {a b : Nat} (ha : a < 2147483648) (hb : b < 2147483648) : N a - N b = N 1 ↔ a = b + 1 := by
  constructor
  · intro h
    have h2 : N a = N (b + 1) := by
      have h9 : N a - N b + N b = N a := Int32.sub_add_cancel _ _
      rw [← h9, h, N_add, Nat.add_comm]
    have h3 : N a - N b - N 1 = 0 := by rw [h]; rfl
    by_cases hb1 : b + 1 < 2147483648
    · exact (N_eq ha hb1).mp h2
    · have hb2 : b = 2147483647 := by omega
      subst hb2
      exfalso
      have h4 : (N a).toInt = (N (2147483647 + 1)).toInt := by rw [h2]
      rw [N_toInt ha, show (N (2147483647 + 1)).toInt = -2147483648 by decide] at h4
      omega
  · rintro rfl
    exact NS (by omega)
theorem k_fits {so a b : Nat} {h : PH} (hs : so < 16) (ha : a < 4) (hb : b < 4) : Call 0 mX7_fits [.int (N so), .int (N a), .int (N b)] h (.inl (some (.int (bI (fitB so a b))))) h 0 := by
  refine Runs.go 2 (cs := []) (pc' := bif decide (¬ (N so) = 0) then 17 else 4) (pl' := [some (.int (N so)), some (.int (N a)), some (.int (N b))]) (st' := []) (h' := h) rfl trivial ?_
  refine Runs.br (fun z1 => ?_) (fun z1 => ?_)
  · replace z1 : ¬ (so = 0) := mt (N_eq (a := so) (b := 0) (by omega) (by omega)).mpr (of_decide_eq_true z1)
    refine Runs.go 3 (cs := []) (pc' := bif decide (¬ (N so) = (N 1)) then 35 else 22) (pl' := [some (.int (N so)), some (.int (N a)), some (.int (N b))]) (st' := []) (h' := h) rfl trivial ?_
    refine Runs.br (fun z2 => ?_) (fun z2 => ?_)
    · replace z2 : ¬ (so = 1) := mt (N_eq (a := so) (b := 1) (by omega) (by omega)).mpr (of_decide_eq_true z2)
      refine Runs.go 3 (cs := []) (pc' := bif decide (¬ (N so) = (N 2)) then 53 else 40) (pl' := [some (.int (N so)), some (.int (N a)), some (.int (N b))]) (st' := []) (h' := h) rfl trivial ?_
      refine Runs.br (fun z3 => ?_) (fun z3 => ?_)
      · replace z3 : ¬ (so = 2) := mt (N_eq (a := so) (b := 2) (by omega) (by omega)).mpr (of_decide_eq_true z3)
        refine Runs.topI 3 (cs := []) (pc' := 56) (pl' := [some (.int (N so)), some (.int (N a)), some (.int (N b))]) (v := (N a) - (N b)) (v' := N a - N b) (st' := []) (h' := h) rfl trivial rfl ?_
        refine Runs.go 2 (cs := []) (pc' := bif decide ((N a - N b) = (N 1)) then 67 else 60) (pl' := [some (.int (N so)), some (.int (N a)), some (.int (N b))]) (st' := []) (h' := h) rfl trivial ?_
        refine Runs.br (fun z4 => ?_) (fun z4 => ?_)
        · replace z4 : (N a - N b) = (N 1) := Iff.rfl.mp (of_decide_eq_true z4)
          refine Runs.go 2 (cs := []) (pc' := 72) (pl' := [some (.int (N so)), some (.int (N a)), some (.int (N b))]) (st' := [.int (N 1)]) (h' := h) rfl trivial ?_
          refine Runs.retE (cs := [(N 1 : Int32) = 0 ∨ (N 1 : Int32) = 1]) rfl ⟨Or.inr rfl, trivial⟩ (retI (bIT ?_)) rfl
          first | (exfalso; omega) | (simp_all [fitB, N_sub1 (show a < 2147483648 by omega) (show b < 2147483648 by omega), N_sub1 (show b < 2147483648 by omega) (show a < 2147483648 by omega)])
        · replace z4 : ¬ ((N a - N b) = (N 1)) := mt Iff.rfl.mpr (of_decide_eq_false z4)
          refine Runs.topI 3 (cs := []) (pc' := 63) (pl' := [some (.int (N so)), some (.int (N a)), some (.int (N b))]) (v := (N b) - (N a)) (v' := N b - N a) (st' := []) (h' := h) rfl trivial rfl ?_
          refine Runs.go 2 (cs := []) (pc' := bif decide (¬ (N b - N a) = (N 1)) then 71 else 67) (pl' := [some (.int (N so)), some (.int (N a)), some (.int (N b))]) (st' := []) (h' := h) rfl trivial ?_
          refine Runs.br (fun z5 => ?_) (fun z5 => ?_)
          · replace z5 : ¬ ((N b - N a) = (N 1)) := mt Iff.rfl.mpr (of_decide_eq_true z5)
            refine Runs.go 1 (cs := []) (pc' := 72) (pl' := [some (.int (N so)), some (.int (N a)), some (.int (N b))]) (st' := [.int (N 0)]) (h' := h) rfl trivial ?_
            refine Runs.retE (cs := [(N 0 : Int32) = 0 ∨ (N 0 : Int32) = 1]) rfl ⟨Or.inl rfl, trivial⟩ (retI (bIF ?_)) rfl
            first | (exfalso; omega) | (simp_all [fitB, N_sub1 (show a < 2147483648 by omega) (show b < 2147483648 by omega), N_sub1 (show b < 2147483648 by omega) (show a < 2147483648 by omega)])
          · replace z5 : (N b - N a) = (N 1) := Iff.rfl.mp (Classical.not_not.mp (of_decide_eq_false z5))
            refine Runs.go 2 (cs := []) (pc' := 72) (pl' := [some (.int (N so)), some (.int (N a)), some (.int (N b))]) (st' := [.int (N 1)]) (h' := h) rfl trivial ?_
            refine Runs.retE (cs := [(N 1 : Int32) = 0 ∨ (N 1 : Int32) = 1]) rfl ⟨Or.inr rfl, trivial⟩ (retI (bIT ?_)) rfl
            first | (exfalso; omega) | (simp_all [fitB, N_sub1 (show a < 2147483648 by omega) (show b < 2147483648 by omega), N_sub1 (show b < 2147483648 by omega) (show a < 2147483648 by omega)])
      · replace z3 : so = 2 := (N_eq (a := so) (b := 2) (by omega) (by omega)).mp (Classical.not_not.mp (of_decide_eq_false z3))
        refine Runs.go 3 (cs := []) (pc' := bif decide ((N b) ≤ (N a)) then 49 else 45) (pl' := [some (.int (N so)), some (.int (N a)), some (.int (N b))]) (st' := []) (h' := h) rfl trivial ?_
        refine Runs.br (fun z6 => ?_) (fun z6 => ?_)
        · replace z6 : b ≤ a := (N_le (a := b) (b := a) (by omega) (by omega)).mp (of_decide_eq_true z6)
          refine Runs.go 2 (cs := []) (pc' := 72) (pl' := [some (.int (N so)), some (.int (N a)), some (.int (N b))]) (st' := [.int (N 0)]) (h' := h) rfl trivial ?_
          refine Runs.retE (cs := [(N 0 : Int32) = 0 ∨ (N 0 : Int32) = 1]) rfl ⟨Or.inl rfl, trivial⟩ (retI (bIF ?_)) rfl
          first | (exfalso; omega) | (simp_all [fitB, N_sub1 (show a < 2147483648 by omega) (show b < 2147483648 by omega), N_sub1 (show b < 2147483648 by omega) (show a < 2147483648 by omega)])
        · replace z6 : ¬ (b ≤ a) := mt (N_le (a := b) (b := a) (by omega) (by omega)).mpr (of_decide_eq_false z6)
          refine Runs.go 2 (cs := []) (pc' := 72) (pl' := [some (.int (N so)), some (.int (N a)), some (.int (N b))]) (st' := [.int (N 1)]) (h' := h) rfl trivial ?_
          refine Runs.retE (cs := [(N 1 : Int32) = 0 ∨ (N 1 : Int32) = 1]) rfl ⟨Or.inr rfl, trivial⟩ (retI (bIT ?_)) rfl
          first | (exfalso; omega) | (simp_all [fitB, N_sub1 (show a < 2147483648 by omega) (show b < 2147483648 by omega), N_sub1 (show b < 2147483648 by omega) (show a < 2147483648 by omega)])
    · replace z2 : so = 1 := (N_eq (a := so) (b := 1) (by omega) (by omega)).mp (Classical.not_not.mp (of_decide_eq_false z2))
      refine Runs.go 3 (cs := []) (pc' := bif decide ((N a) = (N b)) then 31 else 27) (pl' := [some (.int (N so)), some (.int (N a)), some (.int (N b))]) (st' := []) (h' := h) rfl trivial ?_
      refine Runs.br (fun z7 => ?_) (fun z7 => ?_)
      · replace z7 : a = b := (N_eq (a := a) (b := b) (by omega) (by omega)).mp (of_decide_eq_true z7)
        refine Runs.go 2 (cs := []) (pc' := 72) (pl' := [some (.int (N so)), some (.int (N a)), some (.int (N b))]) (st' := [.int (N 0)]) (h' := h) rfl trivial ?_
        refine Runs.retE (cs := [(N 0 : Int32) = 0 ∨ (N 0 : Int32) = 1]) rfl ⟨Or.inl rfl, trivial⟩ (retI (bIF ?_)) rfl
        first | (exfalso; omega) | (simp_all [fitB, N_sub1 (show a < 2147483648 by omega) (show b < 2147483648 by omega), N_sub1 (show b < 2147483648 by omega) (show a < 2147483648 by omega)])
      · replace z7 : ¬ (a = b) := mt (N_eq (a := a) (b := b) (by omega) (by omega)).mpr (of_decide_eq_false z7)
        refine Runs.go 2 (cs := []) (pc' := 72) (pl' := [some (.int (N so)), some (.int (N a)), some (.int (N b))]) (st' := [.int (N 1)]) (h' := h) rfl trivial ?_
        refine Runs.retE (cs := [(N 1 : Int32) = 0 ∨ (N 1 : Int32) = 1]) rfl ⟨Or.inr rfl, trivial⟩ (retI (bIT ?_)) rfl
        first | (exfalso; omega) | (simp_all [fitB, N_sub1 (show a < 2147483648 by omega) (show b < 2147483648 by omega), N_sub1 (show b < 2147483648 by omega) (show a < 2147483648 by omega)])
  · replace z1 : so = 0 := (N_eq (a := so) (b := 0) (by omega) (by omega)).mp (Classical.not_not.mp (of_decide_eq_false z1))
    refine Runs.go 3 (cs := []) (pc' := bif decide (¬ (N a) = (N b)) then 13 else 9) (pl' := [some (.int (N so)), some (.int (N a)), some (.int (N b))]) (st' := []) (h' := h) rfl trivial ?_
    refine Runs.br (fun z8 => ?_) (fun z8 => ?_)
    · replace z8 : ¬ (a = b) := mt (N_eq (a := a) (b := b) (by omega) (by omega)).mpr (of_decide_eq_true z8)
      refine Runs.go 2 (cs := []) (pc' := 72) (pl' := [some (.int (N so)), some (.int (N a)), some (.int (N b))]) (st' := [.int (N 0)]) (h' := h) rfl trivial ?_
      refine Runs.retE (cs := [(N 0 : Int32) = 0 ∨ (N 0 : Int32) = 1]) rfl ⟨Or.inl rfl, trivial⟩ (retI (bIF ?_)) rfl
      first | (exfalso; omega) | (simp_all [fitB, N_sub1 (show a < 2147483648 by omega) (show b < 2147483648 by omega), N_sub1 (show b < 2147483648 by omega) (show a < 2147483648 by omega)])
    · replace z8 : a = b := (N_eq (a := a) (b := b) (by omega) (by omega)).mp (Classical.not_not.mp (of_decide_eq_false z8))
      refine Runs.go 2 (cs := []) (pc' := 72) (pl' := [some (.int (N so)), some (.int (N a)), some (.int (N b))]) (st' := [.int (N 1)]) (h' := h) rfl trivial ?_
      refine Runs.retE (cs := [(N 1 : Int32) = 0 ∨ (N 1 : Int32) = 1]) rfl ⟨Or.inr rfl, trivial⟩ (retI (bIT ?_)) rfl
      first | (exfalso; omega) | (simp_all [fitB, N_sub1 (show a < 2147483648 by omega) (show b < 2147483648 by omega), N_sub1 (show b < 2147483648 by omega) (show a < 2147483648 by omega)])
