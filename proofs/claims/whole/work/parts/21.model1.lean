/-! the reference: its small methods -/
def inB (v a b : Int32) : Bool := decide (a ≤ v) && decide (v ≤ b)
theorem k_in {v a b : Int32} {h : PH}  : Call 0 mX7_in [.int v, .int a, .int b] h (.inl (some (.int (bI (inB v a b))))) h 0 := by
  refine Runs.go 3 (cs := []) (pc' := bif decide (v < a) then 14 else 5) (pl' := [some (.int v), some (.int a), some (.int b)]) (st' := []) (h' := h) rfl trivial ?_
  refine Runs.br (fun z1 => ?_) (fun z1 => ?_)
  · replace z1 := of_decide_eq_true z1
    refine Runs.go 1 (cs := []) (pc' := 15) (pl' := [some (.int v), some (.int a), some (.int b)]) (st' := [.int 0]) (h' := h) rfl trivial ?_
    refine Runs.retE (cs := [(0 : Int32) = 0 ∨ (0 : Int32) = 1]) rfl ⟨Or.inl rfl, trivial⟩ (retI ?_) rfl
    simp [inB, bI, z1, Int32.not_le.mpr z1]
  · replace z1 := of_decide_eq_false z1
    refine Runs.go 3 (cs := []) (pc' := bif decide (b < v) then 14 else 10) (pl' := [some (.int v), some (.int a), some (.int b)]) (st' := []) (h' := h) rfl trivial ?_
    refine Runs.br (fun z2 => ?_) (fun z2 => ?_)
    · replace z2 := of_decide_eq_true z2
      refine Runs.go 1 (cs := []) (pc' := 15) (pl' := [some (.int v), some (.int a), some (.int b)]) (st' := [.int 0]) (h' := h) rfl trivial ?_
      refine Runs.retE (cs := [(0 : Int32) = 0 ∨ (0 : Int32) = 1]) rfl ⟨Or.inl rfl, trivial⟩ (retI ?_) rfl
      simp [inB, bI, z1, Int32.not_lt.mp z1, z2, Int32.not_le.mpr z2]
    · replace z2 := of_decide_eq_false z2
      refine Runs.go 2 (cs := []) (pc' := 15) (pl' := [some (.int v), some (.int a), some (.int b)]) (st' := [.int 1]) (h' := h) rfl trivial ?_
      refine Runs.retE (cs := [(1 : Int32) = 0 ∨ (1 : Int32) = 1]) rfl ⟨Or.inr rfl, trivial⟩ (retI ?_) rfl
      simp [inB, bI, z1, Int32.not_lt.mp z1, z2, Int32.not_lt.mp z2]
theorem k_isItem {v : Int32} {h : PH}  : Call 1 mX7_isItem [.int v] h (.inl (some (.int (bI (inB v 0 11))))) h 0 := by
  refine Runs.go 3 (cs := []) (pc' := 4) (pl' := [some (.int v)]) (st' := [.int 11, .int 0, .int v]) (h' := h) rfl trivial ?_
  refine Runs.cal (y := mX7_in) (as := [.int v, .int 0, .int 11]) (rest := []) (pc' := 7) (cs := []) rfl trivial (by decide) (k_in) ?_
  show Runs _ _ 7 _ [.int (bI (inB v 0 11))] _ _ _ _
  exact Runs.ret (cs := [_ ∨ _]) rfl ⟨bI_01 _, trivial⟩
theorem k_isPlace {v : Int32} {h : PH}  : Call 1 mX7_isPlace [.int v] h (.inl (some (.int (bI (inB v 0 3))))) h 0 := by
  refine Runs.go 3 (cs := []) (pc' := 3) (pl' := [some (.int v)]) (st' := [.int 3, .int 0, .int v]) (h' := h) rfl trivial ?_
  refine Runs.cal (y := mX7_in) (as := [.int v, .int 0, .int 3]) (rest := []) (pc' := 6) (cs := []) rfl trivial (by decide) (k_in) ?_
  show Runs _ _ 6 _ [.int (bI (inB v 0 3))] _ _ _ _
  exact Runs.ret (cs := [_ ∨ _]) rfl ⟨bI_01 _, trivial⟩
theorem k_bits {v : Int32} {h : PH}  : Call 0 mX7_bits [.int v] h (.inl (some (.int ((v &&& 1) + ((v >>> (1 : Int32)) &&& 1) + ((v >>> (2 : Int32)) &&& 1) + ((v >>> (3 : Int32)) &&& 1))))) h 0 := by
  refine Runs.go 21 (cs := []) (pc' := 21) (pl' := [some (.int v)]) (st' := [.int ((((v &&& 1) + ((v >>> (1 : Int32)) &&& 1)) + ((v >>> (2 : Int32)) &&& 1)) + ((v >>> (3 : Int32)) &&& 1))]) (h' := h) rfl trivial ?_
  exact Runs.ret (cs := []) rfl trivial
theorem k_thrown {X : Nat × (Nat → Int32)} {c : CT} {s bf : Nat → Int32} {kn : Int32} {kp : Nat → Int32} {ik : Int32} {od bu : Nat → Int32} {le th : Int32} {mk ol : Nat → Int32} {tu ib : Int32} {sp : Nat → Int32} {so : Int32} {al br tr : Nat → Int32} {at_ iw : Int32} {ha : Int64} {se : Nat → Int32} {o : Nat → Int64}  : Call 0 mX7_thrown [.ref 23] (HP X c (s, bf, kn, kp, ik, od, bu, le, th, mk, ol, tu, ib, sp, so, al, br, tr, at_, iw, ha, se) o) (.inl (some (.int th))) (HP X c (s, bf, kn, kp, ik, od, bu, le, th, mk, ol, tu, ib, sp, so, al, br, tr, at_, iw, ha, se) o) 0 := by
  refine Runs.go 2 (cs := []) (pc' := 4) (pl' := [some (.ref 23)]) (st' := [.int th]) (h' := (HP X c (s, bf, kn, kp, ik, od, bu, le, th, mk, ol, tu, ib, sp, so, al, br, tr, at_, iw, ha, se) o)) rfl trivial ?_
  exact Runs.ret (cs := []) rfl trivial
theorem k_throwing {X : Nat × (Nat → Int32)} {c : CT} {s bf : Nat → Int32} {kn : Int32} {kp : Nat → Int32} {ik : Int32} {od bu : Nat → Int32} {le th : Int32} {mk ol : Nat → Int32} {tu ib : Int32} {sp : Nat → Int32} {so : Int32} {al br tr : Nat → Int32} {at_ iw : Int32} {ha : Int64} {se : Nat → Int32} {o : Nat → Int64} {p : Int32} : Call 0 mX7_throwing [.ref 23, .int p] (HP X c (s, bf, kn, kp, ik, od, bu, le, th, mk, ol, tu, ib, sp, so, al, br, tr, at_, iw, ha, se) o) (.inl (some (.int 0))) (HP X c (s, bf, kn, kp, ik, od, bu, le, p, mk, ol, tu, ib, sp, so, al, br, tr, at_, iw, ha, se) o) 0 := by
  refine Runs.go 4 (cs := []) (pc' := 6) (pl' := [some (.ref 23), some (.int p)]) (st' := [.int 0]) (h' := (HP X c (s, bf, kn, kp, ik, od, bu, le, p, mk, ol, tu, ib, sp, so, al, br, tr, at_, iw, ha, se) o)) rfl trivial ?_
  exact Runs.ret (cs := []) rfl trivial
theorem k_told {v : Int32} {h : PH} {b : Bool} : Call 0 mX7_told [.int (bI b)] h (.inl (some (.int (bI b)))) h 0 := by
  refine Runs.go 2 (cs := []) (pc' := bif decide ((bI b) = 0) then 8 else 4) (pl' := [some (.int (bI b))]) (st' := []) (h' := h) rfl trivial ?_
  refine Runs.br (fun z1 => ?_) (fun z1 => ?_)
  · replace z1 := of_decide_eq_true z1
    refine Runs.go 1 (cs := []) (pc' := 9) (pl' := [some (.int (bI b))]) (st' := [.int 0]) (h' := h) rfl trivial ?_
    refine Runs.retE (cs := []) rfl trivial (retI ?_) rfl
    simp [bI_0] at z1
    simp [bI, z1]
  · replace z1 := of_decide_eq_false z1
    refine Runs.go 2 (cs := []) (pc' := 9) (pl' := [some (.int (bI b))]) (st' := [.int 1]) (h' := h) rfl trivial ?_
    refine Runs.retE (cs := []) rfl trivial (retI ?_) rfl
    simp [bI_0] at z1
    simp [bI, z1]
