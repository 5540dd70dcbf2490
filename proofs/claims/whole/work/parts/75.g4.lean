/-! TEXTS: take of both (gen_g4.py) -/
theorem k_goTF {X : Nat × (Nat → Int32)} {c : CT} {S bf : Nat → Nat} {kn : Nat} {kp : Nat → Nat} {ik : Bool} {od bu : Nat → Nat} {le th : Nat} {mk ol : Nat → Nat} {tu : Nat} {ib : Bool} {sp : Nat → Nat} {so : Nat} {al br tr : Nat → Nat} {at_ : Nat} {iw : Bool} {ha : Int64} {se : Nat → Int32} {o : Nat → Int64} (hV : VC S) (hB : BF bu le) (hr : rgT bu le 61 0) : ∃ a9, Call 4 mX7_go [.ref 23, .int (N 1)] (MP X c S bf kn kp ik od bu le th mk ol tu ib sp so al br tr at_ iw ha se o) (.inl (some (.int (N (tkS bu le 61 S 0).2)))) (MP X c ((tkS bu le 61 S 0).1) bf kn kp ik od bu le th mk ol tu ib sp so al br tr a9 false ha se o) 0 := by
  obtain ⟨a9, hw⟩ := k_goT (X := X) (c := c) (bf := bf) (kn := kn) (kp := kp) (ik := ik) (od := od) (bu := bu) (le := le) (th := th) (mk := mk) (ol := ol) (tu := tu) (ib := ib) (sp := sp) (so := so) (al := al) (br := br) (tr := tr) (ha := ha) (se := se) (o := o) hB 61 S 0 0 hV hr (by decide)
  rw [Nat.zero_add] at hw
  refine ⟨a9, ?_⟩
  show Runs 4 mX7_go 0 [some (.ref 23), some (.int (N 1)), none, none] [] _ _ _ _
  refine Runs.go 10 (cs := [(N 0 : Int32) = 0 ∨ (N 0 : Int32) = 1]) (pc' := 14) (pl' := [some (.ref 23), some (.int (N 1)), some (.int (N 0)), some (.int (N 1))]) (st' := []) (h' := (MP X c S bf kn kp ik od bu le th mk ol tu ib sp so al br tr 0 false ha se o)) rfl ⟨(Or.inl rfl), trivial⟩ ?_
  exact hw
theorem k_take0 {X : Nat × (Nat → Int32)} {c : CT} {S bf : Nat → Nat} {kn : Nat} {kp : Nat → Nat} {ik : Bool} {od bu : Nat → Nat} {le th : Nat} {mk ol : Nat → Nat} {tu : Nat} {ib : Bool} {sp : Nat → Nat} {so : Nat} {al br tr : Nat → Nat} {at_ : Nat} {iw : Bool} {ha : Int64} {se : Nat → Int32} {o : Nat → Int64} (hV : VC S) (hB : BF bu le) (hkn : kn ≤ 6) (hw : (goX bu le 61 (0, false)).2 = false) : ∃ a9, Call 5 mX7_take [.ref 23] (MP X c S bf kn kp ik od bu le th mk ol tu ib sp so al br tr at_ iw ha se o) (.inl (some (.int (N (tkS bu le 61 S 0).2)))) (MP X c ((tkS bu le 61 S 0).1) (sBf kn S bf) (sKn kn) kp ik od bu 0 0 mk ol tu ib sp so al br tr a9 false ha se o) 0 := by
  have hr : rgT bu le 61 0 := rg_go hB 61 0 (Nat.zero_le _) (by have := hB.1; omega) hw
  obtain ⟨k9, hk9, hg⟩ := k_goF (X := X) (c := c) (S := S) (bf := bf) (kn := kn) (kp := kp) (ik := ik) (od := od) (bu := bu) (le := le) (th := 0) (mk := mk) (ol := ol) (tu := tu) (ib := ib) (sp := sp) (so := so) (al := al) (br := br) (tr := tr) (ha := ha) (se := se) (o := o) (at_ := at_) (iw := iw) hB
  obtain ⟨a9, ht⟩ := k_goTF (X := X) (c := c) (S := S) (bf := sBf kn S bf) (kn := sKn kn) (kp := kp) (ik := ik) (od := od) (bu := bu) (le := le) (th := 0) (mk := mk) (ol := ol) (tu := tu) (ib := ib) (sp := sp) (so := so) (al := al) (br := br) (tr := tr) (ha := ha) (se := se) (o := o) (at_ := (goX bu le 61 (0, false)).1) (iw := (goX bu le 61 (0, false)).2) hV hB hr
  have htk := tkS_le bu le 61 S 0
  refine ⟨a9, ?_⟩
  show Runs 5 mX7_take 0 [some (.ref 23), none, none] [] _ _ _ _
  refine Runs.go 5 (cs := []) (pc' := 7) (pl' := [some (.ref 23), none, none]) (st' := [.int (N 0), .ref 23]) (h' := (MP X c S bf kn kp ik od bu le 0 mk ol tu ib sp so al br tr at_ iw ha se o)) rfl trivial ?_
  refine Runs.cal (y := mX7_go) (as := [.ref 23, .int (N 0)]) (rest := []) (pc' := 10) (cs := []) (v := some (.int (N k9))) (h1 := (MP X c S bf kn kp ik od bu le 0 mk ol tu ib sp so al br tr ((goX bu le 61 (0, false)).1) ((goX bu le 61 (0, false)).2) ha se o)) rfl trivial (by decide) (hg) ?_
  show Runs _ _ 10 _ [.int (N k9)] _ _ _ _
  refine Runs.go 4 (cs := []) (pc' := bif decide ((bI ((goX bu le 61 (0, false)).2)) = 0) then 24 else 18) (pl' := [some (.ref 23), some (.int (N k9)), none]) (st' := []) (h' := (MP X c S bf kn kp ik od bu le 0 mk ol tu ib sp so al br tr ((goX bu le 61 (0, false)).1) ((goX bu le 61 (0, false)).2) ha se o)) rfl trivial ?_
  refine Runs.brT (decide_eq_true ((bI_0 _).mpr hw)) ?_
  refine Runs.go 1 (cs := []) (pc' := 25) (pl' := [some (.ref 23), some (.int (N k9)), none]) (st' := [.ref 23]) (h' := (MP X c S bf kn kp ik od bu le 0 mk ol tu ib sp so al br tr ((goX bu le 61 (0, false)).1) ((goX bu le 61 (0, false)).2) ha se o)) rfl trivial ?_
  refine Runs.cal (y := mX7_save) (as := [.ref 23]) (rest := []) (pc' := 28) (cs := []) (v := none) (h1 := (MP X c S (sBf kn S bf) (sKn kn) kp ik od bu le 0 mk ol tu ib sp so al br tr ((goX bu le 61 (0, false)).1) ((goX bu le 61 (0, false)).2) ha se o)) rfl trivial (by decide) (k_save hkn) ?_
  show Runs _ _ 28 _ [] _ _ _ _
  refine Runs.go 2 (cs := []) (pc' := 30) (pl' := [some (.ref 23), some (.int (N k9)), none]) (st' := [.int (N 1), .ref 23]) (h' := (MP X c S (sBf kn S bf) (sKn kn) kp ik od bu le 0 mk ol tu ib sp so al br tr ((goX bu le 61 (0, false)).1) ((goX bu le 61 (0, false)).2) ha se o)) rfl trivial ?_
  refine Runs.cal (y := mX7_go) (as := [.ref 23, .int (N 1)]) (rest := []) (pc' := 33) (cs := []) (v := some (.int (N ((tkS bu le 61 S 0).2)))) (h1 := (MP X c ((tkS bu le 61 S 0).1) (sBf kn S bf) (sKn kn) kp ik od bu le 0 mk ol tu ib sp so al br tr a9 false ha se o)) rfl trivial (by decide) (ht) ?_
  show Runs _ _ 33 _ [.int (N ((tkS bu le 61 S 0).2))] _ _ _ _
  refine Runs.go 5 (cs := []) (pc' := 40) (pl' := [some (.ref 23), some (.int (N k9)), some (.int (N ((tkS bu le 61 S 0).2)))]) (st' := [.int (N ((tkS bu le 61 S 0).2))]) (h' := (MP X c ((tkS bu le 61 S 0).1) (sBf kn S bf) (sKn kn) kp ik od bu 0 0 mk ol tu ib sp so al br tr a9 false ha se o)) rfl trivial ?_
  exact Runs.retE (cs := []) rfl trivial rfl rfl
