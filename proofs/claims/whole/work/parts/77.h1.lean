/-! THE BITS OF SHARES, of both (gen_h1.py) -/
def nn64 (r : UInt64) : Bool := decide (r &&& 0x7fffffffffffffff ≤ 0x7ff0000000000000)
theorem nn64_v {r : UInt64} (h : nn64 r = true) : vf_n64 r := show r &&& 0x7fffffffffffffff ≤ 0x7ff0000000000000 from of_decide_eq_true h
def cmG (v u : UInt64) : Int32 := Op.cmpValue (FP.dcmp v u) .g
def cmL (v u : UInt64) : Int32 := Op.cmpValue (FP.dcmp v u) .l
/-- the class's loops: doubling, halving -/
def l1 : Nat → UInt64 × Int64 → UInt64 × Int64
  | 0, x => x
  | n + 1, x => if 0 ≤ cmG x.1 4607182418800017408 then x else l1 n (FP.dmul x.1 4611686018427387904, x.2 - L 1)
def qk1 : Nat → UInt64 → Bool
  | 0, _ => true
  | n + 1, v => if 0 ≤ cmG v 4607182418800017408 then true else nn64 (FP.dmul v 4611686018427387904) && qk1 n (FP.dmul v 4611686018427387904)
def l2 : Nat → UInt64 × Int64 → UInt64 × Int64
  | 0, x => x
  | n + 1, x => if cmL x.1 4611686018427387904 < 0 then x else l2 n (FP.ddiv x.1 4611686018427387904, x.2 + L 1)
def qk2 : Nat → UInt64 → Bool
  | 0, _ => true
  | n + 1, v => if cmL v 4611686018427387904 < 0 then true else nn64 (FP.ddiv v 4611686018427387904) && qk2 n (FP.ddiv v 4611686018427387904)
def bcE (x : UInt64 × Int64) (wd : Nat) : Int64 := x.2 <<< ((N wd).toInt64 &&& 63) + FP.d2l (FP.dmul (FP.dsub x.1 4607182418800017408) (FP.l2d (L 1 <<< ((N wd).toInt64 &&& 63))))
def bcX (sh : UInt64) (bi : Nat) : UInt64 × Int64 := l2 4 (l1 4 (sh, L bi))
/-- the bits by the class -/
def bcC (sh : UInt64) (bi wd : Nat) : Int64 := if 0 < cmG sh 0 then bcE (bcX sh bi) wd else L 0
def qkC (sh : UInt64) (bi wd : Nat) : Bool := if 0 < cmG sh 0 then qk1 4 sh && qk2 4 (l1 4 (sh, L bi)).1 && nn64 (FP.dsub (bcX sh bi).1 4607182418800017408) && nn64 (FP.dmul (FP.dsub (bcX sh bi).1 4607182418800017408) (FP.l2d (L 1 <<< ((N wd).toInt64 &&& 63)))) else true
theorem and_l {a b : Bool} (h : (a && b) = true) : a = true := (Bool.and_eq_true_iff.mp h).1
theorem and_r {a b : Bool} (h : (a && b) = true) : b = true := (Bool.and_eq_true_iff.mp h).2
theorem b_l1 {h h2 : PH} {sh : UInt64} {bi wd : Nat} {r : Option Value ⊕ String} : ∀ (n i : Nat) (v : UInt64) (e : Int64), i + n = 4 → qk1 n v = true → Runs 0 mX6_bitsOf 51 [some (.double sh), none, some (.int (N bi)), some (.int (N wd)), some (.double ((l1 n (v, e)).1)), none, some (.long ((l1 n (v, e)).2)), none, none] [] h r h2 0 → Runs 0 mX6_bitsOf 18 [some (.double sh), none, some (.int (N bi)), some (.int (N wd)), some (.double v), none, some (.long e), none, some (.int (N i))] [] h r h2 0 := by
  intro n
  induction n with
  | zero =>
    intro i v e hi hok K
    obtain rfl : i = 4 := by omega
    replace K : Runs 0 mX6_bitsOf 51 [some (.double sh), none, some (.int (N bi)), some (.int (N wd)), some (.double v), none, some (.long e), none, none] [] h r h2 0 := K
    refine Runs.go 3 (cs := []) (pc' := bif decide ((N 4) ≤ (N 4)) then 51 else 24) (pl' := [some (.double sh), none, some (.int (N bi)), some (.int (N wd)), some (.double v), none, some (.long e), none, some (.int (N 4))]) (st' := []) (h' := h) rfl trivial ?_
    refine Runs.brT (decide_eq_true (by decide)) ?_
    exact Runs.wk (pl' := [some (.double sh), none, some (.int (N bi)), some (.int (N wd)), some (.double v), none, some (.long e), none, none]) (st' := []) (h' := h) ⟨Or.inr rfl, Or.inl rfl, Or.inr rfl, Or.inr rfl, Or.inr rfl, Or.inl rfl, Or.inr rfl, Or.inl rfl, Or.inl rfl, trivial⟩ rfl rfl K
  | succ n ih =>
    intro i v e hi hok K
    by_cases hc : 0 ≤ cmG v 4607182418800017408
    · have e1 : l1 (n + 1) (v, e) = (v, e) := if_pos hc
      rw [e1] at K
      replace K : Runs 0 mX6_bitsOf 51 [some (.double sh), none, some (.int (N bi)), some (.int (N wd)), some (.double v), none, some (.long e), none, none] [] h r h2 0 := K
      refine Runs.go 3 (cs := []) (pc' := bif decide ((N 4) ≤ (N i)) then 51 else 24) (pl' := [some (.double sh), none, some (.int (N bi)), some (.int (N wd)), some (.double v), none, some (.long e), none, some (.int (N i))]) (st' := []) (h' := h) rfl trivial ?_
      refine Runs.brF (decide_eq_false (fun zq9 => absurd ((N_le (a := 4) (b := i) (by omega) (by omega)).mp zq9) (by omega))) ?_
      refine Runs.go 4 (cs := []) (pc' := bif decide (0 ≤ (Op.cmpValue (FP.dcmp v 4607182418800017408) .g)) then 51 else 31) (pl' := [some (.double sh), none, some (.int (N bi)), some (.int (N wd)), some (.double v), none, some (.long e), none, some (.int (N i))]) (st' := []) (h' := h) rfl trivial ?_
      refine Runs.brT (decide_eq_true (Iff.rfl.mpr hc)) ?_
      exact Runs.wk (pl' := [some (.double sh), none, some (.int (N bi)), some (.int (N wd)), some (.double v), none, some (.long e), none, none]) (st' := []) (h' := h) ⟨Or.inr rfl, Or.inl rfl, Or.inr rfl, Or.inr rfl, Or.inr rfl, Or.inl rfl, Or.inr rfl, Or.inl rfl, Or.inl rfl, trivial⟩ rfl rfl K
    · have e1 : l1 (n + 1) (v, e) = l1 n (FP.dmul v 4611686018427387904, e - L 1) := if_neg hc
      rw [e1] at K
      have e2 : qk1 (n + 1) v = (nn64 (FP.dmul v 4611686018427387904) && qk1 n (FP.dmul v 4611686018427387904)) := if_neg hc
      rw [e2] at hok
      refine Runs.go 3 (cs := []) (pc' := bif decide ((N 4) ≤ (N i)) then 51 else 24) (pl' := [some (.double sh), none, some (.int (N bi)), some (.int (N wd)), some (.double v), none, some (.long e), none, some (.int (N i))]) (st' := []) (h' := h) rfl trivial ?_
      refine Runs.brF (decide_eq_false (fun zq9 => absurd ((N_le (a := 4) (b := i) (by omega) (by omega)).mp zq9) (by omega))) ?_
      refine Runs.go 4 (cs := []) (pc' := bif decide (0 ≤ (Op.cmpValue (FP.dcmp v 4607182418800017408) .g)) then 51 else 31) (pl' := [some (.double sh), none, some (.int (N bi)), some (.int (N wd)), some (.double v), none, some (.long e), none, some (.int (N i))]) (st' := []) (h' := h) rfl trivial ?_
      refine Runs.brF (decide_eq_false (fun zq9 => absurd (Iff.rfl.mp zq9) hc)) ?_
      refine Runs.goL 9 (cs := [vf_n64 (FP.dmul v 4611686018427387904)]) (pc' := 48) (pl1 := [some (.double sh), none, some (.int (N bi)), some (.int (N wd)), some (.double (FP.dmul v 4611686018427387904)), none, some (.long (e - (L 1))), none, some (.int (N i + N 1))]) (pl' := [some (.double sh), none, some (.int (N bi)), some (.int (N wd)), some (.double (FP.dmul v 4611686018427387904)), none, some (.long (e - (L 1))), none, some (.int (N (i + 1)))]) (st' := []) (h' := h) rfl ⟨(nn64_v (and_l hok)), trivial⟩ (congrArg (fun zq9 => ([some (.double sh), none, some (.int (N bi)), some (.int (N wd)), some (.double (FP.dmul v 4611686018427387904)), none, some (.long (e - (L 1))), none, some (.int zq9)] : PL)) (NA (by omega))) ?_
      refine Runs.go 1 (cs := []) (pc' := 18) (pl' := [some (.double sh), none, some (.int (N bi)), some (.int (N wd)), some (.double (FP.dmul v 4611686018427387904)), none, some (.long (e - (L 1))), none, some (.int (N (i + 1)))]) (st' := []) (h' := h) rfl trivial ?_
      exact ih (i + 1) _ _ (by omega) (and_r hok) K
theorem b_l2 {h h2 : PH} {sh : UInt64} {bi wd : Nat} {r : Option Value ⊕ String} : ∀ (n i : Nat) (v : UInt64) (e : Int64), i + n = 4 → qk2 n v = true → Runs 0 mX6_bitsOf 89 [some (.double sh), none, some (.int (N bi)), some (.int (N wd)), some (.double ((l2 n (v, e)).1)), none, some (.long ((l2 n (v, e)).2)), none, none] [] h r h2 0 → Runs 0 mX6_bitsOf 54 [some (.double sh), none, some (.int (N bi)), some (.int (N wd)), some (.double v), none, some (.long e), none, some (.int (N i))] [] h r h2 0 := by
  intro n
  induction n with
  | zero =>
    intro i v e hi hok K
    obtain rfl : i = 4 := by omega
    replace K : Runs 0 mX6_bitsOf 89 [some (.double sh), none, some (.int (N bi)), some (.int (N wd)), some (.double v), none, some (.long e), none, none] [] h r h2 0 := K
    refine Runs.go 3 (cs := []) (pc' := bif decide ((N 4) ≤ (N 4)) then 89 else 60) (pl' := [some (.double sh), none, some (.int (N bi)), some (.int (N wd)), some (.double v), none, some (.long e), none, some (.int (N 4))]) (st' := []) (h' := h) rfl trivial ?_
    refine Runs.brT (decide_eq_true (by decide)) ?_
    exact Runs.wk (pl' := [some (.double sh), none, some (.int (N bi)), some (.int (N wd)), some (.double v), none, some (.long e), none, none]) (st' := []) (h' := h) ⟨Or.inr rfl, Or.inl rfl, Or.inr rfl, Or.inr rfl, Or.inr rfl, Or.inl rfl, Or.inr rfl, Or.inl rfl, Or.inl rfl, trivial⟩ rfl rfl K
  | succ n ih =>
    intro i v e hi hok K
    by_cases hc : cmL v 4611686018427387904 < 0
    · have e1 : l2 (n + 1) (v, e) = (v, e) := if_pos hc
      rw [e1] at K
      replace K : Runs 0 mX6_bitsOf 89 [some (.double sh), none, some (.int (N bi)), some (.int (N wd)), some (.double v), none, some (.long e), none, none] [] h r h2 0 := K
      refine Runs.go 3 (cs := []) (pc' := bif decide ((N 4) ≤ (N i)) then 89 else 60) (pl' := [some (.double sh), none, some (.int (N bi)), some (.int (N wd)), some (.double v), none, some (.long e), none, some (.int (N i))]) (st' := []) (h' := h) rfl trivial ?_
      refine Runs.brF (decide_eq_false (fun zq9 => absurd ((N_le (a := 4) (b := i) (by omega) (by omega)).mp zq9) (by omega))) ?_
      refine Runs.go 4 (cs := []) (pc' := bif decide ((Op.cmpValue (FP.dcmp v 4611686018427387904) .l) < 0) then 89 else 69) (pl' := [some (.double sh), none, some (.int (N bi)), some (.int (N wd)), some (.double v), none, some (.long e), none, some (.int (N i))]) (st' := []) (h' := h) rfl trivial ?_
      refine Runs.brT (decide_eq_true (Iff.rfl.mpr hc)) ?_
      exact Runs.wk (pl' := [some (.double sh), none, some (.int (N bi)), some (.int (N wd)), some (.double v), none, some (.long e), none, none]) (st' := []) (h' := h) ⟨Or.inr rfl, Or.inl rfl, Or.inr rfl, Or.inr rfl, Or.inr rfl, Or.inl rfl, Or.inr rfl, Or.inl rfl, Or.inl rfl, trivial⟩ rfl rfl K
    · have e1 : l2 (n + 1) (v, e) = l2 n (FP.ddiv v 4611686018427387904, e + L 1) := if_neg hc
      rw [e1] at K
      have e2 : qk2 (n + 1) v = (nn64 (FP.ddiv v 4611686018427387904) && qk2 n (FP.ddiv v 4611686018427387904)) := if_neg hc
      rw [e2] at hok
      refine Runs.go 3 (cs := []) (pc' := bif decide ((N 4) ≤ (N i)) then 89 else 60) (pl' := [some (.double sh), none, some (.int (N bi)), some (.int (N wd)), some (.double v), none, some (.long e), none, some (.int (N i))]) (st' := []) (h' := h) rfl trivial ?_
      refine Runs.brF (decide_eq_false (fun zq9 => absurd ((N_le (a := 4) (b := i) (by omega) (by omega)).mp zq9) (by omega))) ?_
      refine Runs.go 4 (cs := []) (pc' := bif decide ((Op.cmpValue (FP.dcmp v 4611686018427387904) .l) < 0) then 89 else 69) (pl' := [some (.double sh), none, some (.int (N bi)), some (.int (N wd)), some (.double v), none, some (.long e), none, some (.int (N i))]) (st' := []) (h' := h) rfl trivial ?_
      refine Runs.brF (decide_eq_false (fun zq9 => absurd (Iff.rfl.mp zq9) hc)) ?_
      refine Runs.goL 9 (cs := [vf_n64 (FP.ddiv v 4611686018427387904)]) (pc' := 86) (pl1 := [some (.double sh), none, some (.int (N bi)), some (.int (N wd)), some (.double (FP.ddiv v 4611686018427387904)), none, some (.long (e + (L 1))), none, some (.int (N i + N 1))]) (pl' := [some (.double sh), none, some (.int (N bi)), some (.int (N wd)), some (.double (FP.ddiv v 4611686018427387904)), none, some (.long (e + (L 1))), none, some (.int (N (i + 1)))]) (st' := []) (h' := h) rfl ⟨(nn64_v (and_l hok)), trivial⟩ (congrArg (fun zq9 => ([some (.double sh), none, some (.int (N bi)), some (.int (N wd)), some (.double (FP.ddiv v 4611686018427387904)), none, some (.long (e + (L 1))), none, some (.int zq9)] : PL)) (NA (by omega))) ?_
      refine Runs.go 1 (cs := []) (pc' := 54) (pl' := [some (.double sh), none, some (.int (N bi)), some (.int (N wd)), some (.double (FP.ddiv v 4611686018427387904)), none, some (.long (e + (L 1))), none, some (.int (N (i + 1)))]) (st' := []) (h' := h) rfl trivial ?_
      exact ih (i + 1) _ _ (by omega) (and_r hok) K
theorem c_bitsOf0 {sh : UInt64} {bi wd : Nat} {h : PH} (hc : ¬ 0 < cmG sh 0) : Call 0 mX6_bitsOf [.double sh, .int (N bi), .int (N wd)] h (.inl (some (.long (L 0)))) h 0 := by
  refine Runs.go 4 (cs := []) (pc' := bif decide (0 < (Op.cmpValue (FP.dcmp sh 0) .g)) then 8 else 6) (pl' := [some (.double sh), none, some (.int (N bi)), some (.int (N wd)), none, none, none, none, none]) (st' := []) (h' := h) rfl trivial ?_
  refine Runs.brF (decide_eq_false (fun zq9 => absurd (Iff.rfl.mp zq9) hc)) ?_
  refine Runs.go 1 (cs := []) (pc' := 7) (pl' := [some (.double sh), none, some (.int (N bi)), some (.int (N wd)), none, none, none, none, none]) (st' := [.long (L 0)]) (h' := h) rfl trivial ?_
  exact Runs.retE (cs := []) rfl trivial (retJ rfl) rfl
theorem c_bitsOf1 {sh : UInt64} {bi wd : Nat} {h : PH} (hbi : bi < 2000) (hwd : wd < 60) (hc : 0 < cmG sh 0) (hok : (qk1 4 sh && qk2 4 (l1 4 (sh, L bi)).1 && nn64 (FP.dsub (bcX sh bi).1 4607182418800017408) && nn64 (FP.dmul (FP.dsub (bcX sh bi).1 4607182418800017408) (FP.l2d (L 1 <<< ((N wd).toInt64 &&& 63))))) = true) : Call 0 mX6_bitsOf [.double sh, .int (N bi), .int (N wd)] h (.inl (some (.long (bcE (bcX sh bi) wd)))) h 0 := by
  refine Runs.go 4 (cs := []) (pc' := bif decide (0 < (Op.cmpValue (FP.dcmp sh 0) .g)) then 8 else 6) (pl' := [some (.double sh), none, some (.int (N bi)), some (.int (N wd)), none, none, none, none, none]) (st' := []) (h' := h) rfl trivial ?_
  refine Runs.brT (decide_eq_true (Iff.rfl.mpr hc)) ?_
  refine Runs.topJ 4 (cs := []) (pc' := 13) (pl' := [some (.double sh), none, some (.int (N bi)), some (.int (N wd)), some (.double sh), none, none, none, none]) (v := (N bi : Int32).toInt64) (v' := L bi) (st' := []) (h' := h) rfl trivial (N_toL (by omega)) ?_
  refine Runs.go 3 (cs := []) (pc' := 18) (pl' := [some (.double sh), none, some (.int (N bi)), some (.int (N wd)), some (.double sh), none, some (.long (L bi)), none, some (.int (N 0))]) (st' := []) (h' := h) rfl trivial ?_
  refine b_l1 4 0 _ _ rfl (and_l (and_l (and_l hok))) ?_
  show Runs _ _ 51 [some (.double sh), none, some (.int (N bi)), some (.int (N wd)), some (.double ((l1 4 (sh, L bi)).1)), none, some (.long ((l1 4 (sh, L bi)).2)), none, none] _ _ _ _ _
  refine Runs.go 2 (cs := []) (pc' := 54) (pl' := [some (.double sh), none, some (.int (N bi)), some (.int (N wd)), some (.double ((l1 4 (sh, L bi)).1)), none, some (.long ((l1 4 (sh, L bi)).2)), none, some (.int (N 0))]) (st' := []) (h' := h) rfl trivial ?_
  refine b_l2 4 0 _ _ rfl (and_r (and_l (and_l hok))) ?_
  show Runs _ _ 89 [some (.double sh), none, some (.int (N bi)), some (.int (N wd)), some (.double ((bcX sh bi).1)), none, some (.long ((bcX sh bi).2)), none, none] _ _ _ _ _
  refine Runs.topJ 9 (cs := [vf_n64 (FP.dsub ((bcX sh bi).1) 4607182418800017408)]) (pc' := 100) (pl' := [some (.double sh), none, some (.int (N bi)), some (.int (N wd)), some (.double ((bcX sh bi).1)), none, some (.long ((bcX sh bi).2)), none, none]) (v := (L 1) <<< (((N wd) : Int32).toInt64 &&& 63)) (v' := L 1 <<< ((N wd).toInt64 &&& 63)) (st' := [.double (FP.dsub ((bcX sh bi).1) 4607182418800017408), .long (((bcX sh bi).2) <<< (((N wd) : Int32).toInt64 &&& 63))]) (h' := h) rfl ⟨(nn64_v (and_r (and_l hok))), trivial⟩ rfl ?_
  refine Runs.go 4 (cs := [vf_n64 (FP.dmul (FP.dsub ((bcX sh bi).1) 4607182418800017408) (FP.l2d (L 1 <<< ((N wd).toInt64 &&& 63))))]) (pc' := 104) (pl' := [some (.double sh), none, some (.int (N bi)), some (.int (N wd)), some (.double ((bcX sh bi).1)), none, some (.long ((bcX sh bi).2)), none, none]) (st' := [.long ((((bcX sh bi).2) <<< (((N wd) : Int32).toInt64 &&& 63)) + (FP.d2l (FP.dmul (FP.dsub ((bcX sh bi).1) 4607182418800017408) (FP.l2d (L 1 <<< ((N wd).toInt64 &&& 63))))))]) (h' := h) rfl ⟨(nn64_v (and_r hok)), trivial⟩ ?_
  exact Runs.retE (cs := []) rfl trivial (retJ rfl) rfl
theorem c_bitsOf {sh : UInt64} {bi wd : Nat} {h : PH} (hbi : bi < 2000) (hwd : wd < 60) (hok : qkC sh bi wd = true) : Call 0 mX6_bitsOf [.double sh, .int (N bi), .int (N wd)] h (.inl (some (.long (bcC sh bi wd)))) h 0 := by
  unfold bcC
  unfold qkC at hok
  by_cases hc : 0 < cmG sh 0
  · rw [if_pos hc]
    rw [if_pos hc] at hok
    exact c_bitsOf1 hbi hwd hc hok
  · rw [if_neg hc]
    exact c_bitsOf0 hc
