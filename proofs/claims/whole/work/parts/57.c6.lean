/-! THE CLASS: trying all arrangements (gen_c6.py) -/
def cfo (S : Nat → Nat) : Nat → Nat := itN (fun n x => if clN S (arr odC n) 12 then ctO S (arr odC n) x else x) 0
def cba (S : Nat → Nat) : Nat → Nat → Nat := itN (fun n f => if clN S (arr odC n) 12 then ctA S (arr odC n) f else f) (fun _ => 0)
def cus (S : Nat → Nat) : Nat → Nat → Nat := itN (fun n f => if clN S (arr odC n) 12 then ctU S (arr odC n) f else f) (fun _ => 0)
theorem cfo_s (S : Nat → Nat) (n : Nat) : cfo S (n + 1) = if clN S (arr odC n) 12 then ctO S (arr odC n) (cfo S n) else cfo S n := rfl
theorem cba_s (S : Nat → Nat) (n : Nat) : cba S (n + 1) = if clN S (arr odC n) 12 then ctA S (arr odC n) (cba S n) else cba S n := rfl
theorem cus_s (S : Nat → Nat) (n : Nat) : cus S (n + 1) = if clN S (arr odC n) 12 then ctU S (arr odC n) (cus S n) else cus S n := rfl
theorem cus_16 (S : Nat → Nat) : ∀ n, M16 (cus S n)
  | 0 => fun _ _ => (show 0 < 16 by decide)
  | n + 1 => by
    rw [cus_s]
    split
    · exact ctU_16 (arr_4 odC_4 n) (cus_16 S n)
    · exact cus_16 S n
theorem cus_z (S : Nat → Nat) : ∀ n, Z12 (cus S n)
  | 0 => fun _ _ => rfl
  | n + 1 => by
    rw [cus_s]
    split
    · exact ctU_z (cus_z S n)
    · exact cus_z S n
theorem cus_0 (S : Nat → Nat) : pk (cus S 0) = 0 := zk_zero
/-- what the survey tells -/
def SVO (S : Nat → Nat) : Nat := cfo S 13824
def SVA (S : Nat → Nat) : Nat → Nat := cba S 13824
def SVU (S : Nat → Nat) : Nat → Nat := cus S 13824
theorem zk_zn : L 0 = L (pk (fun _ => 0)) := by rw [zk_zero]
theorem c_look0 {X : Nat × (Nat → Int32)} {S : Nat → Nat} {cl : Nat → Nat} {sn : SV} {sg : Nat → Option Nat} {sv : Nat → SV} {cd : Nat → Nat} {ln pe pr : Nat} {ba : Nat → Nat} {fo us : Nat} {fr : Bool} {sc : Nat} {hs : Bool} {m : MT} {o : Nat → Int64} (hV : VC S) (hcl : ∀ k, k < S 0 → cl k = ecl S k) (hba : Z12 ba) : Call 3 mX4_lookAt [.ref 9, .ref 1] (KP X cl (S 0) (pk (CX S)) (S 61) (S 62) sn sg sv cd ln pe pr ba fo us false sc hs m o) (.inl none) (KP X cl (S 0) (pk (CX S)) (S 61) (S 62) sn sg sv cd ln pe pr (SVA S) (SVO S) (pk (SVU S)) true sc hs m o) 0 := by
  have h12 := hV.2.1
  refine Runs.go 3 (cs := []) (pc' := bif decide ((bI false) = 0) then 8 else 7) (pl' := [some (.ref 9), some (.ref 1), none, none, none]) (st' := []) (h' := (KP X cl (S 0) (pk (CX S)) (S 61) (S 62) sn sg sv cd ln pe pr ba fo us false sc hs m o)) rfl trivial ?_
  refine Runs.brT (decide_eq_true (by decide)) ?_
  refine Runs.go 11 (cs := [(N 1 : Int32) = 0 ∨ (N 1 : Int32) = 1]) (pc' := 25) (pl' := [some (.ref 9), some (.ref 1), some (.int (N 0)), none, none]) (st' := []) (h' := (KP X cl (S 0) (pk (CX S)) (S 61) (S 62) sn sg sv cd ln pe pr ba 0 0 true sc hs m o)) rfl ⟨(Or.inr rfl), trivial⟩ ?_
  refine Runs.wk (pl' := [some (.ref 9), some (.ref 1), some (.int (N 0)), none, none]) (st' := []) (h' := (KP X cl (S 0) (pk (CX S)) (S 61) (S 62) sn sg sv cd ln pe pr (fil 0 (fun _ => 0) ba) 0 0 true sc hs m o)) ⟨Or.inr rfl, Or.inr rfl, Or.inr rfl, Or.inl rfl, Or.inl rfl, trivial⟩ rfl (by rw [fil_0]) ?_
  refine Runs.loopN (fun t => [some (.ref 9), some (.ref 1), some (.int (N t)), none, none]) (fun t => (KP X cl (S 0) (pk (CX S)) (S 61) (S 62) sn sg sv cd ln pe pr (fil t (fun _ => 0) ba) 0 0 true sc hs m o)) (fun t => True) 12 trivial (fun t ht I1 K1 => ?_) (fun I1 => ?_)
  · show Runs _ _ 25 [some (.ref 9), some (.ref 1), some (.int (N t)), none, none] [] (KP X cl (S 0) (pk (CX S)) (S 61) (S 62) sn sg sv cd ln pe pr (fil t (fun _ => 0) ba) 0 0 true sc hs m o) _ _ _
    refine Runs.go 3 (cs := []) (pc' := bif decide ((N 12) ≤ (N t)) then 44 else 31) (pl' := [some (.ref 9), some (.ref 1), some (.int (N t)), none, none]) (st' := []) (h' := (KP X cl (S 0) (pk (CX S)) (S 61) (S 62) sn sg sv cd ln pe pr (fil t (fun _ => 0) ba) 0 0 true sc hs m o)) rfl trivial ?_
    refine Runs.brF (decide_eq_false (fun zq9 => absurd ((N_le (a := 12) (b := t) (by omega) (by omega)).mp zq9) (by omega))) ?_
    refine Runs.goH 5 (cs := [vp_in (N t) 12]) (pc' := 38) (pl' := [some (.ref 9), some (.ref 1), some (.int (N t)), none, none]) (st' := []) (h1 := (FP X (aN cl) (N (S 0)) (L (pk (CX S))) (N (S 61)) (N (S 62)) sn sg sv (aN cd) (N ln) (L pe) (N pr) (upd (aN (fil t (fun _ => 0) ba)) (N t).toNatClampNeg (N 0)) (N 0) (L 0) (bI true) (N sc) (bI hs) m o)) (h' := (KP X cl (S 0) (pk (CX S)) (S 61) (S 62) sn sg sv cd ln pe pr (fil (t + 1) (fun _ => 0) ba) 0 0 true sc hs m o)) rfl ⟨(N_in (by omega) (by decide)), trivial⟩ (congrArg (fun zq9 => (FP X (aN cl) (N (S 0)) (L (pk (CX S))) (N (S 61)) (N (S 62)) sn sg sv (aN cd) (N ln) (L pe) (N pr) zq9 (N 0) (L 0) (bI true) (N sc) (bI hs) m o)) ((aN_up (by omega)).trans (congrArg aN (upn_fil rfl)))) ?_
    refine Runs.goL 1 (cs := []) (pc' := 41) (pl1 := [some (.ref 9), some (.ref 1), some (.int (N t + N 1)), none, none]) (pl' := [some (.ref 9), some (.ref 1), some (.int (N (t + 1))), none, none]) (st' := []) (h' := (KP X cl (S 0) (pk (CX S)) (S 61) (S 62) sn sg sv cd ln pe pr (fil (t + 1) (fun _ => 0) ba) 0 0 true sc hs m o)) rfl trivial (congrArg (fun zq9 => ([some (.ref 9), some (.ref 1), some (.int zq9), none, none] : PL)) (NA (by omega))) ?_
    refine Runs.go 1 (cs := []) (pc' := 25) (pl' := [some (.ref 9), some (.ref 1), some (.int (N (t + 1))), none, none]) (st' := []) (h' := (KP X cl (S 0) (pk (CX S)) (S 61) (S 62) sn sg sv cd ln pe pr (fil (t + 1) (fun _ => 0) ba) 0 0 true sc hs m o)) rfl trivial ?_
    exact Runs.wk (pl' := [some (.ref 9), some (.ref 1), some (.int (N (t + 1))), none, none]) (st' := []) (h' := (KP X cl (S 0) (pk (CX S)) (S 61) (S 62) sn sg sv cd ln pe pr (fil (t + 1) (fun _ => 0) ba) 0 0 true sc hs m o)) ⟨Or.inr rfl, Or.inr rfl, Or.inr rfl, Or.inl rfl, Or.inl rfl, trivial⟩ rfl rfl (K1 trivial)
  · show Runs _ _ 25 _ [] _ _ _ _
    show Runs _ _ 25 [some (.ref 9), some (.ref 1), some (.int (N 12)), none, none] [] (KP X cl (S 0) (pk (CX S)) (S 61) (S 62) sn sg sv cd ln pe pr (fil 12 (fun _ => 0) ba) 0 0 true sc hs m o) _ _ _
    refine Runs.go 3 (cs := []) (pc' := bif decide ((N 12) ≤ (N 12)) then 44 else 31) (pl' := [some (.ref 9), some (.ref 1), some (.int (N 12)), none, none]) (st' := []) (h' := (KP X cl (S 0) (pk (CX S)) (S 61) (S 62) sn sg sv cd ln pe pr (fil 12 (fun _ => 0) ba) 0 0 true sc hs m o)) rfl trivial ?_
    refine Runs.brT (decide_eq_true (by decide)) ?_
    refine Runs.go 2 (cs := []) (pc' := 46) (pl' := [some (.ref 9), some (.ref 1), some (.int (N 0)), none, none]) (st' := []) (h' := (KP X cl (S 0) (pk (CX S)) (S 61) (S 62) sn sg sv cd ln pe pr (fil 12 (fun _ => 0) ba) 0 0 true sc hs m o)) rfl trivial ?_
    refine Runs.wk (pl' := [some (.ref 9), some (.ref 1), some (.int (N 0)), none, none]) (st' := []) (h' := (KP X cl (S 0) (pk (CX S)) (S 61) (S 62) sn sg sv cd ln pe pr (cba S 0) (cfo S 0) (pk (cus S 0)) true sc hs m o)) ⟨Or.inr rfl, Or.inr rfl, Or.inr rfl, Or.inl rfl, Or.inl rfl, trivial⟩ rfl (by rw [cus_0, fil_zn (fun _ _ => rfl) hba]; rfl) ?_
    refine Runs.loopN (fun n => [some (.ref 9), some (.ref 1), some (.int (N n)), none, none]) (fun n => (KP X cl (S 0) (pk (CX S)) (S 61) (S 62) sn sg sv cd ln pe pr (cba S n) (cfo S n) (pk (cus S n)) true sc hs m o)) (fun n => True) 13824 trivial (fun n hn I2 K2 => ?_) (fun I2 => ?_)
    · show Runs _ _ 46 [some (.ref 9), some (.ref 1), some (.int (N n)), none, none] [] (KP X cl (S 0) (pk (CX S)) (S 61) (S 62) sn sg sv cd ln pe pr (cba S n) (cfo S n) (pk (cus S n)) true sc hs m o) _ _ _
      have hA := arr_4 odC_4 n
      have hq := zk_lt (arM_16 hA)
      have hq2 : pk (arM (arr odC n)) &&& pk (CX S) ≤ pk (arM (arr odC n)) := Nat.and_le_left
      refine Runs.go 3 (cs := []) (pc' := bif decide ((N 13824) ≤ (N n)) then 81 else 53) (pl' := [some (.ref 9), some (.ref 1), some (.int (N n)), none, none]) (st' := []) (h' := (KP X cl (S 0) (pk (CX S)) (S 61) (S 62) sn sg sv cd ln pe pr (cba S n) (cfo S n) (pk (cus S n)) true sc hs m o)) rfl trivial ?_
      refine Runs.brF (decide_eq_false (fun zq9 => absurd ((N_le (a := 13824) (b := n) (by omega) (by omega)).mp zq9) (by omega))) ?_
      refine Runs.go 1 (cs := []) (pc' := 54) (pl' := [some (.ref 9), some (.ref 1), some (.int (N n)), none, none]) (st' := [.int (N n)]) (h' := (KP X cl (S 0) (pk (CX S)) (S 61) (S 62) sn sg sv cd ln pe pr (cba S n) (cfo S n) (pk (cus S n)) true sc hs m o)) rfl trivial ?_
      refine Runs.cal (y := mX4_arrangement) (as := [.int (N n)]) (rest := []) (pc' := 57) (cs := []) (v := some (.long (L (pk (arM (arr odC n)))))) (h1 := (KP X cl (S 0) (pk (CX S)) (S 61) (S 62) sn sg sv cd ln pe pr (cba S n) (cfo S n) (pk (cus S n)) true sc hs m o)) rfl trivial (by decide) (c_arrangement (by omega)) ?_
      show Runs _ _ 57 _ [.long (L (pk (arM (arr odC n))))] _ _ _ _
      refine Runs.topJ 5 (cs := []) (pc' := 64) (pl' := [some (.ref 9), some (.ref 1), some (.int (N n)), some (.long (L (pk (arM (arr odC n))))), none]) (v := (L (pk (arM (arr odC n)))) &&& (L (pk (CX S)))) (v' := L ((pk (arM (arr odC n))) &&& (pk (CX S)))) (st' := []) (h' := (KP X cl (S 0) (pk (CX S)) (S 61) (S 62) sn sg sv cd ln pe pr (cba S n) (cfo S n) (pk (cus S n)) true sc hs m o)) rfl trivial (L_and _ _) ?_
      refine Runs.go 3 (cs := []) (pc' := bif decide (¬ (lg_cmp (L ((pk (arM (arr odC n))) &&& (pk (CX S)))) (L 0)) = 0) then 75 else 69) (pl' := [some (.ref 9), some (.ref 1), some (.int (N n)), some (.long (L (pk (arM (arr odC n))))), none]) (st' := []) (h' := (KP X cl (S 0) (pk (CX S)) (S 61) (S 62) sn sg sv cd ln pe pr (cba S n) (cfo S n) (pk (cus S n)) true sc hs m o)) rfl trivial ?_
      refine Runs.br (fun z1 => ?_) (fun z1 => ?_)
      · replace z1 : ¬ (((pk (arM (arr odC n))) &&& (pk (CX S))) = 0) := mt (L_cmp0 (by omega) (by omega)).mpr (of_decide_eq_true z1)
        refine Runs.goL 1 (cs := []) (pc' := 78) (pl1 := [some (.ref 9), some (.ref 1), some (.int (N n + N 1)), some (.long (L (pk (arM (arr odC n))))), none]) (pl' := [some (.ref 9), some (.ref 1), some (.int (N (n + 1))), some (.long (L (pk (arM (arr odC n))))), none]) (st' := []) (h' := (KP X cl (S 0) (pk (CX S)) (S 61) (S 62) sn sg sv cd ln pe pr (cba S n) (cfo S n) (pk (cus S n)) true sc hs m o)) rfl trivial (congrArg (fun zq9 => ([some (.ref 9), some (.ref 1), some (.int zq9), some (.long (L (pk (arM (arr odC n))))), none] : PL)) (NA (by omega))) ?_
        refine Runs.go 1 (cs := []) (pc' := 46) (pl' := [some (.ref 9), some (.ref 1), some (.int (N (n + 1))), some (.long (L (pk (arM (arr odC n))))), none]) (st' := []) (h' := (KP X cl (S 0) (pk (CX S)) (S 61) (S 62) sn sg sv cd ln pe pr (cba S n) (cfo S n) (pk (cus S n)) true sc hs m o)) rfl trivial ?_
        have hk : ¬ clN S (arr odC n) 12 = true := mt (cl_iff hV hA).mpr z1
        exact Runs.wk (pl' := [some (.ref 9), some (.ref 1), some (.int (N (n + 1))), none, none]) (st' := []) (h' := (KP X cl (S 0) (pk (CX S)) (S 61) (S 62) sn sg sv cd ln pe pr (cba S (n + 1)) (cfo S (n + 1)) (pk (cus S (n + 1))) true sc hs m o)) ⟨Or.inr rfl, Or.inr rfl, Or.inr rfl, Or.inl rfl, Or.inl rfl, trivial⟩ rfl (by rw [cfo_s, cba_s, cus_s, if_neg hk, if_neg hk, if_neg hk]) (K2 trivial)
      · replace z1 : ((pk (arM (arr odC n))) &&& (pk (CX S))) = 0 := (L_cmp0 (by omega) (by omega)).mp (Classical.not_not.mp (of_decide_eq_false z1))
        refine Runs.go 3 (cs := []) (pc' := 72) (pl' := [some (.ref 9), some (.ref 1), some (.int (N n)), some (.long (L (pk (arM (arr odC n))))), none]) (st' := [.long (L (pk (arM (arr odC n)))), .ref 1, .ref 9]) (h' := (KP X cl (S 0) (pk (CX S)) (S 61) (S 62) sn sg sv cd ln pe pr (cba S n) (cfo S n) (pk (cus S n)) true sc hs m o)) rfl trivial ?_
        refine Runs.cal (y := mX4_count) (as := [.ref 9, .ref 1, .long (L (pk (arM (arr odC n))))]) (rest := []) (pc' := 75) (cs := []) (v := none) (h1 := (KP X cl (S 0) (pk (CX S)) (S 61) (S 62) sn sg sv cd ln pe pr (ctA S (arr odC n) (cba S n)) (ctO S (arr odC n) (cfo S n)) (pk (ctU S (arr odC n) (cus S n))) true sc hs m o)) rfl trivial (by decide) (c_count (us := 0) hV hcl hA (cus_16 S n)) ?_
        show Runs _ _ 75 _ [] _ _ _ _
        refine Runs.goL 1 (cs := []) (pc' := 78) (pl1 := [some (.ref 9), some (.ref 1), some (.int (N n + N 1)), some (.long (L (pk (arM (arr odC n))))), none]) (pl' := [some (.ref 9), some (.ref 1), some (.int (N (n + 1))), some (.long (L (pk (arM (arr odC n))))), none]) (st' := []) (h' := (KP X cl (S 0) (pk (CX S)) (S 61) (S 62) sn sg sv cd ln pe pr (ctA S (arr odC n) (cba S n)) (ctO S (arr odC n) (cfo S n)) (pk (ctU S (arr odC n) (cus S n))) true sc hs m o)) rfl trivial (congrArg (fun zq9 => ([some (.ref 9), some (.ref 1), some (.int zq9), some (.long (L (pk (arM (arr odC n))))), none] : PL)) (NA (by omega))) ?_
        refine Runs.go 1 (cs := []) (pc' := 46) (pl' := [some (.ref 9), some (.ref 1), some (.int (N (n + 1))), some (.long (L (pk (arM (arr odC n))))), none]) (st' := []) (h' := (KP X cl (S 0) (pk (CX S)) (S 61) (S 62) sn sg sv cd ln pe pr (ctA S (arr odC n) (cba S n)) (ctO S (arr odC n) (cfo S n)) (pk (ctU S (arr odC n) (cus S n))) true sc hs m o)) rfl trivial ?_
        have hk : clN S (arr odC n) 12 = true := (cl_iff hV hA).mp z1
        exact Runs.wk (pl' := [some (.ref 9), some (.ref 1), some (.int (N (n + 1))), none, none]) (st' := []) (h' := (KP X cl (S 0) (pk (CX S)) (S 61) (S 62) sn sg sv cd ln pe pr (cba S (n + 1)) (cfo S (n + 1)) (pk (cus S (n + 1))) true sc hs m o)) ⟨Or.inr rfl, Or.inr rfl, Or.inr rfl, Or.inl rfl, Or.inl rfl, trivial⟩ rfl (by rw [cfo_s, cba_s, cus_s, if_pos hk, if_pos hk, if_pos hk]) (K2 trivial)
    · show Runs _ _ 46 _ [] _ _ _ _
      show Runs _ _ 46 [some (.ref 9), some (.ref 1), some (.int (N 13824)), none, none] [] (KP X cl (S 0) (pk (CX S)) (S 61) (S 62) sn sg sv cd ln pe pr (cba S 13824) (cfo S 13824) (pk (cus S 13824)) true sc hs m o) _ _ _
      refine Runs.go 3 (cs := []) (pc' := bif decide ((N 13824) ≤ (N 13824)) then 81 else 53) (pl' := [some (.ref 9), some (.ref 1), some (.int (N 13824)), none, none]) (st' := []) (h' := (KP X cl (S 0) (pk (CX S)) (S 61) (S 62) sn sg sv cd ln pe pr (cba S 13824) (cfo S 13824) (pk (cus S 13824)) true sc hs m o)) rfl trivial ?_
      refine Runs.brT (decide_eq_true (by decide)) ?_
      exact Runs.retE (cs := []) rfl trivial rfl rfl
theorem c_look1 {X : Nat × (Nat → Int32)} {S : Nat → Nat} {cl : Nat → Nat} {sn : SV} {sg : Nat → Option Nat} {sv : Nat → SV} {cd : Nat → Nat} {ln pe pr : Nat} {ba : Nat → Nat} {fo us : Nat} {fr : Bool} {sc : Nat} {hs : Bool} {m : MT} {o : Nat → Int64} : Call 3 mX4_lookAt [.ref 9, .ref 1] (KP X cl (S 0) (pk (CX S)) (S 61) (S 62) sn sg sv cd ln pe pr ba fo us true sc hs m o) (.inl none) (KP X cl (S 0) (pk (CX S)) (S 61) (S 62) sn sg sv cd ln pe pr ba fo us true sc hs m o) 0 := by
  refine Runs.go 3 (cs := []) (pc' := bif decide ((bI true) = 0) then 8 else 7) (pl' := [some (.ref 9), some (.ref 1), none, none, none]) (st' := []) (h' := (KP X cl (S 0) (pk (CX S)) (S 61) (S 62) sn sg sv cd ln pe pr ba fo us true sc hs m o)) rfl trivial ?_
  refine Runs.brF (decide_eq_false (by decide)) ?_
  exact Runs.retE (cs := []) rfl trivial rfl rfl
theorem c_lookAt {X : Nat × (Nat → Int32)} {S : Nat → Nat} {cl : Nat → Nat} {sn : SV} {sg : Nat → Option Nat} {sv : Nat → SV} {cd : Nat → Nat} {ln pe pr : Nat} {ba : Nat → Nat} {fo us : Nat} {fr : Bool} {sc : Nat} {hs : Bool} {m : MT} {o : Nat → Int64} (hV : VC S) (hcl : ∀ k, k < S 0 → cl k = ecl S k) (hba : Z12 ba) (hfr : fr = true → fo = SVO S ∧ us = pk (SVU S) ∧ ba = SVA S) : Call 3 mX4_lookAt [.ref 9, .ref 1] (KP X cl (S 0) (pk (CX S)) (S 61) (S 62) sn sg sv cd ln pe pr ba fo us fr sc hs m o) (.inl none) (KP X cl (S 0) (pk (CX S)) (S 61) (S 62) sn sg sv cd ln pe pr (SVA S) (SVO S) (pk (SVU S)) true sc hs m o) 0 := by
  cases fr with
  | false => exact c_look0 (fr := true) hV hcl hba
  | true =>
    obtain ⟨rfl, rfl, rfl⟩ := hfr rfl
    exact c_look1 (fr := true)
theorem flN_0 {S sp : Nat → Nat} {n : Nat} : flN S sp n = 0 ↔ anyN (fun k => !heldB S sp k) n = false := by
  induction n with
  | zero => exact ⟨fun _ => rfl, fun _ => rfl⟩
  | succ n ih =>
    rw [flN_s, anyN_succ, Bool.or_eq_false_iff]
    by_cases h : heldB S sp n = true
    · rw [if_pos h, ih, h]
      simp
    · rw [if_neg h, bF h]
      simp
theorem sol_fl {S : Nat → Nat} {od : Nat → Nat} {n : Nat} : solF S od n = (clN S (arr od n) 12 && decide (flN S (arr od n) (S 0) = 0)) := by
  unfold solF solB isN
  congr 1
  by_cases h : flN S (arr od n) (S 0) = 0
  · rw [decide_eq_true h, flN_0.mp h]
    rfl
  · rw [decide_eq_false h, bT (mt flN_0.mpr h)]
    rfl
theorem cfo_so (S : Nat → Nat) : ∀ n, cfo S n = soF S odC n
  | 0 => rfl
  | n + 1 => by
    rw [cfo_s]
    show _ = if okN S (arr odC n) then soF S odC n + (1 - flN S (arr odC n) (S 0)) else soF S odC n
    rw [cfo_so S n, okN, ctO]
    cases hc : clN S (arr odC n) 12 with
    | false => rw [Bool.and_false]; rfl
    | true =>
      rw [Bool.and_true, if_pos rfl]
      by_cases h2 : flN S (arr odC n) (S 0) < 2
      · rw [if_pos (decide_eq_true h2)]
        split <;> omega
      · rw [if_neg (show ¬ flN S (arr odC n) (S 0) = 0 by omega), if_neg (by rw [decide_eq_false h2]; decide)]
theorem upn_id {f : Nat → Nat} {i : Nat} : upn f i (f i + 0) = f := upn_same rfl
theorem cba_al (S : Nat → Nat) : ∀ n, cba S n = alF S odC n
  | 0 => rfl
  | n + 1 => by
    rw [cba_s]
    show _ = if okN S (arr odC n) then upn (alF S odC n) (laN S (arr odC n) (S 0)) (alF S odC n (laN S (arr odC n) (S 0)) + flN S (arr odC n) (S 0)) else alF S odC n
    rw [cba_al S n, okN, ctA]
    cases hc : clN S (arr odC n) 12 with
    | false => rw [Bool.and_false]; rfl
    | true =>
      rw [Bool.and_true, if_pos rfl]
      by_cases h2 : flN S (arr odC n) (S 0) < 2
      · rw [if_pos (decide_eq_true h2)]
        by_cases h1 : flN S (arr odC n) (S 0) = 1
        · rw [if_pos h1, h1]
        · rw [if_neg h1, show flN S (arr odC n) (S 0) = 0 by omega, upn_id]
      · rw [if_neg (show ¬ flN S (arr odC n) (S 0) = 1 by omega), if_neg (by rw [decide_eq_false h2]; decide)]
theorem trF_s (S od : Nat → Nat) (n : Nat) : trF S od (n + 1) = if okN S (arr od n) && decide (flN S (arr od n) (S 0) = 0) then fil 12 (fun k => trF S od n k ||| 2 ^ arr od n k) (trF S od n) else trF S od n := rfl
theorem trF_z (S od : Nat → Nat) : ∀ n, Z12 (trF S od n)
  | 0 => fun _ _ => rfl
  | n + 1 => by
    rw [trF_s]
    split
    · intro j hj
      rw [fil_ge hj]
      exact trF_z S od n j hj
    · exact trF_z S od n
theorem cus_tr (S : Nat → Nat) : ∀ n, cus S n = trF S odC n
  | 0 => rfl
  | n + 1 => by
    rw [cus_s, trF_s, cus_tr S n, okN, ctU]
    cases hc : clN S (arr odC n) 12 with
    | false => rw [Bool.and_false, Bool.false_and]; rfl
    | true =>
      rw [Bool.and_true, if_pos rfl]
      by_cases h0 : flN S (arr odC n) (S 0) = 0
      · rw [if_pos h0, decide_eq_true h0, decide_eq_true (show flN S (arr odC n) (S 0) < 2 by omega), if_pos (show (true && true) = true from rfl)]
        funext j
        by_cases hj : j < 12
        · rw [fil_lt hj, arM_at hj]
        · rw [fil_ge (by omega), arM_z _ j (by omega), Nat.or_zero]
      · rw [if_neg h0, decide_eq_false h0, Bool.and_false, if_neg (by decide)]
theorem SVO_so (S : Nat → Nat) : SVO S = soF S odC 13824 := cfo_so S _
theorem SVA_al (S : Nat → Nat) : SVA S = alF S odC 13824 := cba_al S _
theorem SVU_tr (S : Nat → Nat) : SVU S = trF S odC 13824 := cus_tr S _
theorem cba_z (S : Nat → Nat) (h12 : S 0 ≤ 12) : ∀ n, Z12 (cba S n)
  | 0 => fun _ _ => rfl
  | n + 1 => by
    rw [cba_s]
    split
    · unfold ctA
      split
      · intro j hj
        have hl := laN_lt S (arr odC n) (S 0) h12
        rw [upn_ne (by omega)]
        exact cba_z S h12 n j hj
      · exact cba_z S h12 n
    · exact cba_z S h12 n
/-- solutions among the first n arrangements -/
def cnS (S : Nat → Nat) : Nat → Nat
  | 0 => 0
  | n + 1 => cnS S n + (solF S odC n).toNat
theorem cfo_cn (S : Nat → Nat) : ∀ n, cfo S n = cnS S n
  | 0 => rfl
  | n + 1 => by
    rw [cfo_s, cfo_cn S n, ctO]
    show _ = cnS S n + (solF S odC n).toNat
    rw [sol_fl]
    cases clN S (arr odC n) 12 with
    | false => rfl
    | true =>
      by_cases h0 : flN S (arr odC n) (S 0) = 0
      · rw [if_pos rfl, if_pos h0, decide_eq_true h0]
        rfl
      · rw [if_pos rfl, if_neg h0, decide_eq_false h0]
        rfl
theorem cnS_le (S : Nat → Nat) : ∀ n, cnS S n ≤ n
  | 0 => Nat.le_refl _
  | n + 1 => by
    have := cnS_le S n
    show cnS S n + (solF S odC n).toNat ≤ n + 1
    cases solF S odC n <;> simp <;> omega
theorem SVO_le (S : Nat → Nat) : SVO S ≤ 13824 := by
  unfold SVO
  rw [cfo_cn]
  exact cnS_le S _
theorem fdr_none {S : Nat → Nat} : ∀ (n i r : Nat), cnS S (i + n) ≤ cnS S i + r → fdr (solF S odC) r i n = none
  | 0, _, _, _ => rfl
  | n + 1, i, r, h => by
    rw [fdr]
    have e : i + (n + 1) = (i + 1) + n := by omega
    rw [e] at h
    have s1 : cnS S (i + 1) = cnS S i + (solF S odC i).toNat := rfl
    have mono : ∀ a b, cnS S a ≤ cnS S (a + b) := by
      intro a b
      induction b with
      | zero => exact Nat.le_refl _
      | succ b ih => exact Nat.le_trans ih (Nat.le_add_right _ _)
    have m1 := mono (i + 1) n
    by_cases hs : solF S odC i = true
    · rw [if_pos hs]
      rw [hs, Bool.toNat_true] at s1
      rw [if_neg (by omega)]
      exact fdr_none n (i + 1) (r - 1) (by omega)
    · rw [if_neg hs]
      rw [bF hs, Bool.toNat_false] at s1
      exact fdr_none n (i + 1) r (by omega)
/-- the solution of a rank, as a grid -/
def slG (S : Nat → Nat) (r : Nat) : Nat → Nat := match fdO S odC r with
  | some n => arM (arr odC n)
  | none => fun _ => 0
theorem slG_16 (S : Nat → Nat) (r : Nat) : M16 (slG S r) := by
  unfold slG
  cases fdO S odC r with
  | none => exact fun _ _ => (show 0 < 16 by decide)
  | some n => exact arM_16 (arr_4 odC_4 n)
theorem slG_z (S : Nat → Nat) (r : Nat) : Z12 (slG S r) := by
  unfold slG
  cases fdO S odC r with
  | none => exact fun _ _ => rfl
  | some n => exact arM_z _
theorem slG_none {S : Nat → Nat} {r : Nat} (h : fdO S odC r = none) : L 0 = L (pk (slG S r)) := by
  unfold slG
  rw [h]
  show L 0 = L (pk (fun _ => 0))
  rw [zk_zero]
theorem slG_some {S : Nat → Nat} {r n : Nat} (h : fdO S odC r = some n) : L (pk (arM (arr odC n))) = L (pk (slG S r)) := by
  unfold slG
  rw [h]
theorem slG_big {S : Nat → Nat} {r : Nat} (h : SVO S ≤ r) : fdO S odC r = none := by
  refine fdr_none 13824 0 r ?_
  unfold SVO at h
  rw [cfo_cn] at h
  show cnS S 13824 ≤ 0 + r
  omega
theorem c_solutionAt {X : Nat × (Nat → Int32)} {S : Nat → Nat} {cl : Nat → Nat} {sn : SV} {sg : Nat → Option Nat} {sv : Nat → SV} {cd : Nat → Nat} {ln pe pr : Nat} {ba : Nat → Nat} {fo us : Nat} {fr : Bool} {sc : Nat} {hs : Bool} {m : MT} {o : Nat → Int64} {r : Nat} (hV : VC S) (hcl : ∀ k, k < S 0 → cl k = ecl S k) (hba : Z12 ba) (hfr : fr = true → fo = SVO S ∧ us = pk (SVU S) ∧ ba = SVA S) (hr : r < 2147483648) : Call 4 mX6_solutionAt [.ref 0, .int (N r)] (KP X cl (S 0) (pk (CX S)) (S 61) (S 62) sn sg sv cd ln pe pr ba fo us fr sc hs m o) (.inl (some (.long (L (pk (slG S r)))))) (KP X cl (S 0) (pk (CX S)) (S 61) (S 62) sn sg sv cd ln pe pr (SVA S) (SVO S) (pk (SVU S)) true sc hs m o) 0 := by
  have hso := SVO_le S
  refine Runs.go 4 (cs := []) (pc' := 8) (pl' := [some (.ref 0), some (.int (N r)), none, none, none, none]) (st' := [.ref 1, .ref 9]) (h' := (KP X cl (S 0) (pk (CX S)) (S 61) (S 62) sn sg sv cd ln pe pr ba fo us fr sc hs m o)) rfl trivial ?_
  refine Runs.cal (y := mX4_lookAt) (as := [.ref 9, .ref 1]) (rest := []) (pc' := 11) (cs := []) (v := none) (h1 := (KP X cl (S 0) (pk (CX S)) (S 61) (S 62) sn sg sv cd ln pe pr (SVA S) (SVO S) (pk (SVU S)) true sc hs m o)) rfl trivial (by decide) (c_lookAt hV hcl hba hfr) ?_
  show Runs _ _ 11 _ [] _ _ _ _
  refine Runs.go 5 (cs := []) (pc' := bif decide ((N r) < (N (SVO S))) then 24 else 22) (pl' := [some (.ref 0), some (.int (N r)), none, none, none, none]) (st' := []) (h' := (KP X cl (S 0) (pk (CX S)) (S 61) (S 62) sn sg sv cd ln pe pr (SVA S) (SVO S) (pk (SVU S)) true sc hs m o)) rfl trivial ?_
  refine Runs.br (fun z1 => ?_) (fun z1 => ?_)
  · replace z1 : r < SVO S := (N_lt (a := r) (b := SVO S) (by omega) (by omega)).mp (of_decide_eq_true z1)
    refine Runs.go 4 (cs := []) (pc' := 28) (pl' := [some (.ref 0), some (.int (N r)), some (.int (N 0)), some (.int (N 0)), none, none]) (st' := []) (h' := (KP X cl (S 0) (pk (CX S)) (S 61) (S 62) sn sg sv cd ln pe pr (SVA S) (SVO S) (pk (SVU S)) true sc hs m o)) rfl trivial ?_
    refine Runs.wk (pl' := [some (.ref 0), some (.int (N r)), some (.int (N (cnS S 0))), some (.int (N 0)), none, none]) (st' := []) (h' := (KP X cl (S 0) (pk (CX S)) (S 61) (S 62) sn sg sv cd ln pe pr (SVA S) (SVO S) (pk (SVU S)) true sc hs m o)) ⟨Or.inr rfl, Or.inr rfl, Or.inr rfl, Or.inr rfl, Or.inl rfl, Or.inl rfl, trivial⟩ rfl rfl ?_
    refine Runs.loopN (fun n => [some (.ref 0), some (.int (N r)), some (.int (N (cnS S n))), some (.int (N n)), none, none]) (fun n => (KP X cl (S 0) (pk (CX S)) (S 61) (S 62) sn sg sv cd ln pe pr (SVA S) (SVO S) (pk (SVU S)) true sc hs m o)) (fun n => fdr (solF S odC) r 0 13824 = fdr (solF S odC) (r - cnS S n) n (13824 - n) ∧ cnS S n ≤ r) 13824 ⟨congrArg (fun x => fdr (solF S odC) x 0 13824) (Nat.sub_zero r).symm, Nat.zero_le _⟩ (fun n hn I1 K1 => ?_) (fun I1 => ?_)
    · show Runs _ _ 28 [some (.ref 0), some (.int (N r)), some (.int (N (cnS S n))), some (.int (N n)), none, none] [] (KP X cl (S 0) (pk (CX S)) (S 61) (S 62) sn sg sv cd ln pe pr (SVA S) (SVO S) (pk (SVU S)) true sc hs m o) _ _ _
      have hcn := cnS_le S n
      refine Runs.go 3 (cs := []) (pc' := bif decide ((N 13824) ≤ (N n)) then 70 else 35) (pl' := [some (.ref 0), some (.int (N r)), some (.int (N (cnS S n))), some (.int (N n)), none, none]) (st' := []) (h' := (KP X cl (S 0) (pk (CX S)) (S 61) (S 62) sn sg sv cd ln pe pr (SVA S) (SVO S) (pk (SVU S)) true sc hs m o)) rfl trivial ?_
      refine Runs.brF (decide_eq_false (fun zq9 => absurd ((N_le (a := 13824) (b := n) (by omega) (by omega)).mp zq9) (by omega))) ?_
      refine Runs.go 1 (cs := []) (pc' := 36) (pl' := [some (.ref 0), some (.int (N r)), some (.int (N (cnS S n))), some (.int (N n)), none, none]) (st' := [.int (N n)]) (h' := (KP X cl (S 0) (pk (CX S)) (S 61) (S 62) sn sg sv cd ln pe pr (SVA S) (SVO S) (pk (SVU S)) true sc hs m o)) rfl trivial ?_
      refine Runs.cal (y := mX4_arrangement) (as := [.int (N n)]) (rest := []) (pc' := 39) (cs := []) (v := some (.long (L (pk (arM (arr odC n)))))) (h1 := (KP X cl (S 0) (pk (CX S)) (S 61) (S 62) sn sg sv cd ln pe pr (SVA S) (SVO S) (pk (SVU S)) true sc hs m o)) rfl trivial (by decide) (c_arrangement (by omega)) ?_
      show Runs _ _ 39 _ [.long (L (pk (arM (arr odC n))))] _ _ _ _
      refine Runs.go 4 (cs := []) (pc' := 47) (pl' := [some (.ref 0), some (.int (N r)), some (.int (N (cnS S n))), some (.int (N n)), some (.long (L (pk (arM (arr odC n))))), none]) (st' := [.long (L (pk (arM (arr odC n)))), .ref 1]) (h' := (KP X cl (S 0) (pk (CX S)) (S 61) (S 62) sn sg sv cd ln pe pr (SVA S) (SVO S) (pk (SVU S)) true sc hs m o)) rfl trivial ?_
      refine Runs.cal (y := mX3_allows) (as := [.ref 1, .long (L (pk (arM (arr odC n))))]) (rest := []) (pc' := 50) (cs := []) (v := some (.int (bI (solF S odC n)))) (h1 := (KP X cl (S 0) (pk (CX S)) (S 61) (S 62) sn sg sv cd ln pe pr (SVA S) (SVO S) (pk (SVU S)) true sc hs m o)) rfl trivial (by decide) (c_allows hV hcl (arr_4 odC_4 n)) ?_
      show Runs _ _ 50 _ [.int (bI (solF S odC n))] _ _ _ _
      refine Runs.go 1 (cs := []) (pc' := bif decide ((bI (solF S odC n)) = 0) then 64 else 53) (pl' := [some (.ref 0), some (.int (N r)), some (.int (N (cnS S n))), some (.int (N n)), some (.long (L (pk (arM (arr odC n))))), none]) (st' := []) (h' := (KP X cl (S 0) (pk (CX S)) (S 61) (S 62) sn sg sv cd ln pe pr (SVA S) (SVO S) (pk (SVU S)) true sc hs m o)) rfl trivial ?_
      refine Runs.br (fun z2 => ?_) (fun z2 => ?_)
      · replace z2 : (solF S odC n) = false := (bI_0 _).mp (of_decide_eq_true z2)
        refine Runs.goL 1 (cs := []) (pc' := 67) (pl1 := [some (.ref 0), some (.int (N r)), some (.int (N (cnS S n))), some (.int (N n + N 1)), some (.long (L (pk (arM (arr odC n))))), none]) (pl' := [some (.ref 0), some (.int (N r)), some (.int (N (cnS S n))), some (.int (N (n + 1))), some (.long (L (pk (arM (arr odC n))))), none]) (st' := []) (h' := (KP X cl (S 0) (pk (CX S)) (S 61) (S 62) sn sg sv cd ln pe pr (SVA S) (SVO S) (pk (SVU S)) true sc hs m o)) rfl trivial (congrArg (fun zq9 => ([some (.ref 0), some (.int (N r)), some (.int (N (cnS S n))), some (.int zq9), some (.long (L (pk (arM (arr odC n))))), none] : PL)) (NA (by omega))) ?_
        refine Runs.go 1 (cs := []) (pc' := 28) (pl' := [some (.ref 0), some (.int (N r)), some (.int (N (cnS S n))), some (.int (N (n + 1))), some (.long (L (pk (arM (arr odC n))))), none]) (st' := []) (h' := (KP X cl (S 0) (pk (CX S)) (S 61) (S 62) sn sg sv cd ln pe pr (SVA S) (SVO S) (pk (SVU S)) true sc hs m o)) rfl trivial ?_
        have hsol : ¬ solF S odC n = true := by rw [z2]; decide
        have hc : cnS S (n + 1) = cnS S n := by show cnS S n + (solF S odC n).toNat = _; rw [z2]; rfl
        exact Runs.wk (pl' := [some (.ref 0), some (.int (N r)), some (.int (N (cnS S (n + 1)))), some (.int (N (n + 1))), none, none]) (st' := []) (h' := (KP X cl (S 0) (pk (CX S)) (S 61) (S 62) sn sg sv cd ln pe pr (SVA S) (SVO S) (pk (SVU S)) true sc hs m o)) ⟨Or.inr rfl, Or.inr rfl, Or.inr (congrArg (fun zq9 => some (Value.int zq9)) (congrArg N hc)), Or.inr rfl, Or.inl rfl, Or.inl rfl, trivial⟩ rfl rfl (K1 ⟨I1.1.trans ((fdr_step hn).trans ((if_neg hsol).trans (congrArg (fun x => fdr (solF S odC) x (n + 1) (13824 - (n + 1))) (by rw [hc])))), by rw [hc]; exact I1.2⟩)
      · replace z2 : ¬ ((solF S odC n) = false) := mt (bI_0 _).mpr (of_decide_eq_false z2)
        refine Runs.go 3 (cs := []) (pc' := bif decide (¬ (N (cnS S n)) = (N r)) then 61 else 58) (pl' := [some (.ref 0), some (.int (N r)), some (.int (N (cnS S n))), some (.int (N n)), some (.long (L (pk (arM (arr odC n))))), none]) (st' := []) (h' := (KP X cl (S 0) (pk (CX S)) (S 61) (S 62) sn sg sv cd ln pe pr (SVA S) (SVO S) (pk (SVU S)) true sc hs m o)) rfl trivial ?_
        refine Runs.br (fun z3 => ?_) (fun z3 => ?_)
        · replace z3 : ¬ (cnS S n = r) := mt (N_eq (a := cnS S n) (b := r) (by omega) (by omega)).mpr (of_decide_eq_true z3)
          refine Runs.goL 1 (cs := []) (pc' := 64) (pl1 := [some (.ref 0), some (.int (N r)), some (.int (N (cnS S n) + N 1)), some (.int (N n)), some (.long (L (pk (arM (arr odC n))))), none]) (pl' := [some (.ref 0), some (.int (N r)), some (.int (N (cnS S n + 1))), some (.int (N n)), some (.long (L (pk (arM (arr odC n))))), none]) (st' := []) (h' := (KP X cl (S 0) (pk (CX S)) (S 61) (S 62) sn sg sv cd ln pe pr (SVA S) (SVO S) (pk (SVU S)) true sc hs m o)) rfl trivial (congrArg (fun zq9 => ([some (.ref 0), some (.int (N r)), some (.int zq9), some (.int (N n)), some (.long (L (pk (arM (arr odC n))))), none] : PL)) (NA (by omega))) ?_
          refine Runs.goL 1 (cs := []) (pc' := 67) (pl1 := [some (.ref 0), some (.int (N r)), some (.int (N (cnS S n + 1))), some (.int (N n + N 1)), some (.long (L (pk (arM (arr odC n))))), none]) (pl' := [some (.ref 0), some (.int (N r)), some (.int (N (cnS S n + 1))), some (.int (N (n + 1))), some (.long (L (pk (arM (arr odC n))))), none]) (st' := []) (h' := (KP X cl (S 0) (pk (CX S)) (S 61) (S 62) sn sg sv cd ln pe pr (SVA S) (SVO S) (pk (SVU S)) true sc hs m o)) rfl trivial (congrArg (fun zq9 => ([some (.ref 0), some (.int (N r)), some (.int (N (cnS S n + 1))), some (.int zq9), some (.long (L (pk (arM (arr odC n))))), none] : PL)) (NA (by omega))) ?_
          refine Runs.go 1 (cs := []) (pc' := 28) (pl' := [some (.ref 0), some (.int (N r)), some (.int (N (cnS S n + 1))), some (.int (N (n + 1))), some (.long (L (pk (arM (arr odC n))))), none]) (st' := []) (h' := (KP X cl (S 0) (pk (CX S)) (S 61) (S 62) sn sg sv cd ln pe pr (SVA S) (SVO S) (pk (SVU S)) true sc hs m o)) rfl trivial ?_
          have hsol : solF S odC n = true := bT z2
          exact Runs.wk (pl' := [some (.ref 0), some (.int (N r)), some (.int (N (cnS S (n + 1)))), some (.int (N (n + 1))), none, none]) (st' := []) (h' := (KP X cl (S 0) (pk (CX S)) (S 61) (S 62) sn sg sv cd ln pe pr (SVA S) (SVO S) (pk (SVU S)) true sc hs m o)) ⟨Or.inr rfl, Or.inr rfl, Or.inr (congrArg (fun zq9 => some (Value.int zq9)) (congrArg N (show cnS S (n + 1) = cnS S n + 1 by show cnS S n + (solF S odC n).toNat = _; rw [hsol]; rfl))), Or.inr rfl, Or.inl rfl, Or.inl rfl, trivial⟩ rfl rfl (K1 ⟨I1.1.trans ((fdr_step hn).trans ((if_pos hsol).trans ((if_neg (by omega)).trans (congrArg (fun x => fdr (solF S odC) x (n + 1) (13824 - (n + 1))) (show r - cnS S n - 1 = r - cnS S (n + 1) by show _ = r - (cnS S n + (solF S odC n).toNat); rw [hsol, Bool.toNat_true]; omega))))), by show cnS S n + (solF S odC n).toNat ≤ r; rw [hsol, Bool.toNat_true]; have := I1.2; omega⟩)
        · replace z3 : cnS S n = r := (N_eq (a := cnS S n) (b := r) (by omega) (by omega)).mp (Classical.not_not.mp (of_decide_eq_false z3))
          refine Runs.go 1 (cs := []) (pc' := 60) (pl' := [some (.ref 0), some (.int (N r)), some (.int (N (cnS S n))), some (.int (N n)), some (.long (L (pk (arM (arr odC n))))), none]) (st' := [.long (L (pk (arM (arr odC n))))]) (h' := (KP X cl (S 0) (pk (CX S)) (S 61) (S 62) sn sg sv cd ln pe pr (SVA S) (SVO S) (pk (SVU S)) true sc hs m o)) rfl trivial ?_
          have hsol : solF S odC n = true := bT z2
          have hrn : r - cnS S n = 0 := by omega
          have hq : fdO S odC r = some n := I1.1.trans ((fdr_step hn).trans ((if_pos hsol).trans (if_pos hrn)))
          exact Runs.retE (cs := []) rfl trivial (retJ (slG_some hq).symm) rfl
    · show Runs _ _ 28 _ [] _ _ _ _
      show Runs _ _ 28 [some (.ref 0), some (.int (N r)), some (.int (N (cnS S 13824))), some (.int (N 13824)), none, none] [] (KP X cl (S 0) (pk (CX S)) (S 61) (S 62) sn sg sv cd ln pe pr (SVA S) (SVO S) (pk (SVU S)) true sc hs m o) _ _ _
      refine Runs.go 3 (cs := []) (pc' := bif decide ((N 13824) ≤ (N 13824)) then 70 else 35) (pl' := [some (.ref 0), some (.int (N r)), some (.int (N (cnS S 13824))), some (.int (N 13824)), none, none]) (st' := []) (h' := (KP X cl (S 0) (pk (CX S)) (S 61) (S 62) sn sg sv cd ln pe pr (SVA S) (SVO S) (pk (SVU S)) true sc hs m o)) rfl trivial ?_
      refine Runs.brT (decide_eq_true (by decide)) ?_
      refine Runs.go 1 (cs := []) (pc' := 71) (pl' := [some (.ref 0), some (.int (N r)), some (.int (N (cnS S 13824))), some (.int (N 13824)), none, none]) (st' := [.long (L 0)]) (h' := (KP X cl (S 0) (pk (CX S)) (S 61) (S 62) sn sg sv cd ln pe pr (SVA S) (SVO S) (pk (SVU S)) true sc hs m o)) rfl trivial ?_
      have hq : fdO S odC r = none := I1.1.trans fdr_end
      exact Runs.retE (cs := []) rfl trivial (retJ (slG_none hq).symm) rfl
  · replace z1 : ¬ (r < SVO S) := mt (N_lt (a := r) (b := SVO S) (by omega) (by omega)).mpr (of_decide_eq_false z1)
    refine Runs.go 1 (cs := []) (pc' := 23) (pl' := [some (.ref 0), some (.int (N r)), none, none, none, none]) (st' := [.long (L 0)]) (h' := (KP X cl (S 0) (pk (CX S)) (S 61) (S 62) sn sg sv cd ln pe pr (SVA S) (SVO S) (pk (SVU S)) true sc hs m o)) rfl trivial ?_
    have hq : fdO S odC r = none := slG_big (by omega)
    exact Runs.retE (cs := []) rfl trivial (retJ (slG_none hq).symm) rfl
