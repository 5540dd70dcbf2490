/-! THE CLASS: search; what is left, told (gen_c7.py) -/
theorem sm_s (S b : Nat → Nat) (i m p : Nat) : smN S b i m (p + 1) = if bt (b i) p then smN S b i m p + cSn S (woF b i p) m else smN S b i m p := rfl
theorem cSn_onM {S b : Nat → Nat} {M : Nat} (hM : M = 13824) (hV : VC S) (hb : M16 b) (hc : conF b = false) (hm : fmO b = none) (hst : Stab S b) : cSn S b M = 1 := by
  subst hM
  exact cSn_one hV hb hc hm hst
theorem c_srch {X : Nat × (Nat → Int32)} {S : Nat → Nat} {cl : Nat → Nat} {sn : SV} {sg : Nat → Option Nat} {sv : Nat → SV} {cd : Nat → Nat} {ln pe pr : Nat} {ba : Nat → Nat} {fo us : Nat} {fr : Bool} {sc : Nat} {hs : Bool} {m : MT} {o : Nat → Int64} {d dp M : Nat} (hM : M = 13824) (hV : VC S) (hcl : ∀ k, k < S 0 → cl k = ecl S k) {f : Nat → Nat} (hf : M16 f) (hz : Z12 f) (hd : 3 ≤ d) (hdp : dp ≤ 12) (hrec : ∀ i p, fmO (BYT S f) = some i → p < 4 → Call d mX6_countBySearch [.ref 1, .long (L (pk (woF (BYT S f) i p))), .int (N (dp + 1))] (KP X cl (S 0) (pk (CX S)) (S 61) (S 62) sn sg sv cd ln pe pr ba fo us fr sc hs m o) (.inl (some (.int (N (cSn S (woF (BYT S f) i p) M))))) (KP X cl (S 0) (pk (CX S)) (S 61) (S 62) sn sg sv cd ln pe pr ba fo us fr sc hs m o) 0) : Call (d + 1) mX6_countBySearch [.ref 1, .long (L (pk f)), .int (N dp)] (KP X cl (S 0) (pk (CX S)) (S 61) (S 62) sn sg sv cd ln pe pr ba fo us fr sc hs m o) (.inl (some (.int (N (cSn S f M))))) (KP X cl (S 0) (pk (CX S)) (S 61) (S 62) sn sg sv cd ln pe pr ba fo us fr sc hs m o) 0 := by
  have h12 := hV.2.1
  have hM2 : M ≤ 13824 := Nat.le_of_eq hM
  refine Runs.go 2 (cs := []) (pc' := 2) (pl' := [some (.ref 1), some (.long (L (pk f))), none, some (.int (N dp)), none, none, none, none, none]) (st' := [.long (L (pk f)), .ref 1]) (h' := (KP X cl (S 0) (pk (CX S)) (S 61) (S 62) sn sg sv cd ln pe pr ba fo us fr sc hs m o)) rfl trivial ?_
  refine Runs.cal (y := mX2_byTurns) (as := [.ref 1, .long (L (pk f))]) (rest := []) (pc' := 5) (cs := []) (v := some (.long (L (pk (BYT S f))))) (h1 := (KP X cl (S 0) (pk (CX S)) (S 61) (S 62) sn sg sv cd ln pe pr ba fo us fr sc hs m o)) rfl trivial (by omega) (c_byTurns hV hcl hf hz) ?_
  show Runs _ _ 5 _ [.long (L (pk (BYT S f)))] _ _ _ _
  refine Runs.go 4 (cs := []) (pc' := bif decide ((N 12) < (N dp)) then 21 else 13) (pl' := [some (.ref 1), some (.long (L (pk f))), none, some (.int (N dp)), some (.long (L (pk (BYT S f)))), none, none, none, none]) (st' := []) (h' := (KP X cl (S 0) (pk (CX S)) (S 61) (S 62) sn sg sv cd ln pe pr ba fo us fr sc hs m o)) rfl trivial ?_
  refine Runs.brF (decide_eq_false (fun zq9 => absurd ((N_lt (a := 12) (b := dp) (by omega) (by omega)).mp zq9) (by omega))) ?_
  refine Runs.go 1 (cs := []) (pc' := 15) (pl' := [some (.ref 1), some (.long (L (pk f))), none, some (.int (N dp)), some (.long (L (pk (BYT S f)))), none, none, none, none]) (st' := [.long (L (pk (BYT S f)))]) (h' := (KP X cl (S 0) (pk (CX S)) (S 61) (S 62) sn sg sv cd ln pe pr ba fo us fr sc hs m o)) rfl trivial ?_
  refine Runs.cal (y := mX1_isContradictory) (as := [.long (L (pk (BYT S f)))]) (rest := []) (pc' := 18) (cs := []) (v := some (.int (bI (conF (BYT S f))))) (h1 := (KP X cl (S 0) (pk (CX S)) (S 61) (S 62) sn sg sv cd ln pe pr ba fo us fr sc hs m o)) rfl trivial (by omega) (c_isContradictory (BYT_16 hf)) ?_
  show Runs _ _ 18 _ [.int (bI (conF (BYT S f)))] _ _ _ _
  refine Runs.go 1 (cs := []) (pc' := bif decide ((bI (conF (BYT S f))) = 0) then 23 else 21) (pl' := [some (.ref 1), some (.long (L (pk f))), none, some (.int (N dp)), some (.long (L (pk (BYT S f)))), none, none, none, none]) (st' := []) (h' := (KP X cl (S 0) (pk (CX S)) (S 61) (S 62) sn sg sv cd ln pe pr ba fo us fr sc hs m o)) rfl trivial ?_
  refine Runs.br (fun z1 => ?_) (fun z1 => ?_)
  · replace z1 : (conF (BYT S f)) = false := (bI_0 _).mp (of_decide_eq_true z1)
    cases hfm : fmO (BYT S f) with
    | none =>
      show Runs _ _ 23 _ _ _ _ _ _
      refine Runs.go 1 (cs := []) (pc' := 25) (pl' := [some (.ref 1), some (.long (L (pk f))), none, some (.int (N dp)), some (.long (L (pk (BYT S f)))), none, none, none, none]) (st' := [.long (L (pk (BYT S f)))]) (h' := (KP X cl (S 0) (pk (CX S)) (S 61) (S 62) sn sg sv cd ln pe pr ba fo us fr sc hs m o)) rfl trivial ?_
      refine Runs.cal (y := mX1_firstWithMore) (as := [.long (L (pk (BYT S f)))]) (rest := []) (pc' := 28) (cs := []) (v := some (.int (-1 : Int32))) (h1 := (KP X cl (S 0) (pk (CX S)) (S 61) (S 62) sn sg sv cd ln pe pr ba fo us fr sc hs m o)) rfl trivial (by omega) (c_firstWithMore0 (BYT_16 hf) hfm) ?_
      show Runs _ _ 28 _ [.int (-1 : Int32)] _ _ _ _
      refine Runs.go 4 (cs := []) (pc' := bif decide (¬ (-1 : Int32) = (-1 : Int32)) then 38 else 36) (pl' := [some (.ref 1), some (.long (L (pk f))), none, some (.int (N dp)), some (.long (L (pk (BYT S f)))), none, some (.int (-1 : Int32)), none, none]) (st' := []) (h' := (KP X cl (S 0) (pk (CX S)) (S 61) (S 62) sn sg sv cd ln pe pr ba fo us fr sc hs m o)) rfl trivial ?_
      refine Runs.brF (decide_eq_false (by decide)) ?_
      refine Runs.go 1 (cs := []) (pc' := 37) (pl' := [some (.ref 1), some (.long (L (pk f))), none, some (.int (N dp)), some (.long (L (pk (BYT S f)))), none, some (.int (-1 : Int32)), none, none]) (st' := [.int (N 1)]) (h' := (KP X cl (S 0) (pk (CX S)) (S 61) (S 62) sn sg sv cd ln pe pr ba fo us fr sc hs m o)) rfl trivial ?_
      exact Runs.retE (cs := []) rfl trivial (retI (congrArg N ((cSn_byt hV hf M).trans (cSn_onM hM hV (BYT_16 hf) z1 hfm (BYT_stab hV.2.1 hf hz))))) rfl
    | some i =>
      obtain ⟨hi, h2⟩ := fmO_some hfm
      show Runs _ _ 23 _ _ _ _ _ _
      refine Runs.go 1 (cs := []) (pc' := 25) (pl' := [some (.ref 1), some (.long (L (pk f))), none, some (.int (N dp)), some (.long (L (pk (BYT S f)))), none, none, none, none]) (st' := [.long (L (pk (BYT S f)))]) (h' := (KP X cl (S 0) (pk (CX S)) (S 61) (S 62) sn sg sv cd ln pe pr ba fo us fr sc hs m o)) rfl trivial ?_
      refine Runs.cal (y := mX1_firstWithMore) (as := [.long (L (pk (BYT S f)))]) (rest := []) (pc' := 28) (cs := []) (v := some (.int (N i))) (h1 := (KP X cl (S 0) (pk (CX S)) (S 61) (S 62) sn sg sv cd ln pe pr ba fo us fr sc hs m o)) rfl trivial (by omega) (c_firstWithMore1 (BYT_16 hf) hfm hi) ?_
      show Runs _ _ 28 _ [.int (N i)] _ _ _ _
      refine Runs.go 4 (cs := []) (pc' := bif decide (¬ (N i) = (-1 : Int32)) then 38 else 36) (pl' := [some (.ref 1), some (.long (L (pk f))), none, some (.int (N dp)), some (.long (L (pk (BYT S f)))), none, some (.int (N i)), none, none]) (st' := []) (h' := (KP X cl (S 0) (pk (CX S)) (S 61) (S 62) sn sg sv cd ln pe pr ba fo us fr sc hs m o)) rfl trivial ?_
      refine Runs.brT (decide_eq_true (fun zq9 => absurd (Iff.rfl.mp zq9) (N_nm1 (by omega)))) ?_
      refine Runs.go 4 (cs := []) (pc' := 44) (pl' := [some (.ref 1), some (.long (L (pk f))), none, some (.int (N dp)), some (.long (L (pk (BYT S f)))), none, some (.int (N i)), some (.int (N 0)), some (.int (N 0))]) (st' := []) (h' := (KP X cl (S 0) (pk (CX S)) (S 61) (S 62) sn sg sv cd ln pe pr ba fo us fr sc hs m o)) rfl trivial ?_
      refine Runs.wk (pl' := [some (.ref 1), some (.long (L (pk f))), none, some (.int (N dp)), some (.long (L (pk (BYT S f)))), none, some (.int (N i)), some (.int (N (smN S (BYT S f) i M 0))), some (.int (N 0))]) (st' := []) (h' := (KP X cl (S 0) (pk (CX S)) (S 61) (S 62) sn sg sv cd ln pe pr ba fo us fr sc hs m o)) ⟨Or.inr rfl, Or.inr rfl, Or.inl rfl, Or.inr rfl, Or.inr rfl, Or.inl rfl, Or.inr rfl, Or.inr rfl, Or.inr rfl, trivial⟩ rfl rfl ?_
      refine Runs.loopN (fun p => [some (.ref 1), some (.long (L (pk f))), none, some (.int (N dp)), some (.long (L (pk (BYT S f)))), none, some (.int (N i)), some (.int (N (smN S (BYT S f) i M p))), some (.int (N p))]) (fun p => (KP X cl (S 0) (pk (CX S)) (S 61) (S 62) sn sg sv cd ln pe pr ba fo us fr sc hs m o)) (fun p => True) 4 trivial (fun p hp I1 K1 => ?_) (fun I1 => ?_)
      · show Runs _ _ 44 [some (.ref 1), some (.long (L (pk f))), none, some (.int (N dp)), some (.long (L (pk (BYT S f)))), none, some (.int (N i)), some (.int (N (smN S (BYT S f) i M p))), some (.int (N p))] [] (KP X cl (S 0) (pk (CX S)) (S 61) (S 62) sn sg sv cd ln pe pr ba fo us fr sc hs m o) _ _ _
        have hsm := sm_le (S := S) (b := BYT S f) (i := i) (m := M) p
        have hcs := cSn_le S (woF (BYT S f) i p) M
        refine Runs.go 3 (cs := []) (pc' := bif decide ((N 4) ≤ (N p)) then 89 else 50) (pl' := [some (.ref 1), some (.long (L (pk f))), none, some (.int (N dp)), some (.long (L (pk (BYT S f)))), none, some (.int (N i)), some (.int (N (smN S (BYT S f) i M p))), some (.int (N p))]) (st' := []) (h' := (KP X cl (S 0) (pk (CX S)) (S 61) (S 62) sn sg sv cd ln pe pr ba fo us fr sc hs m o)) rfl trivial ?_
        refine Runs.brF (decide_eq_false (fun zq9 => absurd ((N_le (a := 4) (b := p) (by omega) (by omega)).mp zq9) (by omega))) ?_
        refine Runs.go 3 (cs := []) (pc' := 56) (pl' := [some (.ref 1), some (.long (L (pk f))), none, some (.int (N dp)), some (.long (L (pk (BYT S f)))), none, some (.int (N i)), some (.int (N (smN S (BYT S f) i M p))), some (.int (N p))]) (st' := [.int (N p), .int (N i), .long (L (pk (BYT S f)))]) (h' := (KP X cl (S 0) (pk (CX S)) (S 61) (S 62) sn sg sv cd ln pe pr ba fo us fr sc hs m o)) rfl trivial ?_
        refine Runs.cal (y := mX1_has) (as := [.long (L (pk (BYT S f))), .int (N i), .int (N p)]) (rest := []) (pc' := 59) (cs := []) (v := some (.int (bI (bt (pk (BYT S f)) (4 * i + p))))) (h1 := (KP X cl (S 0) (pk (CX S)) (S 61) (S 62) sn sg sv cd ln pe pr ba fo us fr sc hs m o)) rfl trivial (by omega) (c_has (zk_lt (BYT_16 hf)) (by omega) (by omega)) ?_
        show Runs _ _ 59 _ [.int (bI (bt (pk (BYT S f)) (4 * i + p)))] _ _ _ _
        rw [zk_bt (BYT_16 hf) (by omega) (by omega)]
        refine Runs.go 1 (cs := []) (pc' := bif decide ((bI (bt (BYT S f i) p)) = 0) then 83 else 62) (pl' := [some (.ref 1), some (.long (L (pk f))), none, some (.int (N dp)), some (.long (L (pk (BYT S f)))), none, some (.int (N i)), some (.int (N (smN S (BYT S f) i M p))), some (.int (N p))]) (st' := []) (h' := (KP X cl (S 0) (pk (CX S)) (S 61) (S 62) sn sg sv cd ln pe pr ba fo us fr sc hs m o)) rfl trivial ?_
        refine Runs.br (fun z2 => ?_) (fun z2 => ?_)
        · replace z2 : (bt (BYT S f i) p) = false := (bI_0 _).mp (of_decide_eq_true z2)
          refine Runs.goL 1 (cs := []) (pc' := 86) (pl1 := [some (.ref 1), some (.long (L (pk f))), none, some (.int (N dp)), some (.long (L (pk (BYT S f)))), none, some (.int (N i)), some (.int (N (smN S (BYT S f) i M p))), some (.int (N p + N 1))]) (pl' := [some (.ref 1), some (.long (L (pk f))), none, some (.int (N dp)), some (.long (L (pk (BYT S f)))), none, some (.int (N i)), some (.int (N (smN S (BYT S f) i M p))), some (.int (N (p + 1)))]) (st' := []) (h' := (KP X cl (S 0) (pk (CX S)) (S 61) (S 62) sn sg sv cd ln pe pr ba fo us fr sc hs m o)) rfl trivial (congrArg (fun zq9 => ([some (.ref 1), some (.long (L (pk f))), none, some (.int (N dp)), some (.long (L (pk (BYT S f)))), none, some (.int (N i)), some (.int (N (smN S (BYT S f) i M p))), some (.int zq9)] : PL)) (NA (by omega))) ?_
          refine Runs.go 1 (cs := []) (pc' := 44) (pl' := [some (.ref 1), some (.long (L (pk f))), none, some (.int (N dp)), some (.long (L (pk (BYT S f)))), none, some (.int (N i)), some (.int (N (smN S (BYT S f) i M p))), some (.int (N (p + 1)))]) (st' := []) (h' := (KP X cl (S 0) (pk (CX S)) (S 61) (S 62) sn sg sv cd ln pe pr ba fo us fr sc hs m o)) rfl trivial ?_
          exact Runs.wk (pl' := [some (.ref 1), some (.long (L (pk f))), none, some (.int (N dp)), some (.long (L (pk (BYT S f)))), none, some (.int (N i)), some (.int (N (smN S (BYT S f) i M (p + 1)))), some (.int (N (p + 1)))]) (st' := []) (h' := (KP X cl (S 0) (pk (CX S)) (S 61) (S 62) sn sg sv cd ln pe pr ba fo us fr sc hs m o)) ⟨Or.inr rfl, Or.inr rfl, Or.inl rfl, Or.inr rfl, Or.inr rfl, Or.inl rfl, Or.inr rfl, Or.inr (congrArg (fun zq9 => some (Value.int zq9)) (congrArg N ((sm_s S (BYT S f) i M p).trans (if_neg (by rw [z2]; decide))))), Or.inr rfl, trivial⟩ rfl rfl (K1 trivial)
        · replace z2 : ¬ ((bt (BYT S f i) p) = false) := mt (bI_0 _).mpr (of_decide_eq_false z2)
          refine Runs.go 5 (cs := []) (pc' := 71) (pl' := [some (.ref 1), some (.long (L (pk f))), none, some (.int (N dp)), some (.long (L (pk (BYT S f)))), none, some (.int (N i)), some (.int (N (smN S (BYT S f) i M p))), some (.int (N p))]) (st' := [.int (N p), .int (N i), .long (L (pk (BYT S f))), .ref 1, .int (N (smN S (BYT S f) i M p))]) (h' := (KP X cl (S 0) (pk (CX S)) (S 61) (S 62) sn sg sv cd ln pe pr ba fo us fr sc hs m o)) rfl trivial ?_
          refine Runs.cal (y := mX1_withOnly) (as := [.long (L (pk (BYT S f))), .int (N i), .int (N p)]) (rest := [.ref 1, .int (N (smN S (BYT S f) i M p))]) (pc' := 74) (cs := []) (v := some (.long (L (pk (woF (BYT S f) i p))))) (h1 := (KP X cl (S 0) (pk (CX S)) (S 61) (S 62) sn sg sv cd ln pe pr ba fo us fr sc hs m o)) rfl trivial (by omega) (c_withOnly (BYT_16 hf) (by omega) (by omega)) ?_
          show Runs _ _ 74 _ [.long (L (pk (woF (BYT S f) i p))), .ref 1, .int (N (smN S (BYT S f) i M p))] _ _ _ _
          refine Runs.topI 3 (cs := []) (pc' := 77) (pl' := [some (.ref 1), some (.long (L (pk f))), none, some (.int (N dp)), some (.long (L (pk (BYT S f)))), none, some (.int (N i)), some (.int (N (smN S (BYT S f) i M p))), some (.int (N p))]) (v := (N dp) + (N 1)) (v' := N (dp + 1)) (st' := [.long (L (pk (woF (BYT S f) i p))), .ref 1, .int (N (smN S (BYT S f) i M p))]) (h' := (KP X cl (S 0) (pk (CX S)) (S 61) (S 62) sn sg sv cd ln pe pr ba fo us fr sc hs m o)) rfl trivial (NA (by omega)) ?_
          refine Runs.cal (y := mX6_countBySearch) (as := [.ref 1, .long (L (pk (woF (BYT S f) i p))), .int (N (dp + 1))]) (rest := [.int (N (smN S (BYT S f) i M p))]) (pc' := 80) (cs := []) (v := some (.int (N (cSn S (woF (BYT S f) i p) M)))) (h1 := (KP X cl (S 0) (pk (CX S)) (S 61) (S 62) sn sg sv cd ln pe pr ba fo us fr sc hs m o)) rfl trivial (by omega) (hrec i p hfm hp) ?_
          show Runs _ _ 80 _ [.int (N (cSn S (woF (BYT S f) i p) M)), .int (N (smN S (BYT S f) i M p))] _ _ _ _
          refine Runs.topI 1 (cs := []) (pc' := 81) (pl' := [some (.ref 1), some (.long (L (pk f))), none, some (.int (N dp)), some (.long (L (pk (BYT S f)))), none, some (.int (N i)), some (.int (N (smN S (BYT S f) i M p))), some (.int (N p))]) (v := (N (smN S (BYT S f) i M p)) + (N (cSn S (woF (BYT S f) i p) M))) (v' := N (cSn S (woF (BYT S f) i p) M + smN S (BYT S f) i M p)) (st' := []) (h' := (KP X cl (S 0) (pk (CX S)) (S 61) (S 62) sn sg sv cd ln pe pr ba fo us fr sc hs m o)) rfl trivial (NA (by omega)) ?_
          refine Runs.goL 2 (cs := []) (pc' := 86) (pl1 := [some (.ref 1), some (.long (L (pk f))), none, some (.int (N dp)), some (.long (L (pk (BYT S f)))), none, some (.int (N i)), some (.int (N (cSn S (woF (BYT S f) i p) M + smN S (BYT S f) i M p))), some (.int (N p + N 1))]) (pl' := [some (.ref 1), some (.long (L (pk f))), none, some (.int (N dp)), some (.long (L (pk (BYT S f)))), none, some (.int (N i)), some (.int (N (cSn S (woF (BYT S f) i p) M + smN S (BYT S f) i M p))), some (.int (N (p + 1)))]) (st' := []) (h' := (KP X cl (S 0) (pk (CX S)) (S 61) (S 62) sn sg sv cd ln pe pr ba fo us fr sc hs m o)) rfl trivial (congrArg (fun zq9 => ([some (.ref 1), some (.long (L (pk f))), none, some (.int (N dp)), some (.long (L (pk (BYT S f)))), none, some (.int (N i)), some (.int (N (cSn S (woF (BYT S f) i p) M + smN S (BYT S f) i M p))), some (.int zq9)] : PL)) (NA (by omega))) ?_
          refine Runs.go 1 (cs := []) (pc' := 44) (pl' := [some (.ref 1), some (.long (L (pk f))), none, some (.int (N dp)), some (.long (L (pk (BYT S f)))), none, some (.int (N i)), some (.int (N (cSn S (woF (BYT S f) i p) M + smN S (BYT S f) i M p))), some (.int (N (p + 1)))]) (st' := []) (h' := (KP X cl (S 0) (pk (CX S)) (S 61) (S 62) sn sg sv cd ln pe pr ba fo us fr sc hs m o)) rfl trivial ?_
          exact Runs.wk (pl' := [some (.ref 1), some (.long (L (pk f))), none, some (.int (N dp)), some (.long (L (pk (BYT S f)))), none, some (.int (N i)), some (.int (N (smN S (BYT S f) i M (p + 1)))), some (.int (N (p + 1)))]) (st' := []) (h' := (KP X cl (S 0) (pk (CX S)) (S 61) (S 62) sn sg sv cd ln pe pr ba fo us fr sc hs m o)) ⟨Or.inr rfl, Or.inr rfl, Or.inl rfl, Or.inr rfl, Or.inr rfl, Or.inl rfl, Or.inr rfl, Or.inr (congrArg (fun zq9 => some (Value.int zq9)) (congrArg N ((sm_s S (BYT S f) i M p).trans ((if_pos (bT z2)).trans (Nat.add_comm _ _))))), Or.inr rfl, trivial⟩ rfl rfl (K1 trivial)
      · show Runs _ _ 44 _ [] _ _ _ _
        show Runs _ _ 44 [some (.ref 1), some (.long (L (pk f))), none, some (.int (N dp)), some (.long (L (pk (BYT S f)))), none, some (.int (N i)), some (.int (N (smN S (BYT S f) i M 4))), some (.int (N 4))] [] (KP X cl (S 0) (pk (CX S)) (S 61) (S 62) sn sg sv cd ln pe pr ba fo us fr sc hs m o) _ _ _
        have hsm := sm_le (S := S) (b := BYT S f) (i := i) (m := M) 4
        refine Runs.go 3 (cs := []) (pc' := bif decide ((N 4) ≤ (N 4)) then 89 else 50) (pl' := [some (.ref 1), some (.long (L (pk f))), none, some (.int (N dp)), some (.long (L (pk (BYT S f)))), none, some (.int (N i)), some (.int (N (smN S (BYT S f) i M 4))), some (.int (N 4))]) (st' := []) (h' := (KP X cl (S 0) (pk (CX S)) (S 61) (S 62) sn sg sv cd ln pe pr ba fo us fr sc hs m o)) rfl trivial ?_
        refine Runs.brT (decide_eq_true (by decide)) ?_
        refine Runs.go 1 (cs := []) (pc' := 91) (pl' := [some (.ref 1), some (.long (L (pk f))), none, some (.int (N dp)), some (.long (L (pk (BYT S f)))), none, some (.int (N i)), some (.int (N (smN S (BYT S f) i M 4))), some (.int (N 4))]) (st' := [.int (N (smN S (BYT S f) i M 4))]) (h' := (KP X cl (S 0) (pk (CX S)) (S 61) (S 62) sn sg sv cd ln pe pr ba fo us fr sc hs m o)) rfl trivial ?_
        exact Runs.retE (cs := []) rfl trivial (retI (congrArg N ((cSn_byt hV hf M).trans (sm_all hi M)))) rfl
  · replace z1 : ¬ ((conF (BYT S f)) = false) := mt (bI_0 _).mpr (of_decide_eq_false z1)
    refine Runs.go 1 (cs := []) (pc' := 22) (pl' := [some (.ref 1), some (.long (L (pk f))), none, some (.int (N dp)), some (.long (L (pk (BYT S f)))), none, none, none, none]) (st' := [.int (N 0)]) (h' := (KP X cl (S 0) (pk (CX S)) (S 61) (S 62) sn sg sv cd ln pe pr ba fo us fr sc hs m o)) rfl trivial ?_
    exact Runs.retE (cs := []) rfl trivial (retI (congrArg N ((cSn_byt hV hf M).trans (cSn_con (BYT_16 hf) (bT z1) M)))) rfl
theorem c_search {X : Nat × (Nat → Int32)} {S : Nat → Nat} {cl : Nat → Nat} {sn : SV} {sg : Nat → Option Nat} {sv : Nat → SV} {cd : Nat → Nat} {ln pe pr : Nat} {ba : Nat → Nat} {fo us : Nat} {fr : Bool} {sc : Nat} {hs : Bool} {m : MT} {o : Nat → Int64} {M : Nat} (hM : M = 13824) (hV : VC S) (hcl : ∀ k, k < S 0 → cl k = ecl S k) : ∀ (u : Nat) (f : Nat → Nat) (dp : Nat), M16 f → Z12 f → mor f 12 ≤ u → dp + u ≤ 12 → Call (4 + u) mX6_countBySearch [.ref 1, .long (L (pk f)), .int (N dp)] (KP X cl (S 0) (pk (CX S)) (S 61) (S 62) sn sg sv cd ln pe pr ba fo us fr sc hs m o) (.inl (some (.int (N (cSn S f M))))) (KP X cl (S 0) (pk (CX S)) (S 61) (S 62) sn sg sv cd ln pe pr ba fo us fr sc hs m o) 0 := by
  intro u
  induction u with
  | zero =>
    intro f dp hf hz hm hdp
    refine c_srch (d := 3) hM hV hcl hf hz (by omega) (by omega) (fun i p h hp => ?_)
    obtain ⟨hi, h2⟩ := fmO_some h
    have m1 := mor_sub (bys_sub (S := S) 49 (f := f)) (BYT_16 hf) hf 12 (Nat.le_refl _)
    have m2 := mor_wo (b := BYT S f) (i := i) (p := p) hp h2 12
    rw [decide_eq_true hi, Bool.toNat_true] at m2
    have m3 : mor (BYT S f) 12 ≤ mor f 12 := m1
    omega
  | succ u ih =>
    intro f dp hf hz hm hdp
    refine c_srch (d := 4 + u) hM hV hcl hf hz (by omega) (by omega) (fun i p h hp => ?_)
    obtain ⟨hi, h2⟩ := fmO_some h
    have m1 := mor_sub (bys_sub (S := S) 49 (f := f)) (BYT_16 hf) hf 12 (Nat.le_refl _)
    have m2 := mor_wo (b := BYT S f) (i := i) (p := p) hp h2 12
    rw [decide_eq_true hi, Bool.toNat_true] at m2
    have m3 : mor (BYT S f) 12 ≤ mor f 12 := m1
    exact ih (woF (BYT S f) i p) (dp + 1) (wo_16 (BYT_16 hf) hp) (wo_z (BYT_z hz) hi) (by omega) (by omega)
theorem c_searchFR {X : Nat × (Nat → Int32)} {S : Nat → Nat} {cl : Nat → Nat} {sn : SV} {sg : Nat → Option Nat} {sv : Nat → SV} {cd : Nat → Nat} {ln pe pr : Nat} {ba : Nat → Nat} {fo us : Nat} {fr : Bool} {sc : Nat} {hs : Bool} {m : MT} {o : Nat → Int64} (hV : VC S) (hcl : ∀ k, k < S 0 → cl k = ecl S k) : Call 16 mX6_countBySearch [.ref 1, .long (L (pk (FR S))), .int (N 0)] (KP X cl (S 0) (pk (CX S)) (S 61) (S 62) sn sg sv cd ln pe pr ba fo us fr sc hs m o) (.inl (some (.int (N (SVO S))))) (KP X cl (S 0) (pk (CX S)) (S 61) (S 62) sn sg sv cd ln pe pr ba fo us fr sc hs m o) 0 := by
  obtain ⟨M, hM⟩ : ∃ M, M = 13824 := ⟨_, rfl⟩
  have e : SVO S = cSn S (FR S) M := by
    unfold SVO
    rw [← hM, cfo_cn, cSn_all hV]
  rw [e]
  exact c_search hM hV hcl 12 (FR S) 0 (FR_m16 S) (FR_z S) (mor_le _ _) (by omega)
theorem c_solutionsBySearch {X : Nat × (Nat → Int32)} {S : Nat → Nat} {cl : Nat → Nat} {sn : SV} {sg : Nat → Option Nat} {sv : Nat → SV} {cd : Nat → Nat} {ln pe pr : Nat} {ba : Nat → Nat} {fo us : Nat} {fr : Bool} {sc : Nat} {hs : Bool} {m : MT} {o : Nat → Int64} (hV : VC S) (hcl : ∀ k, k < S 0 → cl k = ecl S k) : Call 17 mX6_solutionsBySearch [.ref 0] (KP X cl (S 0) (pk (CX S)) (S 61) (S 62) sn sg sv cd ln pe pr ba fo us fr sc hs m o) (.inl (some (.int (N (SVO S))))) (KP X cl (S 0) (pk (CX S)) (S 61) (S 62) sn sg sv cd ln pe pr ba fo us fr sc hs m o) 0 := by
  refine Runs.go 4 (cs := []) (pc' := 8) (pl' := [some (.ref 0)]) (st' := [.ref 1, .ref 1]) (h' := (KP X cl (S 0) (pk (CX S)) (S 61) (S 62) sn sg sv cd ln pe pr ba fo us fr sc hs m o)) rfl trivial ?_
  refine Runs.cal (y := mX2_leftAtFirst) (as := [.ref 1]) (rest := [.ref 1]) (pc' := 11) (cs := []) (v := some (.long (L (pk (FR S))))) (h1 := (KP X cl (S 0) (pk (CX S)) (S 61) (S 62) sn sg sv cd ln pe pr ba fo us fr sc hs m o)) rfl trivial (by decide) (c_leftAtFirst hV) ?_
  show Runs _ _ 11 _ [.long (L (pk (FR S))), .ref 1] _ _ _ _
  refine Runs.go 1 (cs := []) (pc' := 12) (pl' := [some (.ref 0)]) (st' := [.int (N 0), .long (L (pk (FR S))), .ref 1]) (h' := (KP X cl (S 0) (pk (CX S)) (S 61) (S 62) sn sg sv cd ln pe pr ba fo us fr sc hs m o)) rfl trivial ?_
  refine Runs.cal (y := mX6_countBySearch) (as := [.ref 1, .long (L (pk (FR S))), .int (N 0)]) (rest := []) (pc' := 15) (cs := []) (v := some (.int (N (SVO S)))) (h1 := (KP X cl (S 0) (pk (CX S)) (S 61) (S 62) sn sg sv cd ln pe pr ba fo us fr sc hs m o)) rfl trivial (by decide) (c_searchFR hV hcl) ?_
  show Runs _ _ 15 _ [.int (N (SVO S))] _ _ _ _
  exact Runs.retE (cs := []) rfl trivial (retI rfl) rfl
/-- what is told as left -/
def LE (S : Nat → Nat) : Nat → Nat := if conF (PRP S) then fun _ => 0 else PRP S
theorem LE_16 (S : Nat → Nat) : M16 (LE S) := by
  unfold LE
  split
  · exact fun _ _ => (show 0 < 16 by decide)
  · exact PRP_16 S
theorem LE_z (S : Nat → Nat) : Z12 (LE S) := by
  unfold LE
  split
  · exact fun _ _ => rfl
  · exact PRP_z S
theorem LE_con {S : Nat → Nat} (h : conF (PRP S) = true) : L (pk (LE S)) = L 0 := by
  unfold LE
  rw [h, if_pos rfl, zk_zero]
theorem LE_no {S : Nat → Nat} (h : conF (PRP S) = false) : L (pk (LE S)) = L (pk (PRP S)) := by
  unfold LE
  rw [h, if_neg (by decide)]
theorem LT_con {S : Nat → Nat} (h12 : S 0 ≤ 12) (h : conF (BYT S (FR S)) = true) : L (pk (LE S)) = L 0 := LE_con ((turns_con h12).1.symm.trans h)
theorem LT_no {S : Nat → Nat} (h12 : S 0 ≤ 12) (h : conF (BYT S (FR S)) = false) : L (pk (LE S)) = L (pk (BYT S (FR S))) := by
  have e := (turns_con h12).1.symm.trans h
  rw [LE_no e, (turns_con h12).2 e]
theorem c_leftAtEnd {X : Nat × (Nat → Int32)} {S : Nat → Nat} {cl : Nat → Nat} {sn : SV} {sg : Nat → Option Nat} {sv : Nat → SV} {cd : Nat → Nat} {ln pe pr : Nat} {ba : Nat → Nat} {fo us : Nat} {fr : Bool} {sc : Nat} {hs : Bool} {m : MT} {o : Nat → Int64} (hV : VC S) (hcl : ∀ k, k < S 0 → cl k = ecl S k) : Call 5 mX6_leftAtEnd [.ref 0] (KP X cl (S 0) (pk (CX S)) (S 61) (S 62) sn sg sv cd ln pe pr ba fo us fr sc hs m o) (.inl (some (.long (L (pk (LE S)))))) (KP X cl (S 0) (pk (CX S)) (S 61) (S 62) sn sg sv cd ln (pk (PRP S)) (TRP S) ba fo us fr sc hs m o) 0 := by
  refine Runs.go 4 (cs := []) (pc' := 8) (pl' := [some (.ref 0)]) (st' := [.ref 1, .ref 8]) (h' := (KP X cl (S 0) (pk (CX S)) (S 61) (S 62) sn sg sv cd ln pe pr ba fo us fr sc hs m o)) rfl trivial ?_
  refine Runs.cal (y := mX2_run) (as := [.ref 8, .ref 1]) (rest := []) (pc' := 11) (cs := []) (v := none) (h1 := (KP X cl (S 0) (pk (CX S)) (S 61) (S 62) sn sg sv cd ln (pk (PRP S)) (TRP S) ba fo us fr sc hs m o)) rfl trivial (by decide) (c_run hV hcl) ?_
  show Runs _ _ 11 _ [] _ _ _ _
  refine Runs.go 3 (cs := []) (pc' := 18) (pl' := [some (.ref 0)]) (st' := [.long (L (pk (PRP S)))]) (h' := (KP X cl (S 0) (pk (CX S)) (S 61) (S 62) sn sg sv cd ln (pk (PRP S)) (TRP S) ba fo us fr sc hs m o)) rfl trivial ?_
  refine Runs.cal (y := mX1_isContradictory) (as := [.long (L (pk (PRP S)))]) (rest := []) (pc' := 21) (cs := []) (v := some (.int (bI (conF (PRP S))))) (h1 := (KP X cl (S 0) (pk (CX S)) (S 61) (S 62) sn sg sv cd ln (pk (PRP S)) (TRP S) ba fo us fr sc hs m o)) rfl trivial (by decide) (c_isContradictory (PRP_16 S)) ?_
  show Runs _ _ 21 _ [.int (bI (conF (PRP S)))] _ _ _ _
  refine Runs.join 35 [some (.ref 0)] [.long (L (pk (LE S)))] (KP X cl (S 0) (pk (CX S)) (S 61) (S 62) sn sg sv cd ln (pk (PRP S)) (TRP S) ba fo us fr sc hs m o) (fun J1 => ?_) ?_
  · show Runs _ _ 21 _ _ _ _ _ _
    refine Runs.go 1 (cs := []) (pc' := bif decide ((bI (conF (PRP S))) = 0) then 28 else 24) (pl' := [some (.ref 0)]) (st' := []) (h' := (KP X cl (S 0) (pk (CX S)) (S 61) (S 62) sn sg sv cd ln (pk (PRP S)) (TRP S) ba fo us fr sc hs m o)) rfl trivial ?_
    refine Runs.br (fun z1 => ?_) (fun z1 => ?_)
    · replace z1 : (conF (PRP S)) = false := (bI_0 _).mp (of_decide_eq_true z1)
      refine Runs.go 3 (cs := []) (pc' := 35) (pl' := [some (.ref 0)]) (st' := [.long (L (pk (PRP S)))]) (h' := (KP X cl (S 0) (pk (CX S)) (S 61) (S 62) sn sg sv cd ln (pk (PRP S)) (TRP S) ba fo us fr sc hs m o)) rfl trivial ?_
      exact Runs.wk (pl' := [some (.ref 0)]) (st' := [.long (L (pk (LE S)))]) (h' := (KP X cl (S 0) (pk (CX S)) (S 61) (S 62) sn sg sv cd ln (pk (PRP S)) (TRP S) ba fo us fr sc hs m o)) ⟨Or.inr rfl, trivial⟩ (congrArg (fun zq9 => ([.long zq9] : List Value)) (LE_no z1).symm) rfl J1
    · replace z1 : ¬ ((conF (PRP S)) = false) := mt (bI_0 _).mpr (of_decide_eq_false z1)
      refine Runs.go 2 (cs := []) (pc' := 35) (pl' := [some (.ref 0)]) (st' := [.long (L 0)]) (h' := (KP X cl (S 0) (pk (CX S)) (S 61) (S 62) sn sg sv cd ln (pk (PRP S)) (TRP S) ba fo us fr sc hs m o)) rfl trivial ?_
      exact Runs.wk (pl' := [some (.ref 0)]) (st' := [.long (L (pk (LE S)))]) (h' := (KP X cl (S 0) (pk (CX S)) (S 61) (S 62) sn sg sv cd ln (pk (PRP S)) (TRP S) ba fo us fr sc hs m o)) ⟨Or.inr rfl, trivial⟩ (congrArg (fun zq9 => ([.long zq9] : List Value)) (LE_con (bT z1)).symm) rfl J1
  exact Runs.retE (cs := []) rfl trivial (retJ rfl) rfl
theorem c_leftAtEndByTurns {X : Nat × (Nat → Int32)} {S : Nat → Nat} {cl : Nat → Nat} {sn : SV} {sg : Nat → Option Nat} {sv : Nat → SV} {cd : Nat → Nat} {ln pe pr : Nat} {ba : Nat → Nat} {fo us : Nat} {fr : Bool} {sc : Nat} {hs : Bool} {m : MT} {o : Nat → Int64} (hV : VC S) (hcl : ∀ k, k < S 0 → cl k = ecl S k) : Call 4 mX6_leftAtEndByTurns [.ref 0] (KP X cl (S 0) (pk (CX S)) (S 61) (S 62) sn sg sv cd ln pe pr ba fo us fr sc hs m o) (.inl (some (.long (L (pk (LE S)))))) (KP X cl (S 0) (pk (CX S)) (S 61) (S 62) sn sg sv cd ln pe pr ba fo us fr sc hs m o) 0 := by
  refine Runs.go 4 (cs := []) (pc' := 8) (pl' := [some (.ref 0), none, none]) (st' := [.ref 1, .ref 1]) (h' := (KP X cl (S 0) (pk (CX S)) (S 61) (S 62) sn sg sv cd ln pe pr ba fo us fr sc hs m o)) rfl trivial ?_
  refine Runs.cal (y := mX2_leftAtFirst) (as := [.ref 1]) (rest := [.ref 1]) (pc' := 11) (cs := []) (v := some (.long (L (pk (FR S))))) (h1 := (KP X cl (S 0) (pk (CX S)) (S 61) (S 62) sn sg sv cd ln pe pr ba fo us fr sc hs m o)) rfl trivial (by decide) (c_leftAtFirst hV) ?_
  show Runs _ _ 11 _ [.long (L (pk (FR S))), .ref 1] _ _ _ _
  refine Runs.cal (y := mX2_byTurns) (as := [.ref 1, .long (L (pk (FR S)))]) (rest := []) (pc' := 14) (cs := []) (v := some (.long (L (pk (BYT S (FR S)))))) (h1 := (KP X cl (S 0) (pk (CX S)) (S 61) (S 62) sn sg sv cd ln pe pr ba fo us fr sc hs m o)) rfl trivial (by decide) (c_byTurns hV hcl (FR_m16 S) (FR_z S)) ?_
  show Runs _ _ 14 _ [.long (L (pk (BYT S (FR S))))] _ _ _ _
  refine Runs.go 2 (cs := []) (pc' := 16) (pl' := [some (.ref 0), some (.long (L (pk (BYT S (FR S))))), none]) (st' := [.long (L (pk (BYT S (FR S))))]) (h' := (KP X cl (S 0) (pk (CX S)) (S 61) (S 62) sn sg sv cd ln pe pr ba fo us fr sc hs m o)) rfl trivial ?_
  refine Runs.cal (y := mX1_isContradictory) (as := [.long (L (pk (BYT S (FR S))))]) (rest := []) (pc' := 19) (cs := []) (v := some (.int (bI (conF (BYT S (FR S)))))) (h1 := (KP X cl (S 0) (pk (CX S)) (S 61) (S 62) sn sg sv cd ln pe pr ba fo us fr sc hs m o)) rfl trivial (by decide) (c_isContradictory (BYT_16 (FR_m16 S))) ?_
  show Runs _ _ 19 _ [.int (bI (conF (BYT S (FR S))))] _ _ _ _
  refine Runs.join 27 [some (.ref 0), none, none] [.long (L (pk (LE S)))] (KP X cl (S 0) (pk (CX S)) (S 61) (S 62) sn sg sv cd ln pe pr ba fo us fr sc hs m o) (fun J1 => ?_) ?_
  · show Runs _ _ 19 _ _ _ _ _ _
    refine Runs.go 1 (cs := []) (pc' := bif decide ((bI (conF (BYT S (FR S)))) = 0) then 26 else 22) (pl' := [some (.ref 0), some (.long (L (pk (BYT S (FR S))))), none]) (st' := []) (h' := (KP X cl (S 0) (pk (CX S)) (S 61) (S 62) sn sg sv cd ln pe pr ba fo us fr sc hs m o)) rfl trivial ?_
    refine Runs.br (fun z1 => ?_) (fun z1 => ?_)
    · replace z1 : (conF (BYT S (FR S))) = false := (bI_0 _).mp (of_decide_eq_true z1)
      refine Runs.go 1 (cs := []) (pc' := 27) (pl' := [some (.ref 0), some (.long (L (pk (BYT S (FR S))))), none]) (st' := [.long (L (pk (BYT S (FR S))))]) (h' := (KP X cl (S 0) (pk (CX S)) (S 61) (S 62) sn sg sv cd ln pe pr ba fo us fr sc hs m o)) rfl trivial ?_
      exact Runs.wk (pl' := [some (.ref 0), none, none]) (st' := [.long (L (pk (LE S)))]) (h' := (KP X cl (S 0) (pk (CX S)) (S 61) (S 62) sn sg sv cd ln pe pr ba fo us fr sc hs m o)) ⟨Or.inr rfl, Or.inl rfl, Or.inl rfl, trivial⟩ (congrArg (fun zq9 => ([.long zq9] : List Value)) (LT_no hV.2.1 z1).symm) rfl J1
    · replace z1 : ¬ ((conF (BYT S (FR S))) = false) := mt (bI_0 _).mpr (of_decide_eq_false z1)
      refine Runs.go 2 (cs := []) (pc' := 27) (pl' := [some (.ref 0), some (.long (L (pk (BYT S (FR S))))), none]) (st' := [.long (L 0)]) (h' := (KP X cl (S 0) (pk (CX S)) (S 61) (S 62) sn sg sv cd ln pe pr ba fo us fr sc hs m o)) rfl trivial ?_
      exact Runs.wk (pl' := [some (.ref 0), none, none]) (st' := [.long (L (pk (LE S)))]) (h' := (KP X cl (S 0) (pk (CX S)) (S 61) (S 62) sn sg sv cd ln pe pr ba fo us fr sc hs m o)) ⟨Or.inr rfl, Or.inl rfl, Or.inl rfl, trivial⟩ (congrArg (fun zq9 => ([.long zq9] : List Value)) (LT_con hV.2.1 (bT z1)).symm) rfl J1
  exact Runs.retE (cs := []) rfl trivial (retJ rfl) rfl
theorem inB_lo {v : Int32} {b : Nat} (h : inB v (N 0) (N b) = true) : ¬ v < N 0 := by
  simp only [inB, Bool.and_eq_true, decide_eq_true_eq] at h
  exact Int32.not_lt.mpr h.1
theorem inB_out {v : Int32} {b : Nat} (hb : b < 100) (h : ¬ inB v (N 0) (N b) = true) (h0 : ¬ v < N 0) : N (b + 1) ≤ v := by
  simp only [inB, Bool.and_eq_true, decide_eq_true_eq] at h
  have h1 : ¬ v ≤ N b := fun z => h ⟨Int32.not_lt.mp h0, z⟩
  have h2 := Int32.not_le.mp h1
  rw [Int32.lt_iff_toInt_lt, N_toInt (by omega)] at h2
  rw [Int32.le_iff_toInt_le, N_toInt (by omega)]
  omega
