/-! THE CLASS: its states, and trying all arrangements (gen_c5.py) -/
/-- the orders of four, as the reference makes them; the class's table of them -/
def odC (i : Nat) : Nat := ([0, 1, 2, 3, 0, 1, 3, 2, 0, 2, 1, 3, 0, 2, 3, 1, 0, 3, 1, 2, 0, 3, 2, 1, 1, 0, 2, 3, 1, 0, 3, 2, 1, 2, 0, 3, 1, 2, 3, 0, 1, 3, 0, 2, 1, 3, 2, 0, 2, 0, 1, 3, 2, 0, 3, 1, 2, 1, 0, 3, 2, 1, 3, 0, 2, 3, 0, 1, 2, 3, 1, 0, 3, 0, 1, 2, 3, 0, 2, 1, 3, 1, 0, 2, 3, 1, 2, 0, 3, 2, 0, 1, 3, 2, 1, 0] : List Nat).getD i 0
def tabN (i : Nat) : Nat := ([33825, 18465, 33345, 10305, 17025, 9345, 33810, 18450, 33090, 6210, 16770, 5250, 33300, 10260, 33060, 6180, 8580, 4740, 16920, 9240, 16680, 5160, 8520, 4680] : List Nat).getD i 0
theorem tab_N : ∀ i, i < 24 → tabT i = L (tabN i) := by decide +kernel
theorem tab_od : ∀ i, i < 24 → tabN i = 2 ^ odC (4 * i + 0) + 16 * 2 ^ odC (4 * i + 1) + 256 * 2 ^ odC (4 * i + 2) + 4096 * 2 ^ odC (4 * i + 3) := by decide +kernel
theorem tab_lt : ∀ i, i < 24 → tabN i < 65536 := by decide +kernel
theorem odC_4 : ∀ j, j < 96 → odC j < 4 := by decide +kernel
theorem tabT_at {a : Nat} (h : a < 24) : tabT (N a).toNatClampNeg = L (tabN a) := by rw [N_tc (by omega), tab_N a h]
theorem arr_pk {n : Nat} : ((tabN (n / 24 / 24 % 24) ||| 65536 * tabN (n / 24 % 24)) ||| 4294967296 * tabN (n % 24)) = pk (arM (arr odC n)) := by
  have a1 := tab_lt (n / 24 / 24 % 24) (by omega)
  have a2 := tab_lt (n / 24 % 24) (by omega)
  have e1 : tabN (n / 24 / 24 % 24) ||| 65536 * tabN (n / 24 % 24) = tabN (n / 24 / 24 % 24) + 65536 * tabN (n / 24 % 24) := or_sh (n := 16) a1
  rw [e1]
  have e2 : tabN (n / 24 / 24 % 24) + 65536 * tabN (n / 24 % 24) ||| 4294967296 * tabN (n % 24) = tabN (n / 24 / 24 % 24) + 65536 * tabN (n / 24 % 24) + 4294967296 * tabN (n % 24) := or_sh (n := 32) (by omega)
  rw [e2, zk_ex, tab_od _ (by omega), tab_od _ (by omega), tab_od _ (by omega)]
  show _ = 2 ^ odC (4 * (n / 24 / 24 % 24) + 0) + 16 * 2 ^ odC (4 * (n / 24 / 24 % 24) + 1) + 256 * 2 ^ odC (4 * (n / 24 / 24 % 24) + 2) + 4096 * 2 ^ odC (4 * (n / 24 / 24 % 24) + 3) + 65536 * 2 ^ odC (4 * (n / 24 % 24) + 0) + 1048576 * 2 ^ odC (4 * (n / 24 % 24) + 1) + 16777216 * 2 ^ odC (4 * (n / 24 % 24) + 2) + 268435456 * 2 ^ odC (4 * (n / 24 % 24) + 3) + 4294967296 * 2 ^ odC (4 * (n % 24) + 0) + 68719476736 * 2 ^ odC (4 * (n % 24) + 1) + 1099511627776 * 2 ^ odC (4 * (n % 24) + 2) + 17592186044416 * 2 ^ odC (4 * (n % 24) + 3)
  omega
theorem div576 (n : Nat) : n / 576 = n / 24 / 24 := by rw [Nat.div_div_eq_div_mul]
theorem c_arrangement {X : Nat × (Nat → Int32)} {cl : Nat → Nat} {cn cx ma ru : Nat} {sn : SV} {sg : Nat → Option Nat} {sv : Nat → SV} {cd : Nat → Nat} {ln pe pr : Nat} {ba : Nat → Nat} {fo us : Nat} {fr : Bool} {sc : Nat} {hs : Bool} {m : MT} {o : Nat → Int64} {n : Nat} (hn : n < 13824) : Call 0 mX4_arrangement [.int (N n)] (KP X cl cn cx ma ru sn sg sv cd ln pe pr ba fo us fr sc hs m o) (.inl (some (.long (L (pk (arM (arr odC n))))))) (KP X cl cn cx ma ru sn sg sv cd ln pe pr ba fo us fr sc hs m o) 0 := by
  refine Runs.topI 4 (cs := [¬ (N 576) = 0]) (pc' := 8) (pl' := [some (.int (N n)), none, none, none, none, none, none]) (v := (N n) / (N 576)) (v' := N (n / 576)) (st' := [.ref 1001]) (h' := (KP X cl cn cx ma ru sn sg sv cd ln pe pr ba fo us fr sc hs m o)) rfl ⟨(by decide), trivial⟩ (N_div (by omega) (by omega)) ?_
  refine Runs.topI 2 (cs := [¬ (N 24) = 0]) (pc' := 11) (pl' := [some (.int (N n)), none, none, none, none, none, none]) (v := (N (n / 576)) - (N (n / 576)) / (N 24) * (N 24)) (v' := N ((n / 576) % 24)) (st' := [.ref 1001]) (h' := (KP X cl cn cx ma ru sn sg sv cd ln pe pr ba fo us fr sc hs m o)) rfl ⟨(by decide), trivial⟩ (N_rem (by omega) (by omega)) ?_
  refine Runs.topJ 1 (cs := [vp_in (N ((n / 576) % 24)) 24]) (pc' := 12) (pl' := [some (.int (N n)), none, none, none, none, none, none]) (v := tabT (N ((n / 576) % 24)).toNatClampNeg) (v' := L (tabN ((n / 576) % 24))) (st' := []) (h' := (KP X cl cn cx ma ru sn sg sv cd ln pe pr ba fo us fr sc hs m o)) rfl ⟨(N_in (by omega) (by decide)), trivial⟩ (tabT_at (by omega)) ?_
  refine Runs.topI 5 (cs := [¬ (N 24) = 0]) (pc' := 20) (pl' := [some (.int (N n)), some (.long (L (tabN ((n / 576) % 24)))), none, none, none, none, none]) (v := (N n) / (N 24)) (v' := N (n / 24)) (st' := [.ref 1001]) (h' := (KP X cl cn cx ma ru sn sg sv cd ln pe pr ba fo us fr sc hs m o)) rfl ⟨(by decide), trivial⟩ (N_div (by omega) (by omega)) ?_
  refine Runs.topI 2 (cs := [¬ (N 24) = 0]) (pc' := 23) (pl' := [some (.int (N n)), some (.long (L (tabN ((n / 576) % 24)))), none, none, none, none, none]) (v := (N (n / 24)) - (N (n / 24)) / (N 24) * (N 24)) (v' := N ((n / 24) % 24)) (st' := [.ref 1001]) (h' := (KP X cl cn cx ma ru sn sg sv cd ln pe pr ba fo us fr sc hs m o)) rfl ⟨(by decide), trivial⟩ (N_rem (by omega) (by omega)) ?_
  refine Runs.topJ 1 (cs := [vp_in (N ((n / 24) % 24)) 24]) (pc' := 24) (pl' := [some (.int (N n)), some (.long (L (tabN ((n / 576) % 24)))), none, none, none, none, none]) (v := tabT (N ((n / 24) % 24)).toNatClampNeg) (v' := L (tabN ((n / 24) % 24))) (st' := []) (h' := (KP X cl cn cx ma ru sn sg sv cd ln pe pr ba fo us fr sc hs m o)) rfl ⟨(N_in (by omega) (by decide)), trivial⟩ (tabT_at (by omega)) ?_
  refine Runs.topI 5 (cs := [¬ (N 24) = 0]) (pc' := 32) (pl' := [some (.int (N n)), some (.long (L (tabN ((n / 576) % 24)))), none, some (.long (L (tabN ((n / 24) % 24)))), none, none, none]) (v := (N n) - (N n) / (N 24) * (N 24)) (v' := N (n % 24)) (st' := [.ref 1001]) (h' := (KP X cl cn cx ma ru sn sg sv cd ln pe pr ba fo us fr sc hs m o)) rfl ⟨(by decide), trivial⟩ (N_rem (by omega) (by omega)) ?_
  refine Runs.topJ 1 (cs := [vp_in (N (n % 24)) 24]) (pc' := 33) (pl' := [some (.int (N n)), some (.long (L (tabN ((n / 576) % 24)))), none, some (.long (L (tabN ((n / 24) % 24)))), none, none, none]) (v := tabT (N (n % 24)).toNatClampNeg) (v' := L (tabN (n % 24))) (st' := []) (h' := (KP X cl cn cx ma ru sn sg sv cd ln pe pr ba fo us fr sc hs m o)) rfl ⟨(N_in (by omega) (by decide)), trivial⟩ (tabT_at (by omega)) ?_
  refine Runs.topJ 5 (cs := []) (pc' := 40) (pl' := [some (.int (N n)), some (.long (L (tabN ((n / 576) % 24)))), none, some (.long (L (tabN ((n / 24) % 24)))), none, some (.long (L (tabN (n % 24)))), none]) (v := (L (tabN ((n / 24) % 24))) <<< (((N 16) : Int32).toInt64 &&& 63)) (v' := L (65536 * (tabN ((n / 24) % 24)))) (st' := [.long (L (tabN ((n / 576) % 24)))]) (h' := (KP X cl cn cx ma ru sn sg sv cd ln pe pr ba fo us fr sc hs m o)) rfl trivial (LHL (by omega) (by omega)) ?_
  refine Runs.topJ 1 (cs := []) (pc' := 41) (pl' := [some (.int (N n)), some (.long (L (tabN ((n / 576) % 24)))), none, some (.long (L (tabN ((n / 24) % 24)))), none, some (.long (L (tabN (n % 24)))), none]) (v := (L (tabN ((n / 576) % 24))) ||| (L (65536 * (tabN ((n / 24) % 24))))) (v' := L ((tabN ((n / 576) % 24)) ||| (65536 * (tabN ((n / 24) % 24))))) (st' := []) (h' := (KP X cl cn cx ma ru sn sg sv cd ln pe pr ba fo us fr sc hs m o)) rfl trivial (L_or _ _) ?_
  refine Runs.topJ 3 (cs := []) (pc' := 46) (pl' := [some (.int (N n)), some (.long (L (tabN ((n / 576) % 24)))), none, some (.long (L (tabN ((n / 24) % 24)))), none, some (.long (L (tabN (n % 24)))), none]) (v := (L (tabN (n % 24))) <<< (((N 32) : Int32).toInt64 &&& 63)) (v' := L (4294967296 * (tabN (n % 24)))) (st' := [.long (L ((tabN ((n / 576) % 24)) ||| (65536 * (tabN ((n / 24) % 24)))))]) (h' := (KP X cl cn cx ma ru sn sg sv cd ln pe pr ba fo us fr sc hs m o)) rfl trivial (LHL (by omega) (by omega)) ?_
  refine Runs.topJ 1 (cs := []) (pc' := 47) (pl' := [some (.int (N n)), some (.long (L (tabN ((n / 576) % 24)))), none, some (.long (L (tabN ((n / 24) % 24)))), none, some (.long (L (tabN (n % 24)))), none]) (v := (L ((tabN ((n / 576) % 24)) ||| (65536 * (tabN ((n / 24) % 24))))) ||| (L (4294967296 * (tabN (n % 24))))) (v' := L (pk (arM (arr odC n)))) (st' := []) (h' := (KP X cl cn cx ma ru sn sg sv cd ln pe pr ba fo us fr sc hs m o)) rfl trivial ((L_or _ _).trans (congrArg L (by rw [div576]; exact arr_pk))) ?_
  exact Runs.retE (cs := []) rfl trivial (retJ rfl) rfl
theorem cl_iff {S sp : Nat → Nat} (hV : VC S) (hsp : ∀ j, j < 12 → sp j < 4) : pk (arM sp) &&& pk (CX S) = 0 ↔ clN S sp 12 = true := by
  rw [zk_and (arM_16 hsp) (CX_16 hV), zk_eq0 (fun j hj => and_16 (arM_16 hsp j hj))]
  unfold clN
  rw [Bool.not_eq_true', anyN_not]
  constructor
  · intro h j hj
    have e := h j hj
    rw [arM_at hj, CX, if_pos hj] at e
    have e2 : bt (2 ^ sp j &&& S (j + 49)) (sp j) = false := by rw [e, bt_zero]
    rw [bt_and, bt_pow, decide_eq_true rfl, Bool.true_and] at e2
    exact e2
  · intro h j hj
    rw [arM_at hj, CX, if_pos hj]
    refine m16_0 (and_16 (p2_lt (hsp j hj))) (fun p hp => ?_)
    rw [bt_and, bt_pow]
    by_cases e : sp j = p
    · rw [← e, h j hj, Bool.and_false]
    · rw [decide_eq_false e, Bool.false_and]
theorem isN_c {S sp : Nat → Nat} (h : clN S sp 12 = false) (n : Nat) : isN S sp n = false := by rw [isN, h, Bool.false_and]
theorem c_allows {X : Nat × (Nat → Int32)} {S : Nat → Nat} {cl : Nat → Nat} {sn : SV} {sg : Nat → Option Nat} {sv : Nat → SV} {cd : Nat → Nat} {ln pe pr : Nat} {ba : Nat → Nat} {fo us : Nat} {fr : Bool} {sc : Nat} {hs : Bool} {m : MT} {o : Nat → Int64} (hV : VC S) (hcl : ∀ k, k < S 0 → cl k = ecl S k) {sp : Nat → Nat} (hsp : ∀ j, j < 12 → sp j < 4) : Call 2 mX3_allows [.ref 1, .long (L (pk (arM sp)))] (KP X cl (S 0) (pk (CX S)) (S 61) (S 62) sn sg sv cd ln pe pr ba fo us fr sc hs m o) (.inl (some (.int (bI (solB S sp))))) (KP X cl (S 0) (pk (CX S)) (S 61) (S 62) sn sg sv cd ln pe pr ba fo us fr sc hs m o) 0 := by
  have h12 := hV.2.1
  have hq := zk_lt (arM_16 hsp)
  have hq2 : pk (arM sp) &&& pk (CX S) ≤ pk (arM sp) := Nat.and_le_left
  refine Runs.topJ 4 (cs := []) (pc' := 6) (pl' := [some (.ref 1), some (.long (L (pk (arM sp)))), none, none]) (v := (L (pk (arM sp))) &&& (L (pk (CX S)))) (v' := L ((pk (arM sp)) &&& (pk (CX S)))) (st' := []) (h' := (KP X cl (S 0) (pk (CX S)) (S 61) (S 62) sn sg sv cd ln pe pr ba fo us fr sc hs m o)) rfl trivial (L_and _ _) ?_
  refine Runs.go 3 (cs := []) (pc' := bif decide ((lg_cmp (L ((pk (arM sp)) &&& (pk (CX S)))) (L 0)) = 0) then 13 else 11) (pl' := [some (.ref 1), some (.long (L (pk (arM sp)))), none, none]) (st' := []) (h' := (KP X cl (S 0) (pk (CX S)) (S 61) (S 62) sn sg sv cd ln pe pr ba fo us fr sc hs m o)) rfl trivial ?_
  refine Runs.br (fun z1 => ?_) (fun z1 => ?_)
  · replace z1 : ((pk (arM sp)) &&& (pk (CX S))) = 0 := (L_cmp0 (by omega) (by omega)).mp (of_decide_eq_true z1)
    refine Runs.go 2 (cs := []) (pc' := 15) (pl' := [some (.ref 1), some (.long (L (pk (arM sp)))), none, some (.int (N 0))]) (st' := []) (h' := (KP X cl (S 0) (pk (CX S)) (S 61) (S 62) sn sg sv cd ln pe pr ba fo us fr sc hs m o)) rfl trivial ?_
    refine Runs.wk (pl' := [some (.ref 1), some (.long (L (pk (arM sp)))), none, some (.int (N 0))]) (st' := []) (h' := (KP X cl (S 0) (pk (CX S)) (S 61) (S 62) sn sg sv cd ln pe pr ba fo us fr sc hs m o)) ⟨Or.inr rfl, Or.inr rfl, Or.inl rfl, Or.inr rfl, trivial⟩ rfl rfl ?_
    refine Runs.loopN (fun t => [some (.ref 1), some (.long (L (pk (arM sp)))), none, some (.int (N t))]) (fun t => (KP X cl (S 0) (pk (CX S)) (S 61) (S 62) sn sg sv cd ln pe pr ba fo us fr sc hs m o)) (fun t => anyN (fun k => !heldB S sp k) t = false) (S 0) rfl (fun t ht I1 K1 => ?_) (fun I1 => ?_)
    · show Runs _ _ 15 [some (.ref 1), some (.long (L (pk (arM sp)))), none, some (.int (N t))] [] (KP X cl (S 0) (pk (CX S)) (S 61) (S 62) sn sg sv cd ln pe pr ba fo us fr sc hs m o) _ _ _
      refine Runs.go 4 (cs := []) (pc' := bif decide ((N (S 0)) ≤ (N t)) then 44 else 23) (pl' := [some (.ref 1), some (.long (L (pk (arM sp)))), none, some (.int (N t))]) (st' := []) (h' := (KP X cl (S 0) (pk (CX S)) (S 61) (S 62) sn sg sv cd ln pe pr ba fo us fr sc hs m o)) rfl trivial ?_
      refine Runs.brF (decide_eq_false (fun zq9 => absurd ((N_le (a := S 0) (b := t) (by omega) (by omega)).mp zq9) (by omega))) ?_
      refine Runs.topI 4 (cs := [vp_in (N t) 12]) (pc' := 29) (pl' := [some (.ref 1), some (.long (L (pk (arM sp)))), none, some (.int (N t))]) (v := aN cl (N t).toNatClampNeg) (v' := N (ecl S t)) (st' := []) (h' := (KP X cl (S 0) (pk (CX S)) (S 61) (S 62) sn sg sv cd ln pe pr ba fo us fr sc hs m o)) rfl ⟨(N_in (by omega) (by decide)), trivial⟩ ((aN_at (by omega)).trans (congrArg N (hcl t (by omega)))) ?_
      refine Runs.go 1 (cs := []) (pc' := 30) (pl' := [some (.ref 1), some (.long (L (pk (arM sp)))), none, some (.int (N t))]) (st' := [.long (L (pk (arM sp))), .int (N (ecl S t))]) (h' := (KP X cl (S 0) (pk (CX S)) (S 61) (S 62) sn sg sv cd ln pe pr ba fo us fr sc hs m o)) rfl trivial ?_
      refine Runs.cal (y := mX0_holds) (as := [.int (N (ecl S t)), .long (L (pk (arM sp)))]) (rest := []) (pc' := 33) (cs := []) (v := some (.int (bI (heldB S sp t)))) (h1 := (KP X cl (S 0) (pk (CX S)) (S 61) (S 62) sn sg sv cd ln pe pr ba fo us fr sc hs m o)) rfl trivial (by decide) (c_holds hV (by omega) hsp) ?_
      show Runs _ _ 33 _ [.int (bI (heldB S sp t))] _ _ _ _
      refine Runs.go 1 (cs := []) (pc' := bif decide (¬ (bI (heldB S sp t)) = 0) then 38 else 36) (pl' := [some (.ref 1), some (.long (L (pk (arM sp)))), none, some (.int (N t))]) (st' := []) (h' := (KP X cl (S 0) (pk (CX S)) (S 61) (S 62) sn sg sv cd ln pe pr ba fo us fr sc hs m o)) rfl trivial ?_
      refine Runs.br (fun z2 => ?_) (fun z2 => ?_)
      · replace z2 : ¬ ((heldB S sp t) = false) := mt (bI_0 _).mpr (of_decide_eq_true z2)
        refine Runs.goL 1 (cs := []) (pc' := 41) (pl1 := [some (.ref 1), some (.long (L (pk (arM sp)))), none, some (.int (N t + N 1))]) (pl' := [some (.ref 1), some (.long (L (pk (arM sp)))), none, some (.int (N (t + 1)))]) (st' := []) (h' := (KP X cl (S 0) (pk (CX S)) (S 61) (S 62) sn sg sv cd ln pe pr ba fo us fr sc hs m o)) rfl trivial (congrArg (fun zq9 => ([some (.ref 1), some (.long (L (pk (arM sp)))), none, some (.int zq9)] : PL)) (NA (by omega))) ?_
        refine Runs.go 1 (cs := []) (pc' := 15) (pl' := [some (.ref 1), some (.long (L (pk (arM sp)))), none, some (.int (N (t + 1)))]) (st' := []) (h' := (KP X cl (S 0) (pk (CX S)) (S 61) (S 62) sn sg sv cd ln pe pr ba fo us fr sc hs m o)) rfl trivial ?_
        exact Runs.wk (pl' := [some (.ref 1), some (.long (L (pk (arM sp)))), none, some (.int (N (t + 1)))]) (st' := []) (h' := (KP X cl (S 0) (pk (CX S)) (S 61) (S 62) sn sg sv cd ln pe pr ba fo us fr sc hs m o)) ⟨Or.inr rfl, Or.inr rfl, Or.inl rfl, Or.inr rfl, trivial⟩ rfl rfl (K1 (by rw [anyN_succ, I1, bT z2]; rfl))
      · replace z2 : (heldB S sp t) = false := (bI_0 _).mp (Classical.not_not.mp (of_decide_eq_false z2))
        refine Runs.go 1 (cs := []) (pc' := 37) (pl' := [some (.ref 1), some (.long (L (pk (arM sp)))), none, some (.int (N t))]) (st' := [.int (N 0)]) (h' := (KP X cl (S 0) (pk (CX S)) (S 61) (S 62) sn sg sv cd ln pe pr ba fo us fr sc hs m o)) rfl trivial ?_
        refine Runs.retE (cs := [(N 0 : Int32) = 0 ∨ (N 0 : Int32) = 1]) rfl ⟨Or.inl rfl, trivial⟩ (retI (bIF ?_)) rfl
        rw [solB, isN, anyN_iff.mpr ⟨t, ht, by rw [z2]; rfl⟩]; simp
    · show Runs _ _ 15 _ [] _ _ _ _
      show Runs _ _ 15 [some (.ref 1), some (.long (L (pk (arM sp)))), none, some (.int (N (S 0)))] [] (KP X cl (S 0) (pk (CX S)) (S 61) (S 62) sn sg sv cd ln pe pr ba fo us fr sc hs m o) _ _ _
      refine Runs.go 4 (cs := []) (pc' := bif decide ((N (S 0)) ≤ (N (S 0))) then 44 else 23) (pl' := [some (.ref 1), some (.long (L (pk (arM sp)))), none, some (.int (N (S 0)))]) (st' := []) (h' := (KP X cl (S 0) (pk (CX S)) (S 61) (S 62) sn sg sv cd ln pe pr ba fo us fr sc hs m o)) rfl trivial ?_
      refine Runs.brT (decide_eq_true ((N_le (a := S 0) (b := S 0) (by omega) (by omega)).mpr (by omega))) ?_
      refine Runs.go 1 (cs := []) (pc' := 45) (pl' := [some (.ref 1), some (.long (L (pk (arM sp)))), none, some (.int (N (S 0)))]) (st' := [.int (N 1)]) (h' := (KP X cl (S 0) (pk (CX S)) (S 61) (S 62) sn sg sv cd ln pe pr ba fo us fr sc hs m o)) rfl trivial ?_
      refine Runs.retE (cs := [(N 1 : Int32) = 0 ∨ (N 1 : Int32) = 1]) rfl ⟨Or.inr rfl, trivial⟩ (retI (bIT ?_)) rfl
      rw [solB, isN, (cl_iff hV hsp).mp z1, I1]; rfl
  · replace z1 : ¬ (((pk (arM sp)) &&& (pk (CX S))) = 0) := mt (L_cmp0 (by omega) (by omega)).mpr (of_decide_eq_false z1)
    refine Runs.go 1 (cs := []) (pc' := 12) (pl' := [some (.ref 1), some (.long (L (pk (arM sp)))), none, none]) (st' := [.int (N 0)]) (h' := (KP X cl (S 0) (pk (CX S)) (S 61) (S 62) sn sg sv cd ln pe pr ba fo us fr sc hs m o)) rfl trivial ?_
    refine Runs.retE (cs := [(N 0 : Int32) = 0 ∨ (N 0 : Int32) = 1]) rfl ⟨Or.inl rfl, trivial⟩ (retI (bIF ?_)) rfl
    exact isN_c (bF (mt (cl_iff hV hsp).mpr z1)) _
def cp12 (f g : Nat → Int32) : Nat → Int32 := va_cpy f g 0 0 12
def upS (sv : Nat → SV) (j : Nat) (v : SV) : Nat → SV := fun i => if i = j then v else sv i
theorem cp12_lt {f g : Nat → Int32} {i : Nat} (h : i < 12) : cp12 f g i = f i := by
  unfold cp12 va_cpy
  simp [h]
theorem c_copy_keep {X : Nat × (Nat → Int32)} {cl : Nat → Int32} {cn : Int32} {cx : Int64} {ma ru : Int32} {sn : SV} {sg : Nat → Option Nat} {sv : Nat → SV} {cd : Nat → Int32} {ln : Int32} {pe : Int64} {pr : Int32} {ba : Nat → Int32} {fo : Int32} {us : Int64} {fr sc hs : Int32} {m : MT} {o : Nat → Int64} : Call 0 mX3_copyFrom [.ref 3, .ref 1] (FP X cl cn cx ma ru sn sg sv cd ln pe pr ba fo us fr sc hs m o) (.inl none) (FP X cl cn cx ma ru (cp12 cl sn.1, cn, cx, ma, ru) sg sv cd ln pe pr ba fo us fr sc hs m o) 0 := by
  refine Runs.go 24 (cs := [_]) (pc' := 47) (pl' := [some (.ref 3), some (.ref 1)]) (st' := []) (h' := (FP X cl cn cx ma ru (cp12 cl sn.1, cn, cx, ma, ru) sg sv cd ln pe pr ba fo us fr sc hs m o)) rfl ⟨⟨by decide, by decide, by decide, rfl⟩, trivial⟩ ?_
  exact Runs.retE (cs := []) rfl trivial rfl rfl
theorem c_copy_back {X : Nat × (Nat → Int32)} {cl : Nat → Int32} {cn : Int32} {cx : Int64} {ma ru : Int32} {sn : SV} {sg : Nat → Option Nat} {sv : Nat → SV} {cd : Nat → Int32} {ln : Int32} {pe : Int64} {pr : Int32} {ba : Nat → Int32} {fo : Int32} {us : Int64} {fr sc hs : Int32} {m : MT} {o : Nat → Int64} : Call 0 mX3_copyFrom [.ref 1, .ref 3] (FP X cl cn cx ma ru sn sg sv cd ln pe pr ba fo us fr sc hs m o) (.inl none) (FP X (cp12 sn.1 cl) sn.2.1 sn.2.2.1 sn.2.2.2.1 sn.2.2.2.2 sn sg sv cd ln pe pr ba fo us fr sc hs m o) 0 := by
  refine Runs.go 24 (cs := [_]) (pc' := 47) (pl' := [some (.ref 1), some (.ref 3)]) (st' := []) (h' := (FP X (cp12 sn.1 cl) sn.2.1 sn.2.2.1 sn.2.2.2.1 sn.2.2.2.2 sn sg sv cd ln pe pr ba fo us fr sc hs m o)) rfl ⟨⟨by decide, by decide, by decide, rfl⟩, trivial⟩ ?_
  exact Runs.retE (cs := []) rfl trivial rfl rfl
theorem c_copy_save0 {X : Nat × (Nat → Int32)} {cl : Nat → Int32} {cn : Int32} {cx : Int64} {ma ru : Int32} {sn : SV} {sg : Nat → Option Nat} {sv : Nat → SV} {cd : Nat → Int32} {ln : Int32} {pe : Int64} {pr : Int32} {ba : Nat → Int32} {fo : Int32} {us : Int64} {fr sc hs : Int32} {m : MT} {o : Nat → Int64} : Call 0 mX3_copyFrom [.ref 11, .ref 1] (FP X cl cn cx ma ru sn sg sv cd ln pe pr ba fo us fr sc hs m o) (.inl none) (FP X cl cn cx ma ru sn sg (upS sv 0 (cp12 cl (sv 0).1, cn, cx, ma, ru)) cd ln pe pr ba fo us fr sc hs m o) 0 := by
  refine Runs.go 24 (cs := [_]) (pc' := 47) (pl' := [some (.ref 11), some (.ref 1)]) (st' := []) (h' := (FP X cl cn cx ma ru sn sg (upS sv 0 (cp12 cl (sv 0).1, cn, cx, ma, ru)) cd ln pe pr ba fo us fr sc hs m o)) rfl ⟨⟨by decide, by decide, by decide, rfl⟩, trivial⟩ ?_
  exact Runs.retE (cs := []) rfl trivial rfl rfl
theorem c_copy_undo0 {X : Nat × (Nat → Int32)} {cl : Nat → Int32} {cn : Int32} {cx : Int64} {ma ru : Int32} {sn : SV} {sg : Nat → Option Nat} {sv : Nat → SV} {cd : Nat → Int32} {ln : Int32} {pe : Int64} {pr : Int32} {ba : Nat → Int32} {fo : Int32} {us : Int64} {fr sc hs : Int32} {m : MT} {o : Nat → Int64} : Call 0 mX3_copyFrom [.ref 1, .ref 11] (FP X cl cn cx ma ru sn sg sv cd ln pe pr ba fo us fr sc hs m o) (.inl none) (FP X (cp12 (sv 0).1 cl) ((sv 0).2.1) ((sv 0).2.2.1) ((sv 0).2.2.2.1) ((sv 0).2.2.2.2) sn sg sv cd ln pe pr ba fo us fr sc hs m o) 0 := by
  refine Runs.go 24 (cs := [_]) (pc' := 47) (pl' := [some (.ref 1), some (.ref 11)]) (st' := []) (h' := (FP X (cp12 (sv 0).1 cl) ((sv 0).2.1) ((sv 0).2.2.1) ((sv 0).2.2.2.1) ((sv 0).2.2.2.2) sn sg sv cd ln pe pr ba fo us fr sc hs m o)) rfl ⟨⟨by decide, by decide, by decide, rfl⟩, trivial⟩ ?_
  exact Runs.retE (cs := []) rfl trivial rfl rfl
theorem c_copy_save1 {X : Nat × (Nat → Int32)} {cl : Nat → Int32} {cn : Int32} {cx : Int64} {ma ru : Int32} {sn : SV} {sg : Nat → Option Nat} {sv : Nat → SV} {cd : Nat → Int32} {ln : Int32} {pe : Int64} {pr : Int32} {ba : Nat → Int32} {fo : Int32} {us : Int64} {fr sc hs : Int32} {m : MT} {o : Nat → Int64} : Call 0 mX3_copyFrom [.ref 13, .ref 1] (FP X cl cn cx ma ru sn sg sv cd ln pe pr ba fo us fr sc hs m o) (.inl none) (FP X cl cn cx ma ru sn sg (upS sv 1 (cp12 cl (sv 1).1, cn, cx, ma, ru)) cd ln pe pr ba fo us fr sc hs m o) 0 := by
  refine Runs.go 24 (cs := [_]) (pc' := 47) (pl' := [some (.ref 13), some (.ref 1)]) (st' := []) (h' := (FP X cl cn cx ma ru sn sg (upS sv 1 (cp12 cl (sv 1).1, cn, cx, ma, ru)) cd ln pe pr ba fo us fr sc hs m o)) rfl ⟨⟨by decide, by decide, by decide, rfl⟩, trivial⟩ ?_
  exact Runs.retE (cs := []) rfl trivial rfl rfl
theorem c_copy_undo1 {X : Nat × (Nat → Int32)} {cl : Nat → Int32} {cn : Int32} {cx : Int64} {ma ru : Int32} {sn : SV} {sg : Nat → Option Nat} {sv : Nat → SV} {cd : Nat → Int32} {ln : Int32} {pe : Int64} {pr : Int32} {ba : Nat → Int32} {fo : Int32} {us : Int64} {fr sc hs : Int32} {m : MT} {o : Nat → Int64} : Call 0 mX3_copyFrom [.ref 1, .ref 13] (FP X cl cn cx ma ru sn sg sv cd ln pe pr ba fo us fr sc hs m o) (.inl none) (FP X (cp12 (sv 1).1 cl) ((sv 1).2.1) ((sv 1).2.2.1) ((sv 1).2.2.2.1) ((sv 1).2.2.2.2) sn sg sv cd ln pe pr ba fo us fr sc hs m o) 0 := by
  refine Runs.go 24 (cs := [_]) (pc' := 47) (pl' := [some (.ref 1), some (.ref 13)]) (st' := []) (h' := (FP X (cp12 (sv 1).1 cl) ((sv 1).2.1) ((sv 1).2.2.1) ((sv 1).2.2.2.1) ((sv 1).2.2.2.2) sn sg sv cd ln pe pr ba fo us fr sc hs m o)) rfl ⟨⟨by decide, by decide, by decide, rfl⟩, trivial⟩ ?_
  exact Runs.retE (cs := []) rfl trivial rfl rfl
theorem c_copy_save2 {X : Nat × (Nat → Int32)} {cl : Nat → Int32} {cn : Int32} {cx : Int64} {ma ru : Int32} {sn : SV} {sg : Nat → Option Nat} {sv : Nat → SV} {cd : Nat → Int32} {ln : Int32} {pe : Int64} {pr : Int32} {ba : Nat → Int32} {fo : Int32} {us : Int64} {fr sc hs : Int32} {m : MT} {o : Nat → Int64} : Call 0 mX3_copyFrom [.ref 15, .ref 1] (FP X cl cn cx ma ru sn sg sv cd ln pe pr ba fo us fr sc hs m o) (.inl none) (FP X cl cn cx ma ru sn sg (upS sv 2 (cp12 cl (sv 2).1, cn, cx, ma, ru)) cd ln pe pr ba fo us fr sc hs m o) 0 := by
  refine Runs.go 24 (cs := [_]) (pc' := 47) (pl' := [some (.ref 15), some (.ref 1)]) (st' := []) (h' := (FP X cl cn cx ma ru sn sg (upS sv 2 (cp12 cl (sv 2).1, cn, cx, ma, ru)) cd ln pe pr ba fo us fr sc hs m o)) rfl ⟨⟨by decide, by decide, by decide, rfl⟩, trivial⟩ ?_
  exact Runs.retE (cs := []) rfl trivial rfl rfl
theorem c_copy_undo2 {X : Nat × (Nat → Int32)} {cl : Nat → Int32} {cn : Int32} {cx : Int64} {ma ru : Int32} {sn : SV} {sg : Nat → Option Nat} {sv : Nat → SV} {cd : Nat → Int32} {ln : Int32} {pe : Int64} {pr : Int32} {ba : Nat → Int32} {fo : Int32} {us : Int64} {fr sc hs : Int32} {m : MT} {o : Nat → Int64} : Call 0 mX3_copyFrom [.ref 1, .ref 15] (FP X cl cn cx ma ru sn sg sv cd ln pe pr ba fo us fr sc hs m o) (.inl none) (FP X (cp12 (sv 2).1 cl) ((sv 2).2.1) ((sv 2).2.2.1) ((sv 2).2.2.2.1) ((sv 2).2.2.2.2) sn sg sv cd ln pe pr ba fo us fr sc hs m o) 0 := by
  refine Runs.go 24 (cs := [_]) (pc' := 47) (pl' := [some (.ref 1), some (.ref 15)]) (st' := []) (h' := (FP X (cp12 (sv 2).1 cl) ((sv 2).2.1) ((sv 2).2.2.1) ((sv 2).2.2.2.1) ((sv 2).2.2.2.2) sn sg sv cd ln pe pr ba fo us fr sc hs m o)) rfl ⟨⟨by decide, by decide, by decide, rfl⟩, trivial⟩ ?_
  exact Runs.retE (cs := []) rfl trivial rfl rfl
theorem c_copy_save3 {X : Nat × (Nat → Int32)} {cl : Nat → Int32} {cn : Int32} {cx : Int64} {ma ru : Int32} {sn : SV} {sg : Nat → Option Nat} {sv : Nat → SV} {cd : Nat → Int32} {ln : Int32} {pe : Int64} {pr : Int32} {ba : Nat → Int32} {fo : Int32} {us : Int64} {fr sc hs : Int32} {m : MT} {o : Nat → Int64} : Call 0 mX3_copyFrom [.ref 17, .ref 1] (FP X cl cn cx ma ru sn sg sv cd ln pe pr ba fo us fr sc hs m o) (.inl none) (FP X cl cn cx ma ru sn sg (upS sv 3 (cp12 cl (sv 3).1, cn, cx, ma, ru)) cd ln pe pr ba fo us fr sc hs m o) 0 := by
  refine Runs.go 24 (cs := [_]) (pc' := 47) (pl' := [some (.ref 17), some (.ref 1)]) (st' := []) (h' := (FP X cl cn cx ma ru sn sg (upS sv 3 (cp12 cl (sv 3).1, cn, cx, ma, ru)) cd ln pe pr ba fo us fr sc hs m o)) rfl ⟨⟨by decide, by decide, by decide, rfl⟩, trivial⟩ ?_
  exact Runs.retE (cs := []) rfl trivial rfl rfl
theorem c_copy_undo3 {X : Nat × (Nat → Int32)} {cl : Nat → Int32} {cn : Int32} {cx : Int64} {ma ru : Int32} {sn : SV} {sg : Nat → Option Nat} {sv : Nat → SV} {cd : Nat → Int32} {ln : Int32} {pe : Int64} {pr : Int32} {ba : Nat → Int32} {fo : Int32} {us : Int64} {fr sc hs : Int32} {m : MT} {o : Nat → Int64} : Call 0 mX3_copyFrom [.ref 1, .ref 17] (FP X cl cn cx ma ru sn sg sv cd ln pe pr ba fo us fr sc hs m o) (.inl none) (FP X (cp12 (sv 3).1 cl) ((sv 3).2.1) ((sv 3).2.2.1) ((sv 3).2.2.2.1) ((sv 3).2.2.2.2) sn sg sv cd ln pe pr ba fo us fr sc hs m o) 0 := by
  refine Runs.go 24 (cs := [_]) (pc' := 47) (pl' := [some (.ref 1), some (.ref 17)]) (st' := []) (h' := (FP X (cp12 (sv 3).1 cl) ((sv 3).2.1) ((sv 3).2.2.1) ((sv 3).2.2.2.1) ((sv 3).2.2.2.2) sn sg sv cd ln pe pr ba fo us fr sc hs m o)) rfl ⟨⟨by decide, by decide, by decide, rfl⟩, trivial⟩ ?_
  exact Runs.retE (cs := []) rfl trivial rfl rfl
theorem c_copy_save4 {X : Nat × (Nat → Int32)} {cl : Nat → Int32} {cn : Int32} {cx : Int64} {ma ru : Int32} {sn : SV} {sg : Nat → Option Nat} {sv : Nat → SV} {cd : Nat → Int32} {ln : Int32} {pe : Int64} {pr : Int32} {ba : Nat → Int32} {fo : Int32} {us : Int64} {fr sc hs : Int32} {m : MT} {o : Nat → Int64} : Call 0 mX3_copyFrom [.ref 19, .ref 1] (FP X cl cn cx ma ru sn sg sv cd ln pe pr ba fo us fr sc hs m o) (.inl none) (FP X cl cn cx ma ru sn sg (upS sv 4 (cp12 cl (sv 4).1, cn, cx, ma, ru)) cd ln pe pr ba fo us fr sc hs m o) 0 := by
  refine Runs.go 24 (cs := [_]) (pc' := 47) (pl' := [some (.ref 19), some (.ref 1)]) (st' := []) (h' := (FP X cl cn cx ma ru sn sg (upS sv 4 (cp12 cl (sv 4).1, cn, cx, ma, ru)) cd ln pe pr ba fo us fr sc hs m o)) rfl ⟨⟨by decide, by decide, by decide, rfl⟩, trivial⟩ ?_
  exact Runs.retE (cs := []) rfl trivial rfl rfl
theorem c_copy_undo4 {X : Nat × (Nat → Int32)} {cl : Nat → Int32} {cn : Int32} {cx : Int64} {ma ru : Int32} {sn : SV} {sg : Nat → Option Nat} {sv : Nat → SV} {cd : Nat → Int32} {ln : Int32} {pe : Int64} {pr : Int32} {ba : Nat → Int32} {fo : Int32} {us : Int64} {fr sc hs : Int32} {m : MT} {o : Nat → Int64} : Call 0 mX3_copyFrom [.ref 1, .ref 19] (FP X cl cn cx ma ru sn sg sv cd ln pe pr ba fo us fr sc hs m o) (.inl none) (FP X (cp12 (sv 4).1 cl) ((sv 4).2.1) ((sv 4).2.2.1) ((sv 4).2.2.2.1) ((sv 4).2.2.2.2) sn sg sv cd ln pe pr ba fo us fr sc hs m o) 0 := by
  refine Runs.go 24 (cs := [_]) (pc' := 47) (pl' := [some (.ref 1), some (.ref 19)]) (st' := []) (h' := (FP X (cp12 (sv 4).1 cl) ((sv 4).2.1) ((sv 4).2.2.1) ((sv 4).2.2.2.1) ((sv 4).2.2.2.2) sn sg sv cd ln pe pr ba fo us fr sc hs m o)) rfl ⟨⟨by decide, by decide, by decide, rfl⟩, trivial⟩ ?_
  exact Runs.retE (cs := []) rfl trivial rfl rfl
theorem c_copy_save5 {X : Nat × (Nat → Int32)} {cl : Nat → Int32} {cn : Int32} {cx : Int64} {ma ru : Int32} {sn : SV} {sg : Nat → Option Nat} {sv : Nat → SV} {cd : Nat → Int32} {ln : Int32} {pe : Int64} {pr : Int32} {ba : Nat → Int32} {fo : Int32} {us : Int64} {fr sc hs : Int32} {m : MT} {o : Nat → Int64} : Call 0 mX3_copyFrom [.ref 21, .ref 1] (FP X cl cn cx ma ru sn sg sv cd ln pe pr ba fo us fr sc hs m o) (.inl none) (FP X cl cn cx ma ru sn sg (upS sv 5 (cp12 cl (sv 5).1, cn, cx, ma, ru)) cd ln pe pr ba fo us fr sc hs m o) 0 := by
  refine Runs.go 24 (cs := [_]) (pc' := 47) (pl' := [some (.ref 21), some (.ref 1)]) (st' := []) (h' := (FP X cl cn cx ma ru sn sg (upS sv 5 (cp12 cl (sv 5).1, cn, cx, ma, ru)) cd ln pe pr ba fo us fr sc hs m o)) rfl ⟨⟨by decide, by decide, by decide, rfl⟩, trivial⟩ ?_
  exact Runs.retE (cs := []) rfl trivial rfl rfl
theorem c_copy_undo5 {X : Nat × (Nat → Int32)} {cl : Nat → Int32} {cn : Int32} {cx : Int64} {ma ru : Int32} {sn : SV} {sg : Nat → Option Nat} {sv : Nat → SV} {cd : Nat → Int32} {ln : Int32} {pe : Int64} {pr : Int32} {ba : Nat → Int32} {fo : Int32} {us : Int64} {fr sc hs : Int32} {m : MT} {o : Nat → Int64} : Call 0 mX3_copyFrom [.ref 1, .ref 21] (FP X cl cn cx ma ru sn sg sv cd ln pe pr ba fo us fr sc hs m o) (.inl none) (FP X (cp12 (sv 5).1 cl) ((sv 5).2.1) ((sv 5).2.2.1) ((sv 5).2.2.2.1) ((sv 5).2.2.2.2) sn sg sv cd ln pe pr ba fo us fr sc hs m o) 0 := by
  refine Runs.go 24 (cs := [_]) (pc' := 47) (pl' := [some (.ref 1), some (.ref 21)]) (st' := []) (h' := (FP X (cp12 (sv 5).1 cl) ((sv 5).2.1) ((sv 5).2.2.1) ((sv 5).2.2.2.1) ((sv 5).2.2.2.2) sn sg sv cd ln pe pr ba fo us fr sc hs m o)) rfl ⟨⟨by decide, by decide, by decide, rfl⟩, trivial⟩ ?_
  exact Runs.retE (cs := []) rfl trivial rfl rfl
theorem c_addClueS {X : Nat × (Nat → Int32)} {cl : Nat → Nat} {cn cx ma ru : Nat} {sn : SV} {sg : Nat → Option Nat} {sv : Nat → SV} {cd : Nat → Nat} {ln pe pr : Nat} {ba : Nat → Nat} {fo us : Nat} {fr : Bool} {sc : Nat} {hs : Bool} {m : MT} {o : Nat → Int64} {a : Nat} (h12 : cn < 12) : Call 0 mX3_addClue [.ref 1, .int (N a)] (KP X cl cn cx ma ru sn sg sv cd ln pe pr ba fo us fr sc hs m o) (.inl none) (KP X (upn cl cn a) (cn + 1) cx ma ru sn sg sv cd ln pe pr ba fo us fr sc hs m o) 0 := by
  refine Runs.goH 6 (cs := [vp_in (N cn) 12]) (pc' := 10) (pl' := [some (.ref 1), some (.int (N a))]) (st' := []) (h1 := (FP X (upd (aN cl) (N cn).toNatClampNeg (N a)) (N cn) (L cx) (N ma) (N ru) sn sg sv (aN cd) (N ln) (L pe) (N pr) (aN ba) (N fo) (L us) (bI fr) (N sc) (bI hs) m o)) (h' := (KP X (upn cl cn a) cn cx ma ru sn sg sv cd ln pe pr ba fo us fr sc hs m o)) rfl ⟨(N_in (by omega) (by decide)), trivial⟩ (congrArg (fun zq9 => (FP X zq9 (N cn) (L cx) (N ma) (N ru) sn sg sv (aN cd) (N ln) (L pe) (N pr) (aN ba) (N fo) (L us) (bI fr) (N sc) (bI hs) m o)) ((aN_up (by omega)))) ?_
  refine Runs.topI 5 (cs := []) (pc' := 17) (pl' := [some (.ref 1), some (.int (N a))]) (v := (N cn) + (N 1)) (v' := N (cn + 1)) (st' := [.ref 1]) (h' := (KP X (upn cl cn a) cn cx ma ru sn sg sv cd ln pe pr ba fo us fr sc hs m o)) rfl trivial (NA (by omega)) ?_
  refine Runs.go 1 (cs := []) (pc' := 20) (pl' := [some (.ref 1), some (.int (N a))]) (st' := []) (h' := (KP X (upn cl cn a) (cn + 1) cx ma ru sn sg sv cd ln pe pr ba fo us fr sc hs m o)) rfl trivial ?_
  exact Runs.retE (cs := []) rfl trivial rfl rfl
/-- a clue of the class is taken out: t moved -/
def dcS (cl : Nat → Nat) (k t : Nat) : Nat → Nat := fun j => if k ≤ j ∧ j < k + t then cl (j + 1) else cl j
theorem dcS_0 {cl : Nat → Nat} {k : Nat} : dcS cl k 0 = cl := by
  funext j
  exact if_neg (by omega)
theorem dcS_s {cl : Nat → Nat} {k t i v : Nat} (hi : i = k + t) (hv : v = cl (i + 1)) : upn (dcS cl k t) i v = dcS cl k (t + 1) := by
  subst hi
  subst hv
  funext j
  unfold upn dcS
  by_cases h : j = k + t
  · subst h
    rw [if_pos rfl, if_pos (by omega)]
  · rw [if_neg h]
    by_cases h2 : k ≤ j ∧ j < k + t
    · rw [if_pos h2, if_pos (by omega)]
    · rw [if_neg h2, if_neg (by omega)]
theorem dcS_at {cl : Nat → Nat} {k t j : Nat} (h : k + t ≤ j) : dcS cl k t j = cl j := if_neg (by omega)
theorem c_dropClue {X : Nat × (Nat → Int32)} {cl : Nat → Nat} {cn cx ma ru : Nat} {sn : SV} {sg : Nat → Option Nat} {sv : Nat → SV} {cd : Nat → Nat} {ln pe pr : Nat} {ba : Nat → Nat} {fo us : Nat} {fr : Bool} {sc : Nat} {hs : Bool} {m : MT} {o : Nat → Int64} {k : Nat} (hk : k < cn) (h12 : cn ≤ 12) : Call 0 mX3_dropClue [.ref 1, .int (N k)] (KP X cl cn cx ma ru sn sg sv cd ln pe pr ba fo us fr sc hs m o) (.inl none) (KP X (dcS cl k (cn - 1 - k)) (cn - 1) cx ma ru sn sg sv cd ln pe pr ba fo us fr sc hs m o) 0 := by
  refine Runs.topI 3 (cs := []) (pc' := 3) (pl' := [some (.ref 1), some (.int (N k)), none]) (v := (N k) + (N 1)) (v' := N (k + 1)) (st' := []) (h' := (KP X cl cn cx ma ru sn sg sv cd ln pe pr ba fo us fr sc hs m o)) rfl trivial (NA (by omega)) ?_
  refine Runs.go 1 (cs := []) (pc' := 4) (pl' := [some (.ref 1), some (.int (N k)), some (.int (N (k + 1)))]) (st' := []) (h' := (KP X cl cn cx ma ru sn sg sv cd ln pe pr ba fo us fr sc hs m o)) rfl trivial ?_
  refine Runs.wk (pl' := [some (.ref 1), some (.int (N k)), some (.int (N (k + 1)))]) (st' := []) (h' := (KP X (dcS cl k 0) cn cx ma ru sn sg sv cd ln pe pr ba fo us fr sc hs m o)) ⟨Or.inr rfl, Or.inr rfl, Or.inr rfl, trivial⟩ rfl (by rw [dcS_0]) ?_
  refine Runs.loopN (fun t => [some (.ref 1), some (.int (N k)), some (.int (N (k + t + 1)))]) (fun t => (KP X (dcS cl k t) cn cx ma ru sn sg sv cd ln pe pr ba fo us fr sc hs m o)) (fun t => True) (cn - 1 - k) trivial (fun t ht I1 K1 => ?_) (fun I1 => ?_)
  · show Runs _ _ 4 [some (.ref 1), some (.int (N k)), some (.int (N (k + t + 1)))] [] (KP X (dcS cl k t) cn cx ma ru sn sg sv cd ln pe pr ba fo us fr sc hs m o) _ _ _
    refine Runs.go 4 (cs := []) (pc' := bif decide ((N cn) ≤ (N (k + t + 1))) then 32 else 12) (pl' := [some (.ref 1), some (.int (N k)), some (.int (N (k + t + 1)))]) (st' := []) (h' := (KP X (dcS cl k t) cn cx ma ru sn sg sv cd ln pe pr ba fo us fr sc hs m o)) rfl trivial ?_
    refine Runs.brF (decide_eq_false (fun zq9 => absurd ((N_le (a := cn) (b := k + t + 1) (by omega) (by omega)).mp zq9) (by omega))) ?_
    refine Runs.topI 5 (cs := []) (pc' := 19) (pl' := [some (.ref 1), some (.int (N k)), some (.int (N (k + t + 1)))]) (v := (N (k + t + 1)) - (N 1)) (v' := N (k + t)) (st' := [.ref 2]) (h' := (KP X (dcS cl k t) cn cx ma ru sn sg sv cd ln pe pr ba fo us fr sc hs m o)) rfl trivial (NS (by omega)) ?_
    refine Runs.topI 4 (cs := [vp_in (N (k + t + 1)) 12]) (pc' := 25) (pl' := [some (.ref 1), some (.int (N k)), some (.int (N (k + t + 1)))]) (v := aN (dcS cl k t) (N (k + t + 1)).toNatClampNeg) (v' := N (cl (k + t + 1))) (st' := [.int (N (k + t)), .ref 2]) (h' := (KP X (dcS cl k t) cn cx ma ru sn sg sv cd ln pe pr ba fo us fr sc hs m o)) rfl ⟨(N_in (by omega) (by decide)), trivial⟩ ((aN_at (by omega)).trans (congrArg N (dcS_at (by omega)))) ?_
    refine Runs.goH 1 (cs := [vp_in (N (k + t)) 12]) (pc' := 26) (pl' := [some (.ref 1), some (.int (N k)), some (.int (N (k + t + 1)))]) (st' := []) (h1 := (FP X (upd (aN (dcS cl k t)) (N (k + t)).toNatClampNeg (N (cl (k + t + 1)))) (N cn) (L cx) (N ma) (N ru) sn sg sv (aN cd) (N ln) (L pe) (N pr) (aN ba) (N fo) (L us) (bI fr) (N sc) (bI hs) m o)) (h' := (KP X (dcS cl k (t + 1)) cn cx ma ru sn sg sv cd ln pe pr ba fo us fr sc hs m o)) rfl ⟨(N_in (by omega) (by decide)), trivial⟩ (congrArg (fun zq9 => (FP X zq9 (N cn) (L cx) (N ma) (N ru) sn sg sv (aN cd) (N ln) (L pe) (N pr) (aN ba) (N fo) (L us) (bI fr) (N sc) (bI hs) m o)) ((aN_up (by omega)).trans (congrArg aN (dcS_s (by omega) (congrArg cl (by omega)))))) ?_
    refine Runs.goL 1 (cs := []) (pc' := 29) (pl1 := [some (.ref 1), some (.int (N k)), some (.int (N (k + t + 1) + N 1))]) (pl' := [some (.ref 1), some (.int (N k)), some (.int (N (k + t + 2)))]) (st' := []) (h' := (KP X (dcS cl k (t + 1)) cn cx ma ru sn sg sv cd ln pe pr ba fo us fr sc hs m o)) rfl trivial (congrArg (fun zq9 => ([some (.ref 1), some (.int (N k)), some (.int zq9)] : PL)) (NA (by omega))) ?_
    refine Runs.go 1 (cs := []) (pc' := 4) (pl' := [some (.ref 1), some (.int (N k)), some (.int (N (k + t + 2)))]) (st' := []) (h' := (KP X (dcS cl k (t + 1)) cn cx ma ru sn sg sv cd ln pe pr ba fo us fr sc hs m o)) rfl trivial ?_
    exact Runs.wk (pl' := [some (.ref 1), some (.int (N k)), some (.int (N (k + t + 2)))]) (st' := []) (h' := (KP X (dcS cl k (t + 1)) cn cx ma ru sn sg sv cd ln pe pr ba fo us fr sc hs m o)) ⟨Or.inr rfl, Or.inr rfl, Or.inr rfl, trivial⟩ rfl rfl (K1 trivial)
  · show Runs _ _ 4 _ [] _ _ _ _
    refine Runs.wk (pl' := [some (.ref 1), some (.int (N k)), some (.int (N ((cn - 1 - k) + k + 1)))]) (st' := []) (h' := (KP X (dcS cl k (cn - 1 - k)) cn cx ma ru sn sg sv cd ln pe pr ba fo us fr sc hs m o)) ⟨Or.inr rfl, Or.inr rfl, Or.inr (congrArg (fun zq9 => some (Value.int zq9)) (congrArg N (by omega))), trivial⟩ rfl rfl ?_
    refine Runs.go 4 (cs := []) (pc' := bif decide ((N cn) ≤ (N ((cn - 1 - k) + k + 1))) then 32 else 12) (pl' := [some (.ref 1), some (.int (N k)), some (.int (N ((cn - 1 - k) + k + 1)))]) (st' := []) (h' := (KP X (dcS cl k (cn - 1 - k)) cn cx ma ru sn sg sv cd ln pe pr ba fo us fr sc hs m o)) rfl trivial ?_
    refine Runs.brT (decide_eq_true ((N_le (a := cn) (b := (cn - 1 - k) + k + 1) (by omega) (by omega)).mpr (by omega))) ?_
    refine Runs.topI 5 (cs := []) (pc' := 39) (pl' := [some (.ref 1), some (.int (N k)), some (.int (N ((cn - 1 - k) + k + 1)))]) (v := (N cn) - (N 1)) (v' := N (cn - 1)) (st' := [.ref 1]) (h' := (KP X (dcS cl k (cn - 1 - k)) cn cx ma ru sn sg sv cd ln pe pr ba fo us fr sc hs m o)) rfl trivial (NS (by omega)) ?_
    refine Runs.go 1 (cs := []) (pc' := 42) (pl' := [some (.ref 1), some (.int (N k)), some (.int (N ((cn - 1 - k) + k + 1)))]) (st' := []) (h' := (KP X (dcS cl k (cn - 1 - k)) (cn - 1) cx ma ru sn sg sv cd ln pe pr ba fo us fr sc hs m o)) rfl trivial ?_
    exact Runs.retE (cs := []) rfl trivial rfl rfl
theorem cx_and {S T : Nat → Nat} (hV : VC S) (hT : M16 T) : pk T &&& pk (CX S) = pk (fun i => T i &&& CX S i) := zk_and hT (CX_16 hV)
theorem c_makeCrosses {X : Nat × (Nat → Int32)} {S : Nat → Nat} {cl : Nat → Nat} {sn : SV} {sg : Nat → Option Nat} {sv : Nat → SV} {cd : Nat → Nat} {ln pe pr : Nat} {ba : Nat → Nat} {fo us : Nat} {fr : Bool} {sc : Nat} {hs : Bool} {m : MT} {o : Nat → Int64} {T : Nat → Nat} (hV : VC S) (hT : M16 T) : Call 1 mX3_makeCrosses [.ref 1, .long (L (pk T))] (KP X cl (S 0) (pk (CX S)) (S 61) (S 62) sn sg sv cd ln pe pr ba fo us fr sc hs m o) (.inl (some (.int (N (cntF (fun i => dif (T i) (CX S i))))))) (KP X cl (S 0) (pk (fun i => CX S i ||| T i)) (S 61 + cntF (fun i => dif (T i) (CX S i))) (S 62) sn sg sv cd ln pe pr ba fo us fr sc hs m o) 0 := by
  refine Runs.topJ 6 (cs := []) (pc' := 10) (pl' := [some (.ref 1), some (.long (L (pk T))), none, none]) (v := (L (pk T)) &&& ((L (pk (CX S))) ^^^ (-1 : Int64))) (v' := L (pk (fun i => dif (T i) (CX S i)))) (st' := []) (h' := (KP X cl (S 0) (pk (CX S)) (S 61) (S 62) sn sg sv cd ln pe pr ba fo us fr sc hs m o)) rfl trivial ((L_dif _ _).trans (congrArg L (zk_dif hT (CX_16 hV)))) ?_
  refine Runs.cal (y := mJ13_bitCount_95d88) (as := [.long (L (pk (fun i => dif (T i) (CX S i))))]) (rest := []) (pc' := 13) (cs := []) (v := some (.int (N (cntF (fun i => dif (T i) (CX S i)))))) (h1 := (KP X cl (S 0) (pk (CX S)) (S 61) (S 62) sn sg sv cd ln pe pr ba fo us fr sc hs m o)) rfl trivial (by decide) (c_lbc (fun j hj => dif_16 (hT j hj))) ?_
  show Runs _ _ 13 _ [.int (N (cntF (fun i => dif (T i) (CX S i))))] _ _ _ _
  refine Runs.topJ 6 (cs := []) (pc' := 21) (pl' := [some (.ref 1), some (.long (L (pk T))), none, some (.int (N (cntF (fun i => dif (T i) (CX S i)))))]) (v := (L (pk (CX S))) ||| (L (pk T))) (v' := L (pk (fun i => CX S i ||| T i))) (st' := [.ref 1]) (h' := (KP X cl (S 0) (pk (CX S)) (S 61) (S 62) sn sg sv cd ln pe pr ba fo us fr sc hs m o)) rfl trivial ((L_or _ _).trans (congrArg L (zk_or (CX_16 hV) hT))) ?_
  refine Runs.topI 6 (cs := []) (pc' := 31) (pl' := [some (.ref 1), some (.long (L (pk T))), none, some (.int (N (cntF (fun i => dif (T i) (CX S i)))))]) (v := (N (S 61)) + (N (cntF (fun i => dif (T i) (CX S i))))) (v' := N (S 61 + cntF (fun i => dif (T i) (CX S i)))) (st' := [.ref 1]) (h' := (KP X cl (S 0) (pk (fun i => CX S i ||| T i)) (S 61) (S 62) sn sg sv cd ln pe pr ba fo us fr sc hs m o)) rfl trivial (NA (by omega)) ?_
  refine Runs.go 2 (cs := []) (pc' := 35) (pl' := [some (.ref 1), some (.long (L (pk T))), none, some (.int (N (cntF (fun i => dif (T i) (CX S i)))))]) (st' := [.int (N (cntF (fun i => dif (T i) (CX S i))))]) (h' := (KP X cl (S 0) (pk (fun i => CX S i ||| T i)) (S 61 + cntF (fun i => dif (T i) (CX S i))) (S 62) sn sg sv cd ln pe pr ba fo us fr sc hs m o)) rfl trivial ?_
  exact Runs.retE (cs := []) rfl trivial (retI rfl) rfl
theorem c_rubCrosses {X : Nat × (Nat → Int32)} {S : Nat → Nat} {cl : Nat → Nat} {sn : SV} {sg : Nat → Option Nat} {sv : Nat → SV} {cd : Nat → Nat} {ln pe pr : Nat} {ba : Nat → Nat} {fo us : Nat} {fr : Bool} {sc : Nat} {hs : Bool} {m : MT} {o : Nat → Int64} {T : Nat → Nat} (hV : VC S) (hT : M16 T) : Call 1 mX3_rubCrosses [.ref 1, .long (L (pk T))] (KP X cl (S 0) (pk (CX S)) (S 61) (S 62) sn sg sv cd ln pe pr ba fo us fr sc hs m o) (.inl (some (.int (N (cntF (fun i => T i &&& CX S i)))))) (KP X cl (S 0) (pk (fun i => dif (CX S i) (T i))) (S 61) (S 62 + cntF (fun i => T i &&& CX S i)) sn sg sv cd ln pe pr ba fo us fr sc hs m o) 0 := by
  refine Runs.topJ 4 (cs := []) (pc' := 6) (pl' := [some (.ref 1), some (.long (L (pk T))), none, none]) (v := (L (pk T)) &&& (L (pk (CX S)))) (v' := L (pk (fun i => T i &&& CX S i))) (st' := []) (h' := (KP X cl (S 0) (pk (CX S)) (S 61) (S 62) sn sg sv cd ln pe pr ba fo us fr sc hs m o)) rfl trivial ((L_and _ _).trans (congrArg L (zk_and hT (CX_16 hV)))) ?_
  refine Runs.cal (y := mJ13_bitCount_95d88) (as := [.long (L (pk (fun i => T i &&& CX S i)))]) (rest := []) (pc' := 9) (cs := []) (v := some (.int (N (cntF (fun i => T i &&& CX S i))))) (h1 := (KP X cl (S 0) (pk (CX S)) (S 61) (S 62) sn sg sv cd ln pe pr ba fo us fr sc hs m o)) rfl trivial (by decide) (c_lbc (fun j hj => and_16 (hT j hj))) ?_
  show Runs _ _ 9 _ [.int (N (cntF (fun i => T i &&& CX S i)))] _ _ _ _
  refine Runs.topJ 8 (cs := []) (pc' := 21) (pl' := [some (.ref 1), some (.long (L (pk T))), none, some (.int (N (cntF (fun i => T i &&& CX S i))))]) (v := (L (pk (CX S))) &&& ((L (pk T)) ^^^ (-1 : Int64))) (v' := L (pk (fun i => dif (CX S i) (T i)))) (st' := [.ref 1]) (h' := (KP X cl (S 0) (pk (CX S)) (S 61) (S 62) sn sg sv cd ln pe pr ba fo us fr sc hs m o)) rfl trivial ((L_dif _ _).trans (congrArg L (zk_dif (CX_16 hV) hT))) ?_
  refine Runs.topI 6 (cs := []) (pc' := 31) (pl' := [some (.ref 1), some (.long (L (pk T))), none, some (.int (N (cntF (fun i => T i &&& CX S i))))]) (v := (N (S 62)) + (N (cntF (fun i => T i &&& CX S i)))) (v' := N (S 62 + cntF (fun i => T i &&& CX S i))) (st' := [.ref 1]) (h' := (KP X cl (S 0) (pk (fun i => dif (CX S i) (T i))) (S 61) (S 62) sn sg sv cd ln pe pr ba fo us fr sc hs m o)) rfl trivial (NA (by omega)) ?_
  refine Runs.go 2 (cs := []) (pc' := 35) (pl' := [some (.ref 1), some (.long (L (pk T))), none, some (.int (N (cntF (fun i => T i &&& CX S i))))]) (st' := [.int (N (cntF (fun i => T i &&& CX S i)))]) (h' := (KP X cl (S 0) (pk (fun i => dif (CX S i) (T i))) (S 61) (S 62 + cntF (fun i => T i &&& CX S i)) sn sg sv cd ln pe pr ba fo us fr sc hs m o)) rfl trivial ?_
  exact Runs.retE (cs := []) rfl trivial (retI rfl) rfl
theorem c_crossesOf {X : Nat × (Nat → Int32)} {S : Nat → Nat} {cl : Nat → Nat} {sn : SV} {sg : Nat → Option Nat} {sv : Nat → SV} {cd : Nat → Nat} {ln pe pr : Nat} {ba : Nat → Nat} {fo us : Nat} {fr : Bool} {sc : Nat} {hs : Bool} {m : MT} {o : Nat → Int64} {i : Nat} (hV : VC S) (hi : i < 12) : Call 1 mX3_crossesOf [.ref 1, .int (N i)] (KP X cl (S 0) (pk (CX S)) (S 61) (S 62) sn sg sv cd ln pe pr ba fo us fr sc hs m o) (.inl (some (.int (N (pc4 (CX S i)))))) (KP X cl (S 0) (pk (CX S)) (S 61) (S 62) sn sg sv cd ln pe pr ba fo us fr sc hs m o) 0 := by
  refine Runs.go 3 (cs := []) (pc' := 5) (pl' := [some (.ref 1), some (.int (N i))]) (st' := [.int (N i), .long (L (pk (CX S)))]) (h' := (KP X cl (S 0) (pk (CX S)) (S 61) (S 62) sn sg sv cd ln pe pr ba fo us fr sc hs m o)) rfl trivial ?_
  refine Runs.cal (y := mX1_placesOf) (as := [.long (L (pk (CX S))), .int (N i)]) (rest := []) (pc' := 8) (cs := []) (v := some (.int (N (CX S i)))) (h1 := (KP X cl (S 0) (pk (CX S)) (S 61) (S 62) sn sg sv cd ln pe pr ba fo us fr sc hs m o)) rfl trivial (by decide) (c_placesOf (CX_16 hV) (CX_z S) (by omega)) ?_
  show Runs _ _ 8 _ [.int (N (CX S i))] _ _ _ _
  refine Runs.cal (y := mJ6_bitCount_0f7a4) (as := [.int (N (CX S i))]) (rest := []) (pc' := 11) (cs := []) (v := some (.int (N (pc4 (CX S i))))) (h1 := (KP X cl (S 0) (pk (CX S)) (S 61) (S 62) sn sg sv cd ln pe pr ba fo us fr sc hs m o)) rfl trivial (by decide) (c_ibc (CX_16 hV i hi)) ?_
  show Runs _ _ 11 _ [.int (N (pc4 (CX S i)))] _ _ _ _
  exact Runs.retE (cs := []) rfl trivial (retI rfl) rfl
/-- the clue that is broken, if it is one alone so far -/
def brk (S sp : Nat → Nat) (t : Nat) : Int32 := if flN S sp t = 0 then -1 else N (laN S sp t)
theorem flN_s (S sp : Nat → Nat) (t : Nat) : flN S sp (t + 1) = if heldB S sp t then flN S sp t else flN S sp t + 1 := rfl
theorem laN_s (S sp : Nat → Nat) (t : Nat) : laN S sp (t + 1) = if heldB S sp t then laN S sp t else t := rfl
theorem flN_mono {S sp : Nat → Nat} {t n : Nat} (h : t ≤ n) : flN S sp t ≤ flN S sp n := by
  induction h with
  | refl => exact Nat.le_refl _
  | step _ ih =>
    rw [flN_s]
    split <;> omega
theorem brk_held {S sp : Nat → Nat} {t : Nat} (h : heldB S sp t = true) : brk S sp (t + 1) = brk S sp t := by
  unfold brk
  rw [flN_s, laN_s, if_pos h, if_pos h]
theorem brk_new {S sp : Nat → Nat} {t : Nat} (h : heldB S sp t = false) (h0 : flN S sp t = 0) : brk S sp (t + 1) = N t ∧ flN S sp (t + 1) = 1 := by
  have hn : ¬ heldB S sp t = true := by rw [h]; decide
  unfold brk
  rw [flN_s, laN_s, if_neg hn, if_neg hn, if_neg (by omega), h0]
  exact ⟨rfl, rfl⟩
theorem laN_le {S sp : Nat → Nat} (t : Nat) (h : t ≤ 12) : laN S sp t < 100 := Nat.lt_trans (laN_lt S sp t h) (by decide)
theorem brk_m1 {S sp : Nat → Nat} {t : Nat} (h : t ≤ 12) : brk S sp t = -1 ↔ flN S sp t = 0 := by
  unfold brk
  by_cases e : flN S sp t = 0
  · rw [if_pos e]
    exact ⟨fun _ => e, fun _ => rfl⟩
  · rw [if_neg e]
    exact ⟨fun z => absurd z (N_nm1 (laN_le t h)), fun z => absurd z e⟩
/-- what one arrangement adds -/
def ctO (S sp : Nat → Nat) (fo : Nat) : Nat := if flN S sp (S 0) = 0 then fo + 1 else fo
def ctA (S sp ba : Nat → Nat) : Nat → Nat := if flN S sp (S 0) = 1 then upn ba (laN S sp (S 0)) (ba (laN S sp (S 0)) + 1) else ba
def ctU (S sp U : Nat → Nat) : Nat → Nat := if flN S sp (S 0) = 0 then fun i => U i ||| arM sp i else U
theorem ctU_16 {S sp U : Nat → Nat} (hsp : ∀ j, j < 12 → sp j < 4) (hU : M16 U) : M16 (ctU S sp U) := by
  unfold ctU
  split
  · exact fun j hj => or_16 (hU j hj) (arM_16 hsp j hj)
  · exact hU
theorem ctU_z {S sp U : Nat → Nat} (hU : Z12 U) : Z12 (ctU S sp U) := by
  unfold ctU
  split
  · exact fun j hj => by
      show U j ||| arM sp j = 0
      rw [hU j hj, arM_z sp j hj]
      rfl
  · exact hU
theorem c_count {X : Nat × (Nat → Int32)} {S : Nat → Nat} {cl : Nat → Nat} {sn : SV} {sg : Nat → Option Nat} {sv : Nat → SV} {cd : Nat → Nat} {ln pe pr : Nat} {ba : Nat → Nat} {fo us : Nat} {fr : Bool} {sc : Nat} {hs : Bool} {m : MT} {o : Nat → Int64} {U : Nat → Nat} (hV : VC S) (hcl : ∀ k, k < S 0 → cl k = ecl S k) {sp : Nat → Nat} (hsp : ∀ j, j < 12 → sp j < 4) (hU : M16 U) : Call 2 mX4_count [.ref 9, .ref 1, .long (L (pk (arM sp)))] (KP X cl (S 0) (pk (CX S)) (S 61) (S 62) sn sg sv cd ln pe pr ba fo (pk U) fr sc hs m o) (.inl none) (KP X cl (S 0) (pk (CX S)) (S 61) (S 62) sn sg sv cd ln pe pr (ctA S sp ba) (ctO S sp fo) (pk (ctU S sp U)) fr sc hs m o) 0 := by
  have h12 := hV.2.1
  refine Runs.go 4 (cs := []) (pc' := 6) (pl' := [some (.ref 9), some (.ref 1), some (.long (L (pk (arM sp)))), none, some (.int (-1 : Int32)), some (.int (N 0))]) (st' := []) (h' := (KP X cl (S 0) (pk (CX S)) (S 61) (S 62) sn sg sv cd ln pe pr ba fo (pk U) fr sc hs m o)) rfl trivial ?_
  refine Runs.wk (pl' := [some (.ref 9), some (.ref 1), some (.long (L (pk (arM sp)))), none, some (.int (brk S sp 0)), some (.int (N 0))]) (st' := []) (h' := (KP X cl (S 0) (pk (CX S)) (S 61) (S 62) sn sg sv cd ln pe pr ba fo (pk U) fr sc hs m o)) ⟨Or.inr rfl, Or.inr rfl, Or.inr rfl, Or.inl rfl, Or.inr (congrArg (fun zq9 => some (Value.int zq9)) rfl), Or.inr rfl, trivial⟩ rfl rfl ?_
  refine Runs.loopN (fun t => [some (.ref 9), some (.ref 1), some (.long (L (pk (arM sp)))), none, some (.int (brk S sp t)), some (.int (N t))]) (fun t => (KP X cl (S 0) (pk (CX S)) (S 61) (S 62) sn sg sv cd ln pe pr ba fo (pk U) fr sc hs m o)) (fun t => flN S sp t < 2) (S 0) (show 0 < 2 by decide) (fun t ht I1 K1 => ?_) (fun I1 => ?_)
  · show Runs _ _ 6 [some (.ref 9), some (.ref 1), some (.long (L (pk (arM sp)))), none, some (.int (brk S sp t)), some (.int (N t))] [] (KP X cl (S 0) (pk (CX S)) (S 61) (S 62) sn sg sv cd ln pe pr ba fo (pk U) fr sc hs m o) _ _ _
    refine Runs.go 4 (cs := []) (pc' := bif decide ((N (S 0)) ≤ (N t)) then 46 else 15) (pl' := [some (.ref 9), some (.ref 1), some (.long (L (pk (arM sp)))), none, some (.int (brk S sp t)), some (.int (N t))]) (st' := []) (h' := (KP X cl (S 0) (pk (CX S)) (S 61) (S 62) sn sg sv cd ln pe pr ba fo (pk U) fr sc hs m o)) rfl trivial ?_
    refine Runs.brF (decide_eq_false (fun zq9 => absurd ((N_le (a := S 0) (b := t) (by omega) (by omega)).mp zq9) (by omega))) ?_
    refine Runs.topI 4 (cs := [vp_in (N t) 12]) (pc' := 22) (pl' := [some (.ref 9), some (.ref 1), some (.long (L (pk (arM sp)))), none, some (.int (brk S sp t)), some (.int (N t))]) (v := aN cl (N t).toNatClampNeg) (v' := N (ecl S t)) (st' := []) (h' := (KP X cl (S 0) (pk (CX S)) (S 61) (S 62) sn sg sv cd ln pe pr ba fo (pk U) fr sc hs m o)) rfl ⟨(N_in (by omega) (by decide)), trivial⟩ ((aN_at (by omega)).trans (congrArg N (hcl t (by omega)))) ?_
    refine Runs.go 1 (cs := []) (pc' := 23) (pl' := [some (.ref 9), some (.ref 1), some (.long (L (pk (arM sp)))), none, some (.int (brk S sp t)), some (.int (N t))]) (st' := [.long (L (pk (arM sp))), .int (N (ecl S t))]) (h' := (KP X cl (S 0) (pk (CX S)) (S 61) (S 62) sn sg sv cd ln pe pr ba fo (pk U) fr sc hs m o)) rfl trivial ?_
    refine Runs.cal (y := mX0_holds) (as := [.int (N (ecl S t)), .long (L (pk (arM sp)))]) (rest := []) (pc' := 26) (cs := []) (v := some (.int (bI (heldB S sp t)))) (h1 := (KP X cl (S 0) (pk (CX S)) (S 61) (S 62) sn sg sv cd ln pe pr ba fo (pk U) fr sc hs m o)) rfl trivial (by decide) (c_holds hV (by omega) hsp) ?_
    show Runs _ _ 26 _ [.int (bI (heldB S sp t))] _ _ _ _
    refine Runs.go 1 (cs := []) (pc' := bif decide (¬ (bI (heldB S sp t)) = 0) then 40 else 29) (pl' := [some (.ref 9), some (.ref 1), some (.long (L (pk (arM sp)))), none, some (.int (brk S sp t)), some (.int (N t))]) (st' := []) (h' := (KP X cl (S 0) (pk (CX S)) (S 61) (S 62) sn sg sv cd ln pe pr ba fo (pk U) fr sc hs m o)) rfl trivial ?_
    refine Runs.br (fun z1 => ?_) (fun z1 => ?_)
    · replace z1 : ¬ ((heldB S sp t) = false) := mt (bI_0 _).mpr (of_decide_eq_true z1)
      refine Runs.goL 1 (cs := []) (pc' := 43) (pl1 := [some (.ref 9), some (.ref 1), some (.long (L (pk (arM sp)))), none, some (.int (brk S sp t)), some (.int (N t + N 1))]) (pl' := [some (.ref 9), some (.ref 1), some (.long (L (pk (arM sp)))), none, some (.int (brk S sp t)), some (.int (N (t + 1)))]) (st' := []) (h' := (KP X cl (S 0) (pk (CX S)) (S 61) (S 62) sn sg sv cd ln pe pr ba fo (pk U) fr sc hs m o)) rfl trivial (congrArg (fun zq9 => ([some (.ref 9), some (.ref 1), some (.long (L (pk (arM sp)))), none, some (.int (brk S sp t)), some (.int zq9)] : PL)) (NA (by omega))) ?_
      refine Runs.go 1 (cs := []) (pc' := 6) (pl' := [some (.ref 9), some (.ref 1), some (.long (L (pk (arM sp)))), none, some (.int (brk S sp t)), some (.int (N (t + 1)))]) (st' := []) (h' := (KP X cl (S 0) (pk (CX S)) (S 61) (S 62) sn sg sv cd ln pe pr ba fo (pk U) fr sc hs m o)) rfl trivial ?_
      exact Runs.wk (pl' := [some (.ref 9), some (.ref 1), some (.long (L (pk (arM sp)))), none, some (.int (brk S sp (t + 1))), some (.int (N (t + 1)))]) (st' := []) (h' := (KP X cl (S 0) (pk (CX S)) (S 61) (S 62) sn sg sv cd ln pe pr ba fo (pk U) fr sc hs m o)) ⟨Or.inr rfl, Or.inr rfl, Or.inr rfl, Or.inl rfl, Or.inr (congrArg (fun zq9 => some (Value.int zq9)) (brk_held (bT z1))), Or.inr rfl, trivial⟩ rfl rfl (K1 (by rw [flN_s, if_pos (bT z1)]; exact I1))
    · replace z1 : (heldB S sp t) = false := (bI_0 _).mp (Classical.not_not.mp (of_decide_eq_false z1))
      refine Runs.go 3 (cs := []) (pc' := bif decide ((brk S sp t) = (-1 : Int32)) then 36 else 35) (pl' := [some (.ref 9), some (.ref 1), some (.long (L (pk (arM sp)))), none, some (.int (brk S sp t)), some (.int (N t))]) (st' := []) (h' := (KP X cl (S 0) (pk (CX S)) (S 61) (S 62) sn sg sv cd ln pe pr ba fo (pk U) fr sc hs m o)) rfl trivial ?_
      refine Runs.br (fun z2 => ?_) (fun z2 => ?_)
      · replace z2 : (brk S sp t) = (-1 : Int32) := Iff.rfl.mp (of_decide_eq_true z2)
        refine Runs.goL 3 (cs := []) (pc' := 43) (pl1 := [some (.ref 9), some (.ref 1), some (.long (L (pk (arM sp)))), none, some (.int (N t)), some (.int (N t + N 1))]) (pl' := [some (.ref 9), some (.ref 1), some (.long (L (pk (arM sp)))), none, some (.int (N t)), some (.int (N (t + 1)))]) (st' := []) (h' := (KP X cl (S 0) (pk (CX S)) (S 61) (S 62) sn sg sv cd ln pe pr ba fo (pk U) fr sc hs m o)) rfl trivial (congrArg (fun zq9 => ([some (.ref 9), some (.ref 1), some (.long (L (pk (arM sp)))), none, some (.int (N t)), some (.int zq9)] : PL)) (NA (by omega))) ?_
        refine Runs.go 1 (cs := []) (pc' := 6) (pl' := [some (.ref 9), some (.ref 1), some (.long (L (pk (arM sp)))), none, some (.int (N t)), some (.int (N (t + 1)))]) (st' := []) (h' := (KP X cl (S 0) (pk (CX S)) (S 61) (S 62) sn sg sv cd ln pe pr ba fo (pk U) fr sc hs m o)) rfl trivial ?_
        exact Runs.wk (pl' := [some (.ref 9), some (.ref 1), some (.long (L (pk (arM sp)))), none, some (.int (brk S sp (t + 1))), some (.int (N (t + 1)))]) (st' := []) (h' := (KP X cl (S 0) (pk (CX S)) (S 61) (S 62) sn sg sv cd ln pe pr ba fo (pk U) fr sc hs m o)) ⟨Or.inr rfl, Or.inr rfl, Or.inr rfl, Or.inl rfl, Or.inr (congrArg (fun zq9 => some (Value.int zq9)) (brk_new z1 ((brk_m1 (by omega)).mp z2)).1), Or.inr rfl, trivial⟩ rfl rfl (K1 (by rw [(brk_new z1 ((brk_m1 (by omega)).mp z2)).2]; decide))
      · replace z2 : ¬ ((brk S sp t) = (-1 : Int32)) := mt Iff.rfl.mpr (of_decide_eq_false z2)
        have q1 : ¬ flN S sp t = 0 := mt (brk_m1 (by omega)).mpr z2
        have q2 : flN S sp (t + 1) = flN S sp t + 1 := by rw [flN_s, if_neg (by rw [z1]; decide)]
        have q3 := flN_mono (S := S) (sp := sp) (show t + 1 ≤ S 0 by omega)
        exact Runs.retE (cs := []) rfl trivial rfl (by rw [ctO, ctA, ctU, if_neg (by omega), if_neg (by omega), if_neg (by omega)])
  · show Runs _ _ 6 _ [] _ _ _ _
    show Runs _ _ 6 [some (.ref 9), some (.ref 1), some (.long (L (pk (arM sp)))), none, some (.int (brk S sp (S 0))), some (.int (N (S 0)))] [] (KP X cl (S 0) (pk (CX S)) (S 61) (S 62) sn sg sv cd ln pe pr ba fo (pk U) fr sc hs m o) _ _ _
    refine Runs.go 4 (cs := []) (pc' := bif decide ((N (S 0)) ≤ (N (S 0))) then 46 else 15) (pl' := [some (.ref 9), some (.ref 1), some (.long (L (pk (arM sp)))), none, some (.int (brk S sp (S 0))), some (.int (N (S 0)))]) (st' := []) (h' := (KP X cl (S 0) (pk (CX S)) (S 61) (S 62) sn sg sv cd ln pe pr ba fo (pk U) fr sc hs m o)) rfl trivial ?_
    refine Runs.brT (decide_eq_true ((N_le (a := S 0) (b := S 0) (by omega) (by omega)).mpr (by omega))) ?_
    have I1 : flN S sp (S 0) < 2 := I1
    by_cases e0 : flN S sp (S 0) = 0
    · show Runs _ _ 46 _ _ _ _ _ _
      refine Runs.go 3 (cs := []) (pc' := bif decide ((brk S sp (S 0)) = (-1 : Int32)) then 64 else 52) (pl' := [some (.ref 9), some (.ref 1), some (.long (L (pk (arM sp)))), none, some (.int (brk S sp (S 0))), some (.int (N (S 0)))]) (st' := []) (h' := (KP X cl (S 0) (pk (CX S)) (S 61) (S 62) sn sg sv cd ln pe pr ba fo (pk U) fr sc hs m o)) rfl trivial ?_
      refine Runs.brT (decide_eq_true (Iff.rfl.mpr ((brk_m1 (by omega)).mpr e0))) ?_
      refine Runs.topI 5 (cs := []) (pc' := 71) (pl' := [some (.ref 9), some (.ref 1), some (.long (L (pk (arM sp)))), none, some (.int (brk S sp (S 0))), some (.int (N (S 0)))]) (v := (N fo) + (N 1)) (v' := N (fo + 1)) (st' := [.ref 9]) (h' := (KP X cl (S 0) (pk (CX S)) (S 61) (S 62) sn sg sv cd ln pe pr ba fo (pk U) fr sc hs m o)) rfl trivial (NA (by omega)) ?_
      refine Runs.topJ 6 (cs := []) (pc' := 81) (pl' := [some (.ref 9), some (.ref 1), some (.long (L (pk (arM sp)))), none, some (.int (brk S sp (S 0))), some (.int (N (S 0)))]) (v := (L (pk U)) ||| (L (pk (arM sp)))) (v' := L (pk (fun i => U i ||| arM sp i))) (st' := [.ref 9]) (h' := (KP X cl (S 0) (pk (CX S)) (S 61) (S 62) sn sg sv cd ln pe pr ba (fo + 1) (pk U) fr sc hs m o)) rfl trivial ((L_or _ _).trans (congrArg L (zk_or hU (arM_16 hsp)))) ?_
      refine Runs.go 1 (cs := []) (pc' := 84) (pl' := [some (.ref 9), some (.ref 1), some (.long (L (pk (arM sp)))), none, some (.int (brk S sp (S 0))), some (.int (N (S 0)))]) (st' := []) (h' := (KP X cl (S 0) (pk (CX S)) (S 61) (S 62) sn sg sv cd ln pe pr ba (fo + 1) (pk (fun i => U i ||| arM sp i)) fr sc hs m o)) rfl trivial ?_
      exact Runs.retE (cs := []) rfl trivial rfl (by rw [ctO, ctA, ctU, if_neg (by omega), if_pos e0, if_pos e0])
    · have e1 : brk S sp (S 0) = N (laN S sp (S 0)) := if_neg e0
      have hla := laN_lt S sp (S 0) (by omega)
      rw [e1]
      show Runs _ _ 46 _ _ _ _ _ _
      refine Runs.go 3 (cs := []) (pc' := bif decide ((N (laN S sp (S 0))) = (-1 : Int32)) then 64 else 52) (pl' := [some (.ref 9), some (.ref 1), some (.long (L (pk (arM sp)))), none, some (.int (N (laN S sp (S 0)))), some (.int (N (S 0)))]) (st' := []) (h' := (KP X cl (S 0) (pk (CX S)) (S 61) (S 62) sn sg sv cd ln pe pr ba fo (pk U) fr sc hs m o)) rfl trivial ?_
      refine Runs.brF (decide_eq_false (fun zq9 => absurd (Iff.rfl.mp zq9) (N_nm1 (laN_le _ (by omega))))) ?_
      refine Runs.topI 5 (cs := [vp_in (N (laN S sp (S 0))) 12]) (pc' := 60) (pl' := [some (.ref 9), some (.ref 1), some (.long (L (pk (arM sp)))), none, some (.int (N (laN S sp (S 0)))), some (.int (N (S 0)))]) (v := aN ba (N (laN S sp (S 0))).toNatClampNeg) (v' := N (ba (laN S sp (S 0)))) (st' := [.int (N (laN S sp (S 0))), .ref 10]) (h' := (KP X cl (S 0) (pk (CX S)) (S 61) (S 62) sn sg sv cd ln pe pr ba fo (pk U) fr sc hs m o)) rfl ⟨(N_in (by omega) (by decide)), trivial⟩ (aN_at (by omega)) ?_
      refine Runs.topI 2 (cs := []) (pc' := 62) (pl' := [some (.ref 9), some (.ref 1), some (.long (L (pk (arM sp)))), none, some (.int (N (laN S sp (S 0)))), some (.int (N (S 0)))]) (v := (N (ba (laN S sp (S 0)))) + (N 1)) (v' := N (ba (laN S sp (S 0)) + 1)) (st' := [.int (N (laN S sp (S 0))), .ref 10]) (h' := (KP X cl (S 0) (pk (CX S)) (S 61) (S 62) sn sg sv cd ln pe pr ba fo (pk U) fr sc hs m o)) rfl trivial (NA (by omega)) ?_
      refine Runs.goH 1 (cs := [vp_in (N (laN S sp (S 0))) 12]) (pc' := 63) (pl' := [some (.ref 9), some (.ref 1), some (.long (L (pk (arM sp)))), none, some (.int (N (laN S sp (S 0)))), some (.int (N (S 0)))]) (st' := []) (h1 := (FP X (aN cl) (N (S 0)) (L (pk (CX S))) (N (S 61)) (N (S 62)) sn sg sv (aN cd) (N ln) (L pe) (N pr) (upd (aN ba) (N (laN S sp (S 0))).toNatClampNeg (N (ba (laN S sp (S 0)) + 1))) (N fo) (L (pk U)) (bI fr) (N sc) (bI hs) m o)) (h' := (KP X cl (S 0) (pk (CX S)) (S 61) (S 62) sn sg sv cd ln pe pr (upn ba (laN S sp (S 0)) (ba (laN S sp (S 0)) + 1)) fo (pk U) fr sc hs m o)) rfl ⟨(N_in (by omega) (by decide)), trivial⟩ (congrArg (fun zq9 => (FP X (aN cl) (N (S 0)) (L (pk (CX S))) (N (S 61)) (N (S 62)) sn sg sv (aN cd) (N ln) (L pe) (N pr) zq9 (N fo) (L (pk U)) (bI fr) (N sc) (bI hs) m o)) ((aN_up (by omega)))) ?_
      exact Runs.retE (cs := []) rfl trivial rfl (by rw [ctO, ctA, ctU, if_pos (by omega), if_neg (by omega), if_neg (by omega)])
