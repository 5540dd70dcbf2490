/-! THE ORDERS, as the constructor of the reference makes them (gen_i1.py) -/
def pmB (i : Nat) : Bool := decide ((((2 ^ (i / 64) ||| 2 ^ (i / 16 % 4)) ||| 2 ^ (i / 4 % 4)) ||| 2 ^ (i % 4)) = 15)
def pcn : Nat → Nat := itN (fun k x => if pmB k then x + 1 else x) 0
theorem pcn_s (i : Nat) : pcn (i + 1) = if pmB i then pcn i + 1 else pcn i := rfl
/-- the orders of the first i codes -/
def odF (i : Nat) : Nat → Nat := fun j => if j < 4 * pcn i then odC j else 0
def pmF (i : Nat) : Bool := !pmB i || (decide (pcn i ≤ 23) && decide (odC (4 * pcn i) = i / 64) && decide (odC (4 * pcn i + 1) = i / 16 % 4) && decide (odC (4 * pcn i + 2) = i / 4 % 4) && decide (odC (4 * pcn i + 3) = i % 4))
theorem pmF_all : ∀ i, i < 256 → pmF i = true := by decide +kernel
theorem pcn_256 : pcn 256 = 24 := by decide +kernel
theorem pcn_le : ∀ i, i < 256 → pcn i ≤ 24 := by decide +kernel
theorem pm_f {i : Nat} (hi : i < 256) (h : pmB i = true) : pcn i ≤ 23 ∧ odC (4 * pcn i) = i / 64 ∧ odC (4 * pcn i + 1) = i / 16 % 4 ∧ odC (4 * pcn i + 2) = i / 4 % 4 ∧ odC (4 * pcn i + 3) = i % 4 := by
  have := pmF_all i hi
  unfold pmF at this
  rw [h, Bool.not_true, Bool.false_or] at this
  simp only [Bool.and_eq_true, decide_eq_true_eq] at this
  exact ⟨this.1.1.1.1, this.1.1.1.2, this.1.1.2, this.1.2, this.2⟩
theorem odF_0 : odF 0 = fun _ => 0 := by
  funext j
  exact if_neg (by show ¬ j < 4 * 0; omega)
theorem odF_256 : odF 256 = odC := by
  funext j
  unfold odF
  rw [pcn_256]
  by_cases h : j < 4 * 24
  · exact if_pos h
  · rw [if_neg h]
    unfold odC
    rw [List.getD_eq_getElem?_getD, List.getElem?_eq_none (show 96 ≤ j by omega)]
    rfl
theorem odF_no {i : Nat} (h : pmB i = false) : odF (i + 1) = odF i ∧ pcn (i + 1) = pcn i := by
  have e : pcn (i + 1) = pcn i := by
    rw [pcn_s, h, if_neg (by decide)]
  unfold odF
  rw [e]
  exact ⟨rfl, rfl⟩
theorem odF_yes {i : Nat} (hi : i < 256) (h : pmB i = true) : upn (upn (upn (upn (odF i) (4 * pcn i) (i / 64)) (4 * pcn i + 1) (i / 16 % 4)) (4 * pcn i + 2) (i / 4 % 4)) (4 * pcn i + 3) (i % 4) = odF (i + 1) := by
  obtain ⟨h0, h1, h2, h3, h4⟩ := pm_f hi h
  have e : pcn (i + 1) = pcn i + 1 := by
    rw [pcn_s, h, if_pos rfl]
  funext j
  unfold upn odF
  rw [e]
  by_cases j3 : j = 4 * pcn i + 3
  · rw [if_pos j3, if_pos (by omega), j3, h4]
  rw [if_neg j3]
  by_cases j2 : j = 4 * pcn i + 2
  · rw [if_pos j2, if_pos (by omega), j2, h3]
  rw [if_neg j2]
  by_cases j1 : j = 4 * pcn i + 1
  · rw [if_pos j1, if_pos (by omega), j1, h2]
  rw [if_neg j1]
  by_cases j0 : j = 4 * pcn i
  · rw [if_pos j0, if_pos (by omega), j0, h1]
  rw [if_neg j0]
  by_cases jl : j < 4 * pcn i
  · rw [if_pos jl, if_pos (by omega)]
  · rw [if_neg jl, if_neg (by omega)]
theorem k_ctor : Runs 0 mX7_init 101 (entP mX7_init [.ref 0]) [] (mtH (fun _ => 0)) (.inl none) (mtH (aN odC)) 0 := by
  show Runs 0 mX7_init 101 [some (.ref 0), none, none, none, none, none, none] [] (mtH (aN (fun _ => 0))) _ _ _
  refine Runs.go 4 (cs := []) (pc' := 105) (pl' := [some (.ref 0), some (.int (N 0)), some (.int (N 0)), none, none, none, none]) (st' := []) (h' := (mtH (aN (fun _ => 0)))) rfl trivial ?_
  refine Runs.wk (pl' := [some (.ref 0), some (.int (N (pcn 0))), some (.int (N 0)), none, none, none, none]) (st' := []) (h' := (mtH (aN (odF 0)))) ⟨Or.inr rfl, Or.inr rfl, Or.inr rfl, Or.inl rfl, Or.inl rfl, Or.inl rfl, Or.inl rfl, trivial⟩ rfl (by rw [odF_0]) ?_
  refine Runs.loopN (fun i => [some (.ref 0), some (.int (N (pcn i))), some (.int (N i)), none, none, none, none]) (fun i => (mtH (aN (odF i)))) (fun i => True) 256 trivial (fun i hi I1 K1 => ?_) (fun I1 => ?_)
  · show Runs _ _ 105 [some (.ref 0), some (.int (N (pcn i))), some (.int (N i)), none, none, none, none] [] (mtH (aN (odF i))) _ _ _
    have hpl := pcn_le i hi
    have q1 : i / 64 < 4 := by omega
    have q9 := p2_lt q1
    have q2 := p2_lt (Nat.mod_lt (i / 16) (show 4 > 0 by decide))
    have q3 := p2_lt (Nat.mod_lt (i / 4) (show 4 > 0 by decide))
    have q4 := p2_lt (Nat.mod_lt i (show 4 > 0 by decide))
    have q5 := or_16 (or_16 (or_16 q9 q2) q3) q4
    refine Runs.go 3 (cs := []) (pc' := bif decide ((N 256) ≤ (N i)) then 214 else 112) (pl' := [some (.ref 0), some (.int (N (pcn i))), some (.int (N i)), none, none, none, none]) (st' := []) (h' := (mtH (aN (odF i)))) rfl trivial ?_
    refine Runs.brF (decide_eq_false (fun zq9 => absurd ((N_le (a := 256) (b := i) (by omega) (by omega)).mp zq9) (by omega))) ?_
    refine Runs.topI 3 (cs := [¬ (N 64) = 0]) (pc' := 116) (pl' := [some (.ref 0), some (.int (N (pcn i))), some (.int (N i)), none, none, none, none]) (v := (N i) / (N 64)) (v' := N (i / 64)) (st' := []) (h' := (mtH (aN (odF i)))) rfl ⟨(by decide), trivial⟩ (N_div (by omega) (by omega)) ?_
    refine Runs.topI 4 (cs := [¬ (N 16) = 0]) (pc' := 121) (pl' := [some (.ref 0), some (.int (N (pcn i))), some (.int (N i)), some (.int (N (i / 64))), none, none, none]) (v := (N i) / (N 16)) (v' := N (i / 16)) (st' := []) (h' := (mtH (aN (odF i)))) rfl ⟨(by decide), trivial⟩ (N_div (by omega) (by omega)) ?_
    refine Runs.topI 2 (cs := [¬ (N 4) = 0]) (pc' := 123) (pl' := [some (.ref 0), some (.int (N (pcn i))), some (.int (N i)), some (.int (N (i / 64))), none, none, none]) (v := (N (i / 16)) - (N (i / 16)) / (N 4) * (N 4)) (v' := N ((i / 16) % 4)) (st' := []) (h' := (mtH (aN (odF i)))) rfl ⟨(by decide), trivial⟩ (N_rem (by omega) (by omega)) ?_
    refine Runs.topI 4 (cs := [¬ (N 4) = 0]) (pc' := 128) (pl' := [some (.ref 0), some (.int (N (pcn i))), some (.int (N i)), some (.int (N (i / 64))), some (.int (N ((i / 16) % 4))), none, none]) (v := (N i) / (N 4)) (v' := N (i / 4)) (st' := []) (h' := (mtH (aN (odF i)))) rfl ⟨(by decide), trivial⟩ (N_div (by omega) (by omega)) ?_
    refine Runs.topI 2 (cs := [¬ (N 4) = 0]) (pc' := 130) (pl' := [some (.ref 0), some (.int (N (pcn i))), some (.int (N i)), some (.int (N (i / 64))), some (.int (N ((i / 16) % 4))), none, none]) (v := (N (i / 4)) - (N (i / 4)) / (N 4) * (N 4)) (v' := N ((i / 4) % 4)) (st' := []) (h' := (mtH (aN (odF i)))) rfl ⟨(by decide), trivial⟩ (N_rem (by omega) (by omega)) ?_
    refine Runs.topI 4 (cs := [¬ (N 4) = 0]) (pc' := 135) (pl' := [some (.ref 0), some (.int (N (pcn i))), some (.int (N i)), some (.int (N (i / 64))), some (.int (N ((i / 16) % 4))), some (.int (N ((i / 4) % 4))), none]) (v := (N i) - (N i) / (N 4) * (N 4)) (v' := N (i % 4)) (st' := []) (h' := (mtH (aN (odF i)))) rfl ⟨(by decide), trivial⟩ (N_rem (by omega) (by omega)) ?_
    refine Runs.topI 4 (cs := []) (pc' := 140) (pl' := [some (.ref 0), some (.int (N (pcn i))), some (.int (N i)), some (.int (N (i / 64))), some (.int (N ((i / 16) % 4))), some (.int (N ((i / 4) % 4))), some (.int (N (i % 4)))]) (v := (N 1) <<< (N (i / 64) &&& 31)) (v' := N (2 ^ (i / 64))) (st' := []) (h' := (mtH (aN (odF i)))) rfl trivial (NHL (by omega) (Nat.one_mul _)) ?_
    refine Runs.topI 3 (cs := []) (pc' := 144) (pl' := [some (.ref 0), some (.int (N (pcn i))), some (.int (N i)), some (.int (N (i / 64))), some (.int (N ((i / 16) % 4))), some (.int (N ((i / 4) % 4))), some (.int (N (i % 4)))]) (v := (N 1) <<< (N ((i / 16) % 4) &&& 31)) (v' := N (2 ^ ((i / 16) % 4))) (st' := [.int (N (2 ^ (i / 64)))]) (h' := (mtH (aN (odF i)))) rfl trivial (NHL (by omega) (Nat.one_mul _)) ?_
    refine Runs.topI 1 (cs := []) (pc' := 145) (pl' := [some (.ref 0), some (.int (N (pcn i))), some (.int (N i)), some (.int (N (i / 64))), some (.int (N ((i / 16) % 4))), some (.int (N ((i / 4) % 4))), some (.int (N (i % 4)))]) (v := (N (2 ^ (i / 64))) ||| (N (2 ^ ((i / 16) % 4)))) (v' := N ((2 ^ (i / 64)) ||| (2 ^ ((i / 16) % 4)))) (st' := []) (h' := (mtH (aN (odF i)))) rfl trivial (N_or _ _) ?_
    refine Runs.topI 3 (cs := []) (pc' := 149) (pl' := [some (.ref 0), some (.int (N (pcn i))), some (.int (N i)), some (.int (N (i / 64))), some (.int (N ((i / 16) % 4))), some (.int (N ((i / 4) % 4))), some (.int (N (i % 4)))]) (v := (N 1) <<< (N ((i / 4) % 4) &&& 31)) (v' := N (2 ^ ((i / 4) % 4))) (st' := [.int (N ((2 ^ (i / 64)) ||| (2 ^ ((i / 16) % 4))))]) (h' := (mtH (aN (odF i)))) rfl trivial (NHL (by omega) (Nat.one_mul _)) ?_
    refine Runs.topI 1 (cs := []) (pc' := 150) (pl' := [some (.ref 0), some (.int (N (pcn i))), some (.int (N i)), some (.int (N (i / 64))), some (.int (N ((i / 16) % 4))), some (.int (N ((i / 4) % 4))), some (.int (N (i % 4)))]) (v := (N ((2 ^ (i / 64)) ||| (2 ^ ((i / 16) % 4)))) ||| (N (2 ^ ((i / 4) % 4)))) (v' := N (((2 ^ (i / 64)) ||| (2 ^ ((i / 16) % 4))) ||| (2 ^ ((i / 4) % 4)))) (st' := []) (h' := (mtH (aN (odF i)))) rfl trivial (N_or _ _) ?_
    refine Runs.topI 3 (cs := []) (pc' := 154) (pl' := [some (.ref 0), some (.int (N (pcn i))), some (.int (N i)), some (.int (N (i / 64))), some (.int (N ((i / 16) % 4))), some (.int (N ((i / 4) % 4))), some (.int (N (i % 4)))]) (v := (N 1) <<< (N (i % 4) &&& 31)) (v' := N (2 ^ (i % 4))) (st' := [.int (N (((2 ^ (i / 64)) ||| (2 ^ ((i / 16) % 4))) ||| (2 ^ ((i / 4) % 4))))]) (h' := (mtH (aN (odF i)))) rfl trivial (NHL (by omega) (Nat.one_mul _)) ?_
    refine Runs.topI 1 (cs := []) (pc' := 155) (pl' := [some (.ref 0), some (.int (N (pcn i))), some (.int (N i)), some (.int (N (i / 64))), some (.int (N ((i / 16) % 4))), some (.int (N ((i / 4) % 4))), some (.int (N (i % 4)))]) (v := (N (((2 ^ (i / 64)) ||| (2 ^ ((i / 16) % 4))) ||| (2 ^ ((i / 4) % 4)))) ||| (N (2 ^ (i % 4)))) (v' := N ((((2 ^ (i / 64)) ||| (2 ^ ((i / 16) % 4))) ||| (2 ^ ((i / 4) % 4))) ||| (2 ^ (i % 4)))) (st' := []) (h' := (mtH (aN (odF i)))) rfl trivial (N_or _ _) ?_
    refine Runs.go 2 (cs := []) (pc' := bif decide (¬ (N ((((2 ^ (i / 64)) ||| (2 ^ ((i / 16) % 4))) ||| (2 ^ ((i / 4) % 4))) ||| (2 ^ (i % 4)))) = (N 15)) then 208 else 160) (pl' := [some (.ref 0), some (.int (N (pcn i))), some (.int (N i)), some (.int (N (i / 64))), some (.int (N ((i / 16) % 4))), some (.int (N ((i / 4) % 4))), some (.int (N (i % 4)))]) (st' := []) (h' := (mtH (aN (odF i)))) rfl trivial ?_
    refine Runs.br (fun z1 => ?_) (fun z1 => ?_)
    · replace z1 : ¬ (((((2 ^ (i / 64)) ||| (2 ^ ((i / 16) % 4))) ||| (2 ^ ((i / 4) % 4))) ||| (2 ^ (i % 4))) = 15) := mt (N_eq (a := ((((2 ^ (i / 64)) ||| (2 ^ ((i / 16) % 4))) ||| (2 ^ ((i / 4) % 4))) ||| (2 ^ (i % 4)))) (b := 15) (by omega) (by omega)).mpr (of_decide_eq_true z1)
      refine Runs.goL 1 (cs := []) (pc' := 211) (pl1 := [some (.ref 0), some (.int (N (pcn i))), some (.int (N i + N 1)), some (.int (N (i / 64))), some (.int (N ((i / 16) % 4))), some (.int (N ((i / 4) % 4))), some (.int (N (i % 4)))]) (pl' := [some (.ref 0), some (.int (N (pcn i))), some (.int (N (i + 1))), some (.int (N (i / 64))), some (.int (N ((i / 16) % 4))), some (.int (N ((i / 4) % 4))), some (.int (N (i % 4)))]) (st' := []) (h' := (mtH (aN (odF i)))) rfl trivial (congrArg (fun zq9 => ([some (.ref 0), some (.int (N (pcn i))), some (.int zq9), some (.int (N (i / 64))), some (.int (N ((i / 16) % 4))), some (.int (N ((i / 4) % 4))), some (.int (N (i % 4)))] : PL)) (NA (by omega))) ?_
      refine Runs.go 1 (cs := []) (pc' := 105) (pl' := [some (.ref 0), some (.int (N (pcn i))), some (.int (N (i + 1))), some (.int (N (i / 64))), some (.int (N ((i / 16) % 4))), some (.int (N ((i / 4) % 4))), some (.int (N (i % 4)))]) (st' := []) (h' := (mtH (aN (odF i)))) rfl trivial ?_
      have hp : pmB i = false := decide_eq_false z1
      exact Runs.wk (pl' := [some (.ref 0), some (.int (N (pcn (i + 1)))), some (.int (N (i + 1))), none, none, none, none]) (st' := []) (h' := (mtH (aN (odF (i + 1))))) ⟨Or.inr rfl, Or.inr (congrArg (fun zq9 => some (Value.int zq9)) (congrArg N (odF_no hp).2)), Or.inr rfl, Or.inl rfl, Or.inl rfl, Or.inl rfl, Or.inl rfl, trivial⟩ rfl (by rw [(odF_no hp).1]) (K1 trivial)
    · replace z1 : ((((2 ^ (i / 64)) ||| (2 ^ ((i / 16) % 4))) ||| (2 ^ ((i / 4) % 4))) ||| (2 ^ (i % 4))) = 15 := (N_eq (a := ((((2 ^ (i / 64)) ||| (2 ^ ((i / 16) % 4))) ||| (2 ^ ((i / 4) % 4))) ||| (2 ^ (i % 4)))) (b := 15) (by omega) (by omega)).mp (Classical.not_not.mp (of_decide_eq_false z1))
      have hp9 := (pm_f hi (decide_eq_true z1)).1
      refine Runs.topI 5 (cs := []) (pc' := 167) (pl' := [some (.ref 0), some (.int (N (pcn i))), some (.int (N i)), some (.int (N (i / 64))), some (.int (N ((i / 16) % 4))), some (.int (N ((i / 4) % 4))), some (.int (N (i % 4)))]) (v := (N 4) * (N (pcn i))) (v' := N (4 * (pcn i))) (st' := [.ref 4]) (h' := (mtH (aN (odF i)))) rfl trivial (NM (by omega)) ?_
      refine Runs.goH 2 (cs := [vp_in (N (4 * (pcn i))) 96]) (pc' := 169) (pl' := [some (.ref 0), some (.int (N (pcn i))), some (.int (N i)), some (.int (N (i / 64))), some (.int (N ((i / 16) % 4))), some (.int (N ((i / 4) % 4))), some (.int (N (i % 4)))]) (st' := []) (h1 := (mtH (upd (aN (odF i)) (N (4 * (pcn i))).toNatClampNeg (N (i / 64))))) (h' := (mtH (aN (upn (odF i) (4 * (pcn i)) (i / 64))))) rfl ⟨(N_in (by omega) (by decide)), trivial⟩ (congrArg (fun zq9 => (mtH zq9)) ((aN_up (by omega)))) ?_
      refine Runs.topI 5 (cs := []) (pc' := 176) (pl' := [some (.ref 0), some (.int (N (pcn i))), some (.int (N i)), some (.int (N (i / 64))), some (.int (N ((i / 16) % 4))), some (.int (N ((i / 4) % 4))), some (.int (N (i % 4)))]) (v := (N 4) * (N (pcn i))) (v' := N (4 * (pcn i))) (st' := [.ref 4]) (h' := (mtH (aN (upn (odF i) (4 * (pcn i)) (i / 64))))) rfl trivial (NM (by omega)) ?_
      refine Runs.topI 2 (cs := []) (pc' := 178) (pl' := [some (.ref 0), some (.int (N (pcn i))), some (.int (N i)), some (.int (N (i / 64))), some (.int (N ((i / 16) % 4))), some (.int (N ((i / 4) % 4))), some (.int (N (i % 4)))]) (v := (N (4 * (pcn i))) + (N 1)) (v' := N (4 * (pcn i) + 1)) (st' := [.ref 4]) (h' := (mtH (aN (upn (odF i) (4 * (pcn i)) (i / 64))))) rfl trivial (NA (by omega)) ?_
      refine Runs.goH 2 (cs := [vp_in (N (4 * (pcn i) + 1)) 96]) (pc' := 181) (pl' := [some (.ref 0), some (.int (N (pcn i))), some (.int (N i)), some (.int (N (i / 64))), some (.int (N ((i / 16) % 4))), some (.int (N ((i / 4) % 4))), some (.int (N (i % 4)))]) (st' := []) (h1 := (mtH (upd (aN (upn (odF i) (4 * (pcn i)) (i / 64))) (N (4 * (pcn i) + 1)).toNatClampNeg (N ((i / 16) % 4))))) (h' := (mtH (aN (upn (upn (odF i) (4 * (pcn i)) (i / 64)) (4 * (pcn i) + 1) ((i / 16) % 4))))) rfl ⟨(N_in (by omega) (by decide)), trivial⟩ (congrArg (fun zq9 => (mtH zq9)) ((aN_up (by omega)))) ?_
      refine Runs.topI 5 (cs := []) (pc' := 188) (pl' := [some (.ref 0), some (.int (N (pcn i))), some (.int (N i)), some (.int (N (i / 64))), some (.int (N ((i / 16) % 4))), some (.int (N ((i / 4) % 4))), some (.int (N (i % 4)))]) (v := (N 4) * (N (pcn i))) (v' := N (4 * (pcn i))) (st' := [.ref 4]) (h' := (mtH (aN (upn (upn (odF i) (4 * (pcn i)) (i / 64)) (4 * (pcn i) + 1) ((i / 16) % 4))))) rfl trivial (NM (by omega)) ?_
      refine Runs.topI 2 (cs := []) (pc' := 190) (pl' := [some (.ref 0), some (.int (N (pcn i))), some (.int (N i)), some (.int (N (i / 64))), some (.int (N ((i / 16) % 4))), some (.int (N ((i / 4) % 4))), some (.int (N (i % 4)))]) (v := (N (4 * (pcn i))) + (N 2)) (v' := N (4 * (pcn i) + 2)) (st' := [.ref 4]) (h' := (mtH (aN (upn (upn (odF i) (4 * (pcn i)) (i / 64)) (4 * (pcn i) + 1) ((i / 16) % 4))))) rfl trivial (NA (by omega)) ?_
      refine Runs.goH 2 (cs := [vp_in (N (4 * (pcn i) + 2)) 96]) (pc' := 193) (pl' := [some (.ref 0), some (.int (N (pcn i))), some (.int (N i)), some (.int (N (i / 64))), some (.int (N ((i / 16) % 4))), some (.int (N ((i / 4) % 4))), some (.int (N (i % 4)))]) (st' := []) (h1 := (mtH (upd (aN (upn (upn (odF i) (4 * (pcn i)) (i / 64)) (4 * (pcn i) + 1) ((i / 16) % 4))) (N (4 * (pcn i) + 2)).toNatClampNeg (N ((i / 4) % 4))))) (h' := (mtH (aN (upn (upn (upn (odF i) (4 * (pcn i)) (i / 64)) (4 * (pcn i) + 1) ((i / 16) % 4)) (4 * (pcn i) + 2) ((i / 4) % 4))))) rfl ⟨(N_in (by omega) (by decide)), trivial⟩ (congrArg (fun zq9 => (mtH zq9)) ((aN_up (by omega)))) ?_
      refine Runs.topI 5 (cs := []) (pc' := 200) (pl' := [some (.ref 0), some (.int (N (pcn i))), some (.int (N i)), some (.int (N (i / 64))), some (.int (N ((i / 16) % 4))), some (.int (N ((i / 4) % 4))), some (.int (N (i % 4)))]) (v := (N 4) * (N (pcn i))) (v' := N (4 * (pcn i))) (st' := [.ref 4]) (h' := (mtH (aN (upn (upn (upn (odF i) (4 * (pcn i)) (i / 64)) (4 * (pcn i) + 1) ((i / 16) % 4)) (4 * (pcn i) + 2) ((i / 4) % 4))))) rfl trivial (NM (by omega)) ?_
      refine Runs.topI 2 (cs := []) (pc' := 202) (pl' := [some (.ref 0), some (.int (N (pcn i))), some (.int (N i)), some (.int (N (i / 64))), some (.int (N ((i / 16) % 4))), some (.int (N ((i / 4) % 4))), some (.int (N (i % 4)))]) (v := (N (4 * (pcn i))) + (N 3)) (v' := N (4 * (pcn i) + 3)) (st' := [.ref 4]) (h' := (mtH (aN (upn (upn (upn (odF i) (4 * (pcn i)) (i / 64)) (4 * (pcn i) + 1) ((i / 16) % 4)) (4 * (pcn i) + 2) ((i / 4) % 4))))) rfl trivial (NA (by omega)) ?_
      refine Runs.goH 2 (cs := [vp_in (N (4 * (pcn i) + 3)) 96]) (pc' := 205) (pl' := [some (.ref 0), some (.int (N (pcn i))), some (.int (N i)), some (.int (N (i / 64))), some (.int (N ((i / 16) % 4))), some (.int (N ((i / 4) % 4))), some (.int (N (i % 4)))]) (st' := []) (h1 := (mtH (upd (aN (upn (upn (upn (odF i) (4 * (pcn i)) (i / 64)) (4 * (pcn i) + 1) ((i / 16) % 4)) (4 * (pcn i) + 2) ((i / 4) % 4))) (N (4 * (pcn i) + 3)).toNatClampNeg (N (i % 4))))) (h' := (mtH (aN (upn (upn (upn (upn (odF i) (4 * (pcn i)) (i / 64)) (4 * (pcn i) + 1) ((i / 16) % 4)) (4 * (pcn i) + 2) ((i / 4) % 4)) (4 * (pcn i) + 3) (i % 4))))) rfl ⟨(N_in (by omega) (by decide)), trivial⟩ (congrArg (fun zq9 => (mtH zq9)) ((aN_up (by omega)))) ?_
      refine Runs.goL 1 (cs := []) (pc' := 208) (pl1 := [some (.ref 0), some (.int (N (pcn i) + N 1)), some (.int (N i)), some (.int (N (i / 64))), some (.int (N ((i / 16) % 4))), some (.int (N ((i / 4) % 4))), some (.int (N (i % 4)))]) (pl' := [some (.ref 0), some (.int (N (pcn i + 1))), some (.int (N i)), some (.int (N (i / 64))), some (.int (N ((i / 16) % 4))), some (.int (N ((i / 4) % 4))), some (.int (N (i % 4)))]) (st' := []) (h' := (mtH (aN (upn (upn (upn (upn (odF i) (4 * (pcn i)) (i / 64)) (4 * (pcn i) + 1) ((i / 16) % 4)) (4 * (pcn i) + 2) ((i / 4) % 4)) (4 * (pcn i) + 3) (i % 4))))) rfl trivial (congrArg (fun zq9 => ([some (.ref 0), some (.int zq9), some (.int (N i)), some (.int (N (i / 64))), some (.int (N ((i / 16) % 4))), some (.int (N ((i / 4) % 4))), some (.int (N (i % 4)))] : PL)) (NA (by omega))) ?_
      refine Runs.goL 1 (cs := []) (pc' := 211) (pl1 := [some (.ref 0), some (.int (N (pcn i + 1))), some (.int (N i + N 1)), some (.int (N (i / 64))), some (.int (N ((i / 16) % 4))), some (.int (N ((i / 4) % 4))), some (.int (N (i % 4)))]) (pl' := [some (.ref 0), some (.int (N (pcn i + 1))), some (.int (N (i + 1))), some (.int (N (i / 64))), some (.int (N ((i / 16) % 4))), some (.int (N ((i / 4) % 4))), some (.int (N (i % 4)))]) (st' := []) (h' := (mtH (aN (upn (upn (upn (upn (odF i) (4 * (pcn i)) (i / 64)) (4 * (pcn i) + 1) ((i / 16) % 4)) (4 * (pcn i) + 2) ((i / 4) % 4)) (4 * (pcn i) + 3) (i % 4))))) rfl trivial (congrArg (fun zq9 => ([some (.ref 0), some (.int (N (pcn i + 1))), some (.int zq9), some (.int (N (i / 64))), some (.int (N ((i / 16) % 4))), some (.int (N ((i / 4) % 4))), some (.int (N (i % 4)))] : PL)) (NA (by omega))) ?_
      refine Runs.go 1 (cs := []) (pc' := 105) (pl' := [some (.ref 0), some (.int (N (pcn i + 1))), some (.int (N (i + 1))), some (.int (N (i / 64))), some (.int (N ((i / 16) % 4))), some (.int (N ((i / 4) % 4))), some (.int (N (i % 4)))]) (st' := []) (h' := (mtH (aN (upn (upn (upn (upn (odF i) (4 * (pcn i)) (i / 64)) (4 * (pcn i) + 1) ((i / 16) % 4)) (4 * (pcn i) + 2) ((i / 4) % 4)) (4 * (pcn i) + 3) (i % 4))))) rfl trivial ?_
      have hp : pmB i = true := decide_eq_true z1
      exact Runs.wk (pl' := [some (.ref 0), some (.int (N (pcn (i + 1)))), some (.int (N (i + 1))), none, none, none, none]) (st' := []) (h' := (mtH (aN (odF (i + 1))))) ⟨Or.inr rfl, Or.inr (congrArg (fun zq9 => some (Value.int zq9)) (congrArg N ((pcn_s i).trans (by rw [hp, if_pos rfl])))), Or.inr rfl, Or.inl rfl, Or.inl rfl, Or.inl rfl, Or.inl rfl, trivial⟩ rfl (by rw [odF_yes hi hp]) (K1 trivial)
  · show Runs _ _ 105 _ [] _ _ _ _
    show Runs _ _ 105 [some (.ref 0), some (.int (N (pcn 256))), some (.int (N 256)), none, none, none, none] [] (mtH (aN (odF 256))) _ _ _
    refine Runs.go 3 (cs := []) (pc' := bif decide ((N 256) ≤ (N 256)) then 214 else 112) (pl' := [some (.ref 0), some (.int (N (pcn 256))), some (.int (N 256)), none, none, none, none]) (st' := []) (h' := (mtH (aN (odF 256)))) rfl trivial ?_
    refine Runs.brT (decide_eq_true (by decide)) ?_
    exact Runs.retE (cs := []) rfl trivial rfl (by rw [odF_256])
theorem hm_ctor : ∃ n, prun n 0 mX7_init 101 (entP mX7_init [.ref 0]) [] (mtH (fun _ => 0)) = some (.inl none, mtH (aN odC), 0) := k_ctor
