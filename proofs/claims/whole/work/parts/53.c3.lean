/-! THE CLASS: its clues as numbers (gen_c3.py) -/
/-- a clue as one number -/
def encC (so x y z pl : Nat) : Nat := so + 16 * x + 256 * y + 4096 * z + 65536 * pl
theorem or_sh {a b n : Nat} (h : a < 2 ^ n) : a ||| 2 ^ n * b = a + 2 ^ n * b := by rw [Nat.or_comm, ← Nat.two_pow_add_eq_or_of_lt h, Nat.add_comm]
theorem enc_or {so x y z pl : Nat} (h0 : so < 16) (h1 : x < 16) (h2 : y < 16) (h3 : z < 16) : ((((so ||| 16 * x) ||| 256 * y) ||| 4096 * z) ||| 65536 * pl) = encC so x y z pl := by
  unfold encC
  have e1 : so ||| 16 * x = so + 16 * x := or_sh (n := 4) h0
  rw [e1]
  have e2 : so + 16 * x ||| 256 * y = so + 16 * x + 256 * y := or_sh (n := 8) (by omega)
  rw [e2]
  have e3 : so + 16 * x + 256 * y ||| 4096 * z = so + 16 * x + 256 * y + 4096 * z := or_sh (n := 12) (by omega)
  rw [e3]
  exact or_sh (n := 16) (by omega)
def itC (c p : Nat) : Nat := c / 2 ^ (4 * p + 4) % 16
theorem it_16 (c p : Nat) : itC c p < 16 := Nat.mod_lt _ (by decide)
theorem enc_s {so x y z pl : Nat} (h0 : so < 16) : encC so x y z pl % 16 = so := by
  unfold encC
  omega
theorem enc_x {so x y z pl : Nat} (h0 : so < 16) (h1 : x < 16) : itC (encC so x y z pl) 0 = x := by
  show encC so x y z pl / 16 % 16 = x
  unfold encC
  omega
theorem enc_y {so x y z pl : Nat} (h0 : so < 16) (h1 : x < 16) (h2 : y < 16) : itC (encC so x y z pl) 1 = y := by
  show encC so x y z pl / 256 % 16 = y
  unfold encC
  omega
theorem enc_z {so x y z pl : Nat} (h0 : so < 16) (h1 : x < 16) (h2 : y < 16) (h3 : z < 16) : itC (encC so x y z pl) 2 = z := by
  show encC so x y z pl / 4096 % 16 = z
  unfold encC
  omega
theorem enc_p {so x y z pl : Nat} (h0 : so < 16) (h1 : x < 16) (h2 : y < 16) (h3 : z < 16) (h4 : pl < 16) : encC so x y z pl / 65536 % 16 = pl := by
  unfold encC
  omega
theorem enc_lt {so x y z pl : Nat} (h0 : so < 16) (h1 : x < 16) (h2 : y < 16) (h3 : z < 16) (h4 : pl < 16) : encC so x y z pl < 1048576 := by
  unfold encC
  omega
theorem c_of {so x y z pl : Nat} {h : PH} (h0 : so < 16) (h1 : x < 16) (h2 : y < 16) (h3 : z < 16) : Call 0 mX0_of [.int (N so), .int (N x), .int (N y), .int (N z), .int (N pl)] h (.inl (some (.int (N (encC so x y z pl))))) h 0 := by
  refine Runs.topI 4 (cs := []) (pc' := 4) (pl' := [some (.int (N so)), some (.int (N x)), some (.int (N y)), some (.int (N z)), some (.int (N pl))]) (v := (N x) <<< (N 4 &&& 31)) (v' := N (16 * x)) (st' := [.int (N so)]) (h' := h) rfl trivial (NHL (by omega) (by omega)) ?_
  refine Runs.topI 1 (cs := []) (pc' := 5) (pl' := [some (.int (N so)), some (.int (N x)), some (.int (N y)), some (.int (N z)), some (.int (N pl))]) (v := (N so) ||| (N (16 * x))) (v' := N (so ||| (16 * x))) (st' := []) (h' := h) rfl trivial (N_or _ _) ?_
  refine Runs.topI 3 (cs := []) (pc' := 9) (pl' := [some (.int (N so)), some (.int (N x)), some (.int (N y)), some (.int (N z)), some (.int (N pl))]) (v := (N y) <<< (N 8 &&& 31)) (v' := N (256 * y)) (st' := [.int (N (so ||| (16 * x)))]) (h' := h) rfl trivial (NHL (by omega) (by omega)) ?_
  refine Runs.topI 1 (cs := []) (pc' := 10) (pl' := [some (.int (N so)), some (.int (N x)), some (.int (N y)), some (.int (N z)), some (.int (N pl))]) (v := (N (so ||| (16 * x))) ||| (N (256 * y))) (v' := N ((so ||| (16 * x)) ||| (256 * y))) (st' := []) (h' := h) rfl trivial (N_or _ _) ?_
  refine Runs.topI 3 (cs := []) (pc' := 14) (pl' := [some (.int (N so)), some (.int (N x)), some (.int (N y)), some (.int (N z)), some (.int (N pl))]) (v := (N z) <<< (N 12 &&& 31)) (v' := N (4096 * z)) (st' := [.int (N ((so ||| (16 * x)) ||| (256 * y)))]) (h' := h) rfl trivial (NHL (by omega) (by omega)) ?_
  refine Runs.topI 1 (cs := []) (pc' := 15) (pl' := [some (.int (N so)), some (.int (N x)), some (.int (N y)), some (.int (N z)), some (.int (N pl))]) (v := (N ((so ||| (16 * x)) ||| (256 * y))) ||| (N (4096 * z))) (v' := N (((so ||| (16 * x)) ||| (256 * y)) ||| (4096 * z))) (st' := []) (h' := h) rfl trivial (N_or _ _) ?_
  refine Runs.topI 3 (cs := []) (pc' := 20) (pl' := [some (.int (N so)), some (.int (N x)), some (.int (N y)), some (.int (N z)), some (.int (N pl))]) (v := (N pl) <<< (N 16 &&& 31)) (v' := N (65536 * pl)) (st' := [.int (N (((so ||| (16 * x)) ||| (256 * y)) ||| (4096 * z)))]) (h' := h) rfl trivial (NHL (by omega) (by omega)) ?_
  refine Runs.topI 1 (cs := []) (pc' := 21) (pl' := [some (.int (N so)), some (.int (N x)), some (.int (N y)), some (.int (N z)), some (.int (N pl))]) (v := (N (((so ||| (16 * x)) ||| (256 * y)) ||| (4096 * z))) ||| (N (65536 * pl))) (v' := N (encC so x y z pl)) (st' := []) (h' := h) rfl trivial ((N_or _ _).trans (congrArg N (enc_or h0 h1 h2 h3))) ?_
  exact Runs.retE (cs := []) rfl trivial (retI rfl) rfl
theorem c_sort {c : Nat} {h : PH} : Call 0 mX0_sort [.int (N c)] h (.inl (some (.int (N (c % 16))))) h 0 := by
  refine Runs.topI 3 (cs := []) (pc' := 4) (pl' := [some (.int (N c))]) (v := (N c) &&& (N 15)) (v' := N (c % 16)) (st' := []) (h' := h) rfl trivial (N_and15 _) ?_
  exact Runs.retE (cs := []) rfl trivial (retI rfl) rfl
theorem c_item {c p : Nat} {h : PH} (hc : c < 1048576) (hp : p < 3) : Call 0 mX0_item [.int (N c), .int (N p)] h (.inl (some (.int (N (itC c p))))) h 0 := by
  refine Runs.topI 5 (cs := []) (pc' := 5) (pl' := [some (.int (N c)), some (.int (N p))]) (v := (N 4) * (N p)) (v' := N (4 * p)) (st' := [.int (N 4), .int (N c)]) (h' := h) rfl trivial (NM (by omega)) ?_
  refine Runs.topI 1 (cs := []) (pc' := 6) (pl' := [some (.int (N c)), some (.int (N p))]) (v := (N 4) + (N (4 * p))) (v' := N (4 * p + 4)) (st' := [.int (N c)]) (h' := h) rfl trivial (NA (by omega)) ?_
  refine Runs.topI 1 (cs := []) (pc' := 7) (pl' := [some (.int (N c)), some (.int (N p))]) (v := (N c) >>> (N (4 * p + 4) &&& 31)) (v' := N (c / 2 ^ (4 * p + 4))) (st' := []) (h' := h) rfl trivial (N_shr (by omega) (by omega)) ?_
  refine Runs.topI 2 (cs := []) (pc' := 10) (pl' := [some (.int (N c)), some (.int (N p))]) (v := (N (c / 2 ^ (4 * p + 4))) &&& (N 15)) (v' := N (itC c p)) (st' := []) (h' := h) rfl trivial (N_and15 _) ?_
  exact Runs.retE (cs := []) rfl trivial (retI rfl) rfl
theorem c_place {c : Nat} {h : PH} (hc : c < 1048576) : Call 0 mX0_place [.int (N c)] h (.inl (some (.int (N (c / 65536 % 16))))) h 0 := by
  refine Runs.topI 3 (cs := []) (pc' := 4) (pl' := [some (.int (N c))]) (v := (N c) >>> (N 16 &&& 31)) (v' := N (c / 65536)) (st' := []) (h' := h) rfl trivial (NHR (by omega) (by omega) rfl) ?_
  refine Runs.topI 2 (cs := []) (pc' := 7) (pl' := [some (.int (N c))]) (v := (N (c / 65536)) &&& (N 15)) (v' := N ((c / 65536) % 16)) (st' := []) (h' := h) rfl trivial (N_and15 _) ?_
  exact Runs.retE (cs := []) rfl trivial (retI rfl) rfl
theorem c_holds_0 {G : Nat → Nat} {x y : Nat} {h : PH} (hG : M16 G) (hzz : Z12 G) (hx : x < 12) (hy : y < 12) : Call 1 mX0_holds [.int (N (encC 0 x y 15 15)), .long (L (pk G))] h (.inl (some (.int (bI (decide (G x = G y)))))) h 0 := by
  have gx := hG x hx
  have gy := hG y hy
  refine Runs.go 3 (cs := []) (pc' := 3) (pl' := [some (.int (N (encC 0 x y 15 15))), some (.long (L (pk G))), none, none, none]) (st' := [.int (N 0), .int (N (encC 0 x y 15 15)), .long (L (pk G))]) (h' := h) rfl trivial ?_
  refine Runs.cal (y := mX0_item) (as := [.int (N (encC 0 x y 15 15)), .int (N 0)]) (rest := [.long (L (pk G))]) (pc' := 6) (cs := []) (v := some (.int (N (itC (encC 0 x y 15 15) 0)))) (h1 := h) rfl trivial (by decide) (c_item (enc_lt (by omega) (by omega) (by omega) (by omega) (by omega)) (by decide)) ?_
  show Runs _ _ 6 _ [.int (N (itC (encC 0 x y 15 15) 0)), .long (L (pk G))] _ _ _ _
  rw [show N (itC (encC 0 x y 15 15) 0) = N x from congrArg N (enc_x (by omega) (by omega))]
  refine Runs.cal (y := mX1_placesOf) (as := [.long (L (pk G)), .int (N x)]) (rest := []) (pc' := 9) (cs := []) (v := some (.int (N (G x)))) (h1 := h) rfl trivial (by decide) (c_placesOf hG hzz (by omega)) ?_
  show Runs _ _ 9 _ [.int (N (G x))] _ _ _ _
  refine Runs.go 4 (cs := []) (pc' := 13) (pl' := [some (.int (N (encC 0 x y 15 15))), some (.long (L (pk G))), none, some (.int (N (G x))), none]) (st' := [.int (N 1), .int (N (encC 0 x y 15 15)), .long (L (pk G))]) (h' := h) rfl trivial ?_
  refine Runs.cal (y := mX0_item) (as := [.int (N (encC 0 x y 15 15)), .int (N 1)]) (rest := [.long (L (pk G))]) (pc' := 16) (cs := []) (v := some (.int (N (itC (encC 0 x y 15 15) 1)))) (h1 := h) rfl trivial (by decide) (c_item (enc_lt (by omega) (by omega) (by omega) (by omega) (by omega)) (by decide)) ?_
  show Runs _ _ 16 _ [.int (N (itC (encC 0 x y 15 15) 1)), .long (L (pk G))] _ _ _ _
  rw [show N (itC (encC 0 x y 15 15) 1) = N y from congrArg N (enc_y (by omega) (by omega) (by omega))]
  refine Runs.cal (y := mX1_placesOf) (as := [.long (L (pk G)), .int (N y)]) (rest := []) (pc' := 19) (cs := []) (v := some (.int (N (G y)))) (h1 := h) rfl trivial (by decide) (c_placesOf hG hzz (by omega)) ?_
  show Runs _ _ 19 _ [.int (N (G y))] _ _ _ _
  refine Runs.go 2 (cs := []) (pc' := 22) (pl' := [some (.int (N (encC 0 x y 15 15))), some (.long (L (pk G))), none, some (.int (N (G x))), some (.int (N (G y)))]) (st' := [.int (N (encC 0 x y 15 15))]) (h' := h) rfl trivial ?_
  refine Runs.cal (y := mX0_sort) (as := [.int (N (encC 0 x y 15 15))]) (rest := []) (pc' := 25) (cs := []) (v := some (.int (N ((encC 0 x y 15 15) % 16)))) (h1 := h) rfl trivial (by decide) (c_sort) ?_
  show Runs _ _ 25 _ [.int (N ((encC 0 x y 15 15) % 16))] _ _ _ _
  rw [show N ((encC 0 x y 15 15) % 16) = N 0 from congrArg N (enc_s (by omega))]
  refine Runs.go 4 (cs := [(0 : Int) ≤ ((25 : Nat) : Int) + (39)]) (pc' := bif decide (¬ (N (G x)) = (N (G y))) then 74 else 70) (pl' := [some (.int (N (encC 0 x y 15 15))), some (.long (L (pk G))), none, some (.int (N (G x))), some (.int (N (G y)))]) (st' := []) (h' := h) rfl ⟨(by decide), trivial⟩ ?_
  refine Runs.br (fun z1 => ?_) (fun z1 => ?_)
  · replace z1 : ¬ (G x = G y) := mt (N_eq (a := G x) (b := G y) (by omega) (by omega)).mpr (of_decide_eq_true z1)
    refine Runs.go 1 (cs := []) (pc' := 75) (pl' := [some (.int (N (encC 0 x y 15 15))), some (.long (L (pk G))), none, some (.int (N (G x))), some (.int (N (G y)))]) (st' := [.int (N 0)]) (h' := h) rfl trivial ?_
    refine Runs.retE (cs := [(N 0 : Int32) = 0 ∨ (N 0 : Int32) = 1]) rfl ⟨Or.inl rfl, trivial⟩ (retI (bIF ?_)) rfl
    first | (exfalso; omega) | (simp [z1]; done) | (simp; omega)
  · replace z1 : G x = G y := (N_eq (a := G x) (b := G y) (by omega) (by omega)).mp (Classical.not_not.mp (of_decide_eq_false z1))
    refine Runs.go 2 (cs := []) (pc' := 75) (pl' := [some (.int (N (encC 0 x y 15 15))), some (.long (L (pk G))), none, some (.int (N (G x))), some (.int (N (G y)))]) (st' := [.int (N 1)]) (h' := h) rfl trivial ?_
    refine Runs.retE (cs := [(N 1 : Int32) = 0 ∨ (N 1 : Int32) = 1]) rfl ⟨Or.inr rfl, trivial⟩ (retI (bIT ?_)) rfl
    first | (exfalso; omega) | (simp [z1]; done) | (simp; omega)
theorem c_holds_1 {G : Nat → Nat} {x y : Nat} {h : PH} (hG : M16 G) (hzz : Z12 G) (hx : x < 12) (hy : y < 12) : Call 1 mX0_holds [.int (N (encC 1 x y 15 15)), .long (L (pk G))] h (.inl (some (.int (bI (!decide (G x = G y)))))) h 0 := by
  have gx := hG x hx
  have gy := hG y hy
  refine Runs.go 3 (cs := []) (pc' := 3) (pl' := [some (.int (N (encC 1 x y 15 15))), some (.long (L (pk G))), none, none, none]) (st' := [.int (N 0), .int (N (encC 1 x y 15 15)), .long (L (pk G))]) (h' := h) rfl trivial ?_
  refine Runs.cal (y := mX0_item) (as := [.int (N (encC 1 x y 15 15)), .int (N 0)]) (rest := [.long (L (pk G))]) (pc' := 6) (cs := []) (v := some (.int (N (itC (encC 1 x y 15 15) 0)))) (h1 := h) rfl trivial (by decide) (c_item (enc_lt (by omega) (by omega) (by omega) (by omega) (by omega)) (by decide)) ?_
  show Runs _ _ 6 _ [.int (N (itC (encC 1 x y 15 15) 0)), .long (L (pk G))] _ _ _ _
  rw [show N (itC (encC 1 x y 15 15) 0) = N x from congrArg N (enc_x (by omega) (by omega))]
  refine Runs.cal (y := mX1_placesOf) (as := [.long (L (pk G)), .int (N x)]) (rest := []) (pc' := 9) (cs := []) (v := some (.int (N (G x)))) (h1 := h) rfl trivial (by decide) (c_placesOf hG hzz (by omega)) ?_
  show Runs _ _ 9 _ [.int (N (G x))] _ _ _ _
  refine Runs.go 4 (cs := []) (pc' := 13) (pl' := [some (.int (N (encC 1 x y 15 15))), some (.long (L (pk G))), none, some (.int (N (G x))), none]) (st' := [.int (N 1), .int (N (encC 1 x y 15 15)), .long (L (pk G))]) (h' := h) rfl trivial ?_
  refine Runs.cal (y := mX0_item) (as := [.int (N (encC 1 x y 15 15)), .int (N 1)]) (rest := [.long (L (pk G))]) (pc' := 16) (cs := []) (v := some (.int (N (itC (encC 1 x y 15 15) 1)))) (h1 := h) rfl trivial (by decide) (c_item (enc_lt (by omega) (by omega) (by omega) (by omega) (by omega)) (by decide)) ?_
  show Runs _ _ 16 _ [.int (N (itC (encC 1 x y 15 15) 1)), .long (L (pk G))] _ _ _ _
  rw [show N (itC (encC 1 x y 15 15) 1) = N y from congrArg N (enc_y (by omega) (by omega) (by omega))]
  refine Runs.cal (y := mX1_placesOf) (as := [.long (L (pk G)), .int (N y)]) (rest := []) (pc' := 19) (cs := []) (v := some (.int (N (G y)))) (h1 := h) rfl trivial (by decide) (c_placesOf hG hzz (by omega)) ?_
  show Runs _ _ 19 _ [.int (N (G y))] _ _ _ _
  refine Runs.go 2 (cs := []) (pc' := 22) (pl' := [some (.int (N (encC 1 x y 15 15))), some (.long (L (pk G))), none, some (.int (N (G x))), some (.int (N (G y)))]) (st' := [.int (N (encC 1 x y 15 15))]) (h' := h) rfl trivial ?_
  refine Runs.cal (y := mX0_sort) (as := [.int (N (encC 1 x y 15 15))]) (rest := []) (pc' := 25) (cs := []) (v := some (.int (N ((encC 1 x y 15 15) % 16)))) (h1 := h) rfl trivial (by decide) (c_sort) ?_
  show Runs _ _ 25 _ [.int (N ((encC 1 x y 15 15) % 16))] _ _ _ _
  rw [show N ((encC 1 x y 15 15) % 16) = N 1 from congrArg N (enc_s (by omega))]
  refine Runs.go 4 (cs := [(0 : Int) ≤ ((25 : Nat) : Int) + (51)]) (pc' := bif decide ((N (G x)) = (N (G y))) then 86 else 82) (pl' := [some (.int (N (encC 1 x y 15 15))), some (.long (L (pk G))), none, some (.int (N (G x))), some (.int (N (G y)))]) (st' := []) (h' := h) rfl ⟨(by decide), trivial⟩ ?_
  refine Runs.br (fun z1 => ?_) (fun z1 => ?_)
  · replace z1 : G x = G y := (N_eq (a := G x) (b := G y) (by omega) (by omega)).mp (of_decide_eq_true z1)
    refine Runs.go 1 (cs := []) (pc' := 87) (pl' := [some (.int (N (encC 1 x y 15 15))), some (.long (L (pk G))), none, some (.int (N (G x))), some (.int (N (G y)))]) (st' := [.int (N 0)]) (h' := h) rfl trivial ?_
    refine Runs.retE (cs := [(N 0 : Int32) = 0 ∨ (N 0 : Int32) = 1]) rfl ⟨Or.inl rfl, trivial⟩ (retI (bIF ?_)) rfl
    first | (exfalso; omega) | (simp [z1]; done) | (simp; omega)
  · replace z1 : ¬ (G x = G y) := mt (N_eq (a := G x) (b := G y) (by omega) (by omega)).mpr (of_decide_eq_false z1)
    refine Runs.go 2 (cs := []) (pc' := 87) (pl' := [some (.int (N (encC 1 x y 15 15))), some (.long (L (pk G))), none, some (.int (N (G x))), some (.int (N (G y)))]) (st' := [.int (N 1)]) (h' := h) rfl trivial ?_
    refine Runs.retE (cs := [(N 1 : Int32) = 0 ∨ (N 1 : Int32) = 1]) rfl ⟨Or.inr rfl, trivial⟩ (retI (bIT ?_)) rfl
    first | (exfalso; omega) | (simp [z1]; done) | (simp; omega)
theorem c_holds_2 {G : Nat → Nat} {x y : Nat} {h : PH} (hG : M16 G) (hzz : Z12 G) (hx : x < 12) (hy : y < 12) : Call 1 mX0_holds [.int (N (encC 2 x y 15 15)), .long (L (pk G))] h (.inl (some (.int (bI (decide (G x < G y)))))) h 0 := by
  have gx := hG x hx
  have gy := hG y hy
  refine Runs.go 3 (cs := []) (pc' := 3) (pl' := [some (.int (N (encC 2 x y 15 15))), some (.long (L (pk G))), none, none, none]) (st' := [.int (N 0), .int (N (encC 2 x y 15 15)), .long (L (pk G))]) (h' := h) rfl trivial ?_
  refine Runs.cal (y := mX0_item) (as := [.int (N (encC 2 x y 15 15)), .int (N 0)]) (rest := [.long (L (pk G))]) (pc' := 6) (cs := []) (v := some (.int (N (itC (encC 2 x y 15 15) 0)))) (h1 := h) rfl trivial (by decide) (c_item (enc_lt (by omega) (by omega) (by omega) (by omega) (by omega)) (by decide)) ?_
  show Runs _ _ 6 _ [.int (N (itC (encC 2 x y 15 15) 0)), .long (L (pk G))] _ _ _ _
  rw [show N (itC (encC 2 x y 15 15) 0) = N x from congrArg N (enc_x (by omega) (by omega))]
  refine Runs.cal (y := mX1_placesOf) (as := [.long (L (pk G)), .int (N x)]) (rest := []) (pc' := 9) (cs := []) (v := some (.int (N (G x)))) (h1 := h) rfl trivial (by decide) (c_placesOf hG hzz (by omega)) ?_
  show Runs _ _ 9 _ [.int (N (G x))] _ _ _ _
  refine Runs.go 4 (cs := []) (pc' := 13) (pl' := [some (.int (N (encC 2 x y 15 15))), some (.long (L (pk G))), none, some (.int (N (G x))), none]) (st' := [.int (N 1), .int (N (encC 2 x y 15 15)), .long (L (pk G))]) (h' := h) rfl trivial ?_
  refine Runs.cal (y := mX0_item) (as := [.int (N (encC 2 x y 15 15)), .int (N 1)]) (rest := [.long (L (pk G))]) (pc' := 16) (cs := []) (v := some (.int (N (itC (encC 2 x y 15 15) 1)))) (h1 := h) rfl trivial (by decide) (c_item (enc_lt (by omega) (by omega) (by omega) (by omega) (by omega)) (by decide)) ?_
  show Runs _ _ 16 _ [.int (N (itC (encC 2 x y 15 15) 1)), .long (L (pk G))] _ _ _ _
  rw [show N (itC (encC 2 x y 15 15) 1) = N y from congrArg N (enc_y (by omega) (by omega) (by omega))]
  refine Runs.cal (y := mX1_placesOf) (as := [.long (L (pk G)), .int (N y)]) (rest := []) (pc' := 19) (cs := []) (v := some (.int (N (G y)))) (h1 := h) rfl trivial (by decide) (c_placesOf hG hzz (by omega)) ?_
  show Runs _ _ 19 _ [.int (N (G y))] _ _ _ _
  refine Runs.go 2 (cs := []) (pc' := 22) (pl' := [some (.int (N (encC 2 x y 15 15))), some (.long (L (pk G))), none, some (.int (N (G x))), some (.int (N (G y)))]) (st' := [.int (N (encC 2 x y 15 15))]) (h' := h) rfl trivial ?_
  refine Runs.cal (y := mX0_sort) (as := [.int (N (encC 2 x y 15 15))]) (rest := []) (pc' := 25) (cs := []) (v := some (.int (N ((encC 2 x y 15 15) % 16)))) (h1 := h) rfl trivial (by decide) (c_sort) ?_
  show Runs _ _ 25 _ [.int (N ((encC 2 x y 15 15) % 16))] _ _ _ _
  rw [show N ((encC 2 x y 15 15) % 16) = N 2 from congrArg N (enc_s (by omega))]
  refine Runs.go 4 (cs := [(0 : Int) ≤ ((25 : Nat) : Int) + (63)]) (pc' := bif decide ((N (G y)) ≤ (N (G x))) then 98 else 94) (pl' := [some (.int (N (encC 2 x y 15 15))), some (.long (L (pk G))), none, some (.int (N (G x))), some (.int (N (G y)))]) (st' := []) (h' := h) rfl ⟨(by decide), trivial⟩ ?_
  refine Runs.br (fun z1 => ?_) (fun z1 => ?_)
  · replace z1 : G y ≤ G x := (N_le (a := G y) (b := G x) (by omega) (by omega)).mp (of_decide_eq_true z1)
    refine Runs.go 1 (cs := []) (pc' := 99) (pl' := [some (.int (N (encC 2 x y 15 15))), some (.long (L (pk G))), none, some (.int (N (G x))), some (.int (N (G y)))]) (st' := [.int (N 0)]) (h' := h) rfl trivial ?_
    refine Runs.retE (cs := [(N 0 : Int32) = 0 ∨ (N 0 : Int32) = 1]) rfl ⟨Or.inl rfl, trivial⟩ (retI (bIF ?_)) rfl
    first | (exfalso; omega) | (simp [z1]; done) | (simp; omega)
  · replace z1 : ¬ (G y ≤ G x) := mt (N_le (a := G y) (b := G x) (by omega) (by omega)).mpr (of_decide_eq_false z1)
    refine Runs.go 2 (cs := []) (pc' := 99) (pl' := [some (.int (N (encC 2 x y 15 15))), some (.long (L (pk G))), none, some (.int (N (G x))), some (.int (N (G y)))]) (st' := [.int (N 1)]) (h' := h) rfl trivial ?_
    refine Runs.retE (cs := [(N 1 : Int32) = 0 ∨ (N 1 : Int32) = 1]) rfl ⟨Or.inr rfl, trivial⟩ (retI (bIT ?_)) rfl
    first | (exfalso; omega) | (simp [z1]; done) | (simp; omega)
theorem c_holds_3 {G : Nat → Nat} {x y : Nat} {h : PH} (hG : M16 G) (hzz : Z12 G) (hx : x < 12) (hy : y < 12) : Call 1 mX0_holds [.int (N (encC 3 x y 15 15)), .long (L (pk G))] h (.inl (some (.int (bI (decide (G x = 2 * G y) || decide (G y = 2 * G x)))))) h 0 := by
  have gx := hG x hx
  have gy := hG y hy
  refine Runs.go 3 (cs := []) (pc' := 3) (pl' := [some (.int (N (encC 3 x y 15 15))), some (.long (L (pk G))), none, none, none]) (st' := [.int (N 0), .int (N (encC 3 x y 15 15)), .long (L (pk G))]) (h' := h) rfl trivial ?_
  refine Runs.cal (y := mX0_item) (as := [.int (N (encC 3 x y 15 15)), .int (N 0)]) (rest := [.long (L (pk G))]) (pc' := 6) (cs := []) (v := some (.int (N (itC (encC 3 x y 15 15) 0)))) (h1 := h) rfl trivial (by decide) (c_item (enc_lt (by omega) (by omega) (by omega) (by omega) (by omega)) (by decide)) ?_
  show Runs _ _ 6 _ [.int (N (itC (encC 3 x y 15 15) 0)), .long (L (pk G))] _ _ _ _
  rw [show N (itC (encC 3 x y 15 15) 0) = N x from congrArg N (enc_x (by omega) (by omega))]
  refine Runs.cal (y := mX1_placesOf) (as := [.long (L (pk G)), .int (N x)]) (rest := []) (pc' := 9) (cs := []) (v := some (.int (N (G x)))) (h1 := h) rfl trivial (by decide) (c_placesOf hG hzz (by omega)) ?_
  show Runs _ _ 9 _ [.int (N (G x))] _ _ _ _
  refine Runs.go 4 (cs := []) (pc' := 13) (pl' := [some (.int (N (encC 3 x y 15 15))), some (.long (L (pk G))), none, some (.int (N (G x))), none]) (st' := [.int (N 1), .int (N (encC 3 x y 15 15)), .long (L (pk G))]) (h' := h) rfl trivial ?_
  refine Runs.cal (y := mX0_item) (as := [.int (N (encC 3 x y 15 15)), .int (N 1)]) (rest := [.long (L (pk G))]) (pc' := 16) (cs := []) (v := some (.int (N (itC (encC 3 x y 15 15) 1)))) (h1 := h) rfl trivial (by decide) (c_item (enc_lt (by omega) (by omega) (by omega) (by omega) (by omega)) (by decide)) ?_
  show Runs _ _ 16 _ [.int (N (itC (encC 3 x y 15 15) 1)), .long (L (pk G))] _ _ _ _
  rw [show N (itC (encC 3 x y 15 15) 1) = N y from congrArg N (enc_y (by omega) (by omega) (by omega))]
  refine Runs.cal (y := mX1_placesOf) (as := [.long (L (pk G)), .int (N y)]) (rest := []) (pc' := 19) (cs := []) (v := some (.int (N (G y)))) (h1 := h) rfl trivial (by decide) (c_placesOf hG hzz (by omega)) ?_
  show Runs _ _ 19 _ [.int (N (G y))] _ _ _ _
  refine Runs.go 2 (cs := []) (pc' := 22) (pl' := [some (.int (N (encC 3 x y 15 15))), some (.long (L (pk G))), none, some (.int (N (G x))), some (.int (N (G y)))]) (st' := [.int (N (encC 3 x y 15 15))]) (h' := h) rfl trivial ?_
  refine Runs.cal (y := mX0_sort) (as := [.int (N (encC 3 x y 15 15))]) (rest := []) (pc' := 25) (cs := []) (v := some (.int (N ((encC 3 x y 15 15) % 16)))) (h1 := h) rfl trivial (by decide) (c_sort) ?_
  show Runs _ _ 25 _ [.int (N ((encC 3 x y 15 15) % 16))] _ _ _ _
  rw [show N ((encC 3 x y 15 15) % 16) = N 3 from congrArg N (enc_s (by omega))]
  refine Runs.topI 5 (cs := [(0 : Int) ≤ ((25 : Nat) : Int) + (75)]) (pc' := 105) (pl' := [some (.int (N (encC 3 x y 15 15))), some (.long (L (pk G))), none, some (.int (N (G x))), some (.int (N (G y)))]) (v := (N (G y)) <<< (N 1 &&& 31)) (v' := N (2 * (G y))) (st' := [.int (N (G x))]) (h' := h) rfl ⟨(by decide), trivial⟩ (NHL (by omega) (by omega)) ?_
  refine Runs.go 1 (cs := []) (pc' := bif decide ((N (G x)) = (N (2 * (G y)))) then 116 else 108) (pl' := [some (.int (N (encC 3 x y 15 15))), some (.long (L (pk G))), none, some (.int (N (G x))), some (.int (N (G y)))]) (st' := []) (h' := h) rfl trivial ?_
  refine Runs.br (fun z1 => ?_) (fun z1 => ?_)
  · replace z1 : G x = 2 * (G y) := (N_eq (a := G x) (b := 2 * (G y)) (by omega) (by omega)).mp (of_decide_eq_true z1)
    refine Runs.go 2 (cs := []) (pc' := 121) (pl' := [some (.int (N (encC 3 x y 15 15))), some (.long (L (pk G))), none, some (.int (N (G x))), some (.int (N (G y)))]) (st' := [.int (N 1)]) (h' := h) rfl trivial ?_
    refine Runs.retE (cs := [(N 1 : Int32) = 0 ∨ (N 1 : Int32) = 1]) rfl ⟨Or.inr rfl, trivial⟩ (retI (bIT ?_)) rfl
    first | (exfalso; omega) | (simp [z1]; done) | (simp; omega)
  · replace z1 : ¬ (G x = 2 * (G y)) := mt (N_eq (a := G x) (b := 2 * (G y)) (by omega) (by omega)).mpr (of_decide_eq_false z1)
    refine Runs.topI 4 (cs := []) (pc' := 113) (pl' := [some (.int (N (encC 3 x y 15 15))), some (.long (L (pk G))), none, some (.int (N (G x))), some (.int (N (G y)))]) (v := (N (G x)) <<< (N 1 &&& 31)) (v' := N (2 * (G x))) (st' := [.int (N (G y))]) (h' := h) rfl trivial (NHL (by omega) (by omega)) ?_
    refine Runs.go 1 (cs := []) (pc' := bif decide (¬ (N (G y)) = (N (2 * (G x)))) then 120 else 116) (pl' := [some (.int (N (encC 3 x y 15 15))), some (.long (L (pk G))), none, some (.int (N (G x))), some (.int (N (G y)))]) (st' := []) (h' := h) rfl trivial ?_
    refine Runs.br (fun z2 => ?_) (fun z2 => ?_)
    · replace z2 : ¬ (G y = 2 * (G x)) := mt (N_eq (a := G y) (b := 2 * (G x)) (by omega) (by omega)).mpr (of_decide_eq_true z2)
      refine Runs.go 1 (cs := []) (pc' := 121) (pl' := [some (.int (N (encC 3 x y 15 15))), some (.long (L (pk G))), none, some (.int (N (G x))), some (.int (N (G y)))]) (st' := [.int (N 0)]) (h' := h) rfl trivial ?_
      refine Runs.retE (cs := [(N 0 : Int32) = 0 ∨ (N 0 : Int32) = 1]) rfl ⟨Or.inl rfl, trivial⟩ (retI (bIF ?_)) rfl
      first | (exfalso; omega) | (simp [z1, z2]; done) | (simp; omega)
    · replace z2 : G y = 2 * (G x) := (N_eq (a := G y) (b := 2 * (G x)) (by omega) (by omega)).mp (Classical.not_not.mp (of_decide_eq_false z2))
      refine Runs.go 2 (cs := []) (pc' := 121) (pl' := [some (.int (N (encC 3 x y 15 15))), some (.long (L (pk G))), none, some (.int (N (G x))), some (.int (N (G y)))]) (st' := [.int (N 1)]) (h' := h) rfl trivial ?_
      refine Runs.retE (cs := [(N 1 : Int32) = 0 ∨ (N 1 : Int32) = 1]) rfl ⟨Or.inr rfl, trivial⟩ (retI (bIT ?_)) rfl
      first | (exfalso; omega) | (simp [z1, z2]; done) | (simp; omega)
theorem c_holds_4 {G : Nat → Nat} {x p : Nat} {h : PH} (hG : M16 G) (hzz : Z12 G) (hx : x < 12) (hp : p < 4) : Call 1 mX0_holds [.int (N (encC 4 x 15 15 p)), .long (L (pk G))] h (.inl (some (.int (bI (decide (G x = 2 ^ p)))))) h 0 := by
  have gx := hG x hx
  have hpp := p2_lt hp
  refine Runs.go 3 (cs := []) (pc' := 3) (pl' := [some (.int (N (encC 4 x 15 15 p))), some (.long (L (pk G))), none, none, none]) (st' := [.int (N 0), .int (N (encC 4 x 15 15 p)), .long (L (pk G))]) (h' := h) rfl trivial ?_
  refine Runs.cal (y := mX0_item) (as := [.int (N (encC 4 x 15 15 p)), .int (N 0)]) (rest := [.long (L (pk G))]) (pc' := 6) (cs := []) (v := some (.int (N (itC (encC 4 x 15 15 p) 0)))) (h1 := h) rfl trivial (by decide) (c_item (enc_lt (by omega) (by omega) (by omega) (by omega) (by omega)) (by decide)) ?_
  show Runs _ _ 6 _ [.int (N (itC (encC 4 x 15 15 p) 0)), .long (L (pk G))] _ _ _ _
  rw [show N (itC (encC 4 x 15 15 p) 0) = N x from congrArg N (enc_x (by omega) (by omega))]
  refine Runs.cal (y := mX1_placesOf) (as := [.long (L (pk G)), .int (N x)]) (rest := []) (pc' := 9) (cs := []) (v := some (.int (N (G x)))) (h1 := h) rfl trivial (by decide) (c_placesOf hG hzz (by omega)) ?_
  show Runs _ _ 9 _ [.int (N (G x))] _ _ _ _
  refine Runs.go 4 (cs := []) (pc' := 13) (pl' := [some (.int (N (encC 4 x 15 15 p))), some (.long (L (pk G))), none, some (.int (N (G x))), none]) (st' := [.int (N 1), .int (N (encC 4 x 15 15 p)), .long (L (pk G))]) (h' := h) rfl trivial ?_
  refine Runs.cal (y := mX0_item) (as := [.int (N (encC 4 x 15 15 p)), .int (N 1)]) (rest := [.long (L (pk G))]) (pc' := 16) (cs := []) (v := some (.int (N (itC (encC 4 x 15 15 p) 1)))) (h1 := h) rfl trivial (by decide) (c_item (enc_lt (by omega) (by omega) (by omega) (by omega) (by omega)) (by decide)) ?_
  show Runs _ _ 16 _ [.int (N (itC (encC 4 x 15 15 p) 1)), .long (L (pk G))] _ _ _ _
  rw [show N (itC (encC 4 x 15 15 p) 1) = N 15 from congrArg N (enc_y (by omega) (by omega) (by omega))]
  refine Runs.cal (y := mX1_placesOf) (as := [.long (L (pk G)), .int (N 15)]) (rest := []) (pc' := 19) (cs := []) (v := some (.int (N (G 15)))) (h1 := h) rfl trivial (by decide) (c_placesOf hG hzz (by omega)) ?_
  show Runs _ _ 19 _ [.int (N (G 15))] _ _ _ _
  refine Runs.go 2 (cs := []) (pc' := 22) (pl' := [some (.int (N (encC 4 x 15 15 p))), some (.long (L (pk G))), none, some (.int (N (G x))), some (.int (N (G 15)))]) (st' := [.int (N (encC 4 x 15 15 p))]) (h' := h) rfl trivial ?_
  refine Runs.cal (y := mX0_sort) (as := [.int (N (encC 4 x 15 15 p))]) (rest := []) (pc' := 25) (cs := []) (v := some (.int (N ((encC 4 x 15 15 p) % 16)))) (h1 := h) rfl trivial (by decide) (c_sort) ?_
  show Runs _ _ 25 _ [.int (N ((encC 4 x 15 15 p) % 16))] _ _ _ _
  rw [show N ((encC 4 x 15 15 p) % 16) = N 4 from congrArg N (enc_s (by omega))]
  refine Runs.go 4 (cs := [(0 : Int) ≤ ((25 : Nat) : Int) + (97)]) (pc' := 125) (pl' := [some (.int (N (encC 4 x 15 15 p))), some (.long (L (pk G))), none, some (.int (N (G x))), some (.int (N (G 15)))]) (st' := [.int (N (encC 4 x 15 15 p)), .int (N 1), .int (N (G x))]) (h' := h) rfl ⟨(by decide), trivial⟩ ?_
  refine Runs.cal (y := mX0_place) (as := [.int (N (encC 4 x 15 15 p))]) (rest := [.int (N 1), .int (N (G x))]) (pc' := 128) (cs := []) (v := some (.int (N ((encC 4 x 15 15 p) / 65536 % 16)))) (h1 := h) rfl trivial (by decide) (c_place (enc_lt (by omega) (by omega) (by omega) (by omega) (by omega))) ?_
  show Runs _ _ 128 _ [.int (N ((encC 4 x 15 15 p) / 65536 % 16)), .int (N 1), .int (N (G x))] _ _ _ _
  rw [show N ((encC 4 x 15 15 p) / 65536 % 16) = N p from congrArg N (enc_p (by omega) (by omega) (by omega) (by omega) (by omega))]
  refine Runs.topI 1 (cs := []) (pc' := 129) (pl' := [some (.int (N (encC 4 x 15 15 p))), some (.long (L (pk G))), none, some (.int (N (G x))), some (.int (N (G 15)))]) (v := (N 1) <<< (N p &&& 31)) (v' := N (2 ^ p)) (st' := [.int (N (G x))]) (h' := h) rfl trivial (NHL (by omega) (Nat.one_mul _)) ?_
  refine Runs.go 1 (cs := []) (pc' := bif decide (¬ (N (G x)) = (N (2 ^ p))) then 136 else 132) (pl' := [some (.int (N (encC 4 x 15 15 p))), some (.long (L (pk G))), none, some (.int (N (G x))), some (.int (N (G 15)))]) (st' := []) (h' := h) rfl trivial ?_
  refine Runs.br (fun z1 => ?_) (fun z1 => ?_)
  · replace z1 : ¬ (G x = 2 ^ p) := mt (N_eq (a := G x) (b := 2 ^ p) (by omega) (by omega)).mpr (of_decide_eq_true z1)
    refine Runs.go 1 (cs := []) (pc' := 137) (pl' := [some (.int (N (encC 4 x 15 15 p))), some (.long (L (pk G))), none, some (.int (N (G x))), some (.int (N (G 15)))]) (st' := [.int (N 0)]) (h' := h) rfl trivial ?_
    refine Runs.retE (cs := [(N 0 : Int32) = 0 ∨ (N 0 : Int32) = 1]) rfl ⟨Or.inl rfl, trivial⟩ (retI (bIF ?_)) rfl
    first | (exfalso; omega) | (simp [z1]; done) | (simp; omega)
  · replace z1 : G x = 2 ^ p := (N_eq (a := G x) (b := 2 ^ p) (by omega) (by omega)).mp (Classical.not_not.mp (of_decide_eq_false z1))
    refine Runs.go 2 (cs := []) (pc' := 137) (pl' := [some (.int (N (encC 4 x 15 15 p))), some (.long (L (pk G))), none, some (.int (N (G x))), some (.int (N (G 15)))]) (st' := [.int (N 1)]) (h' := h) rfl trivial ?_
    refine Runs.retE (cs := [(N 1 : Int32) = 0 ∨ (N 1 : Int32) = 1]) rfl ⟨Or.inr rfl, trivial⟩ (retI (bIT ?_)) rfl
    first | (exfalso; omega) | (simp [z1]; done) | (simp; omega)
theorem c_holds_5 {G : Nat → Nat} {x p : Nat} {h : PH} (hG : M16 G) (hzz : Z12 G) (hx : x < 12) (hp : p < 4) : Call 1 mX0_holds [.int (N (encC 5 x 15 15 p)), .long (L (pk G))] h (.inl (some (.int (bI (!decide (G x = 2 ^ p)))))) h 0 := by
  have gx := hG x hx
  have hpp := p2_lt hp
  refine Runs.go 3 (cs := []) (pc' := 3) (pl' := [some (.int (N (encC 5 x 15 15 p))), some (.long (L (pk G))), none, none, none]) (st' := [.int (N 0), .int (N (encC 5 x 15 15 p)), .long (L (pk G))]) (h' := h) rfl trivial ?_
  refine Runs.cal (y := mX0_item) (as := [.int (N (encC 5 x 15 15 p)), .int (N 0)]) (rest := [.long (L (pk G))]) (pc' := 6) (cs := []) (v := some (.int (N (itC (encC 5 x 15 15 p) 0)))) (h1 := h) rfl trivial (by decide) (c_item (enc_lt (by omega) (by omega) (by omega) (by omega) (by omega)) (by decide)) ?_
  show Runs _ _ 6 _ [.int (N (itC (encC 5 x 15 15 p) 0)), .long (L (pk G))] _ _ _ _
  rw [show N (itC (encC 5 x 15 15 p) 0) = N x from congrArg N (enc_x (by omega) (by omega))]
  refine Runs.cal (y := mX1_placesOf) (as := [.long (L (pk G)), .int (N x)]) (rest := []) (pc' := 9) (cs := []) (v := some (.int (N (G x)))) (h1 := h) rfl trivial (by decide) (c_placesOf hG hzz (by omega)) ?_
  show Runs _ _ 9 _ [.int (N (G x))] _ _ _ _
  refine Runs.go 4 (cs := []) (pc' := 13) (pl' := [some (.int (N (encC 5 x 15 15 p))), some (.long (L (pk G))), none, some (.int (N (G x))), none]) (st' := [.int (N 1), .int (N (encC 5 x 15 15 p)), .long (L (pk G))]) (h' := h) rfl trivial ?_
  refine Runs.cal (y := mX0_item) (as := [.int (N (encC 5 x 15 15 p)), .int (N 1)]) (rest := [.long (L (pk G))]) (pc' := 16) (cs := []) (v := some (.int (N (itC (encC 5 x 15 15 p) 1)))) (h1 := h) rfl trivial (by decide) (c_item (enc_lt (by omega) (by omega) (by omega) (by omega) (by omega)) (by decide)) ?_
  show Runs _ _ 16 _ [.int (N (itC (encC 5 x 15 15 p) 1)), .long (L (pk G))] _ _ _ _
  rw [show N (itC (encC 5 x 15 15 p) 1) = N 15 from congrArg N (enc_y (by omega) (by omega) (by omega))]
  refine Runs.cal (y := mX1_placesOf) (as := [.long (L (pk G)), .int (N 15)]) (rest := []) (pc' := 19) (cs := []) (v := some (.int (N (G 15)))) (h1 := h) rfl trivial (by decide) (c_placesOf hG hzz (by omega)) ?_
  show Runs _ _ 19 _ [.int (N (G 15))] _ _ _ _
  refine Runs.go 2 (cs := []) (pc' := 22) (pl' := [some (.int (N (encC 5 x 15 15 p))), some (.long (L (pk G))), none, some (.int (N (G x))), some (.int (N (G 15)))]) (st' := [.int (N (encC 5 x 15 15 p))]) (h' := h) rfl trivial ?_
  refine Runs.cal (y := mX0_sort) (as := [.int (N (encC 5 x 15 15 p))]) (rest := []) (pc' := 25) (cs := []) (v := some (.int (N ((encC 5 x 15 15 p) % 16)))) (h1 := h) rfl trivial (by decide) (c_sort) ?_
  show Runs _ _ 25 _ [.int (N ((encC 5 x 15 15 p) % 16))] _ _ _ _
  rw [show N ((encC 5 x 15 15 p) % 16) = N 5 from congrArg N (enc_s (by omega))]
  refine Runs.go 4 (cs := [(0 : Int) ≤ ((25 : Nat) : Int) + (113)]) (pc' := 141) (pl' := [some (.int (N (encC 5 x 15 15 p))), some (.long (L (pk G))), none, some (.int (N (G x))), some (.int (N (G 15)))]) (st' := [.int (N (encC 5 x 15 15 p)), .int (N 1), .int (N (G x))]) (h' := h) rfl ⟨(by decide), trivial⟩ ?_
  refine Runs.cal (y := mX0_place) (as := [.int (N (encC 5 x 15 15 p))]) (rest := [.int (N 1), .int (N (G x))]) (pc' := 144) (cs := []) (v := some (.int (N ((encC 5 x 15 15 p) / 65536 % 16)))) (h1 := h) rfl trivial (by decide) (c_place (enc_lt (by omega) (by omega) (by omega) (by omega) (by omega))) ?_
  show Runs _ _ 144 _ [.int (N ((encC 5 x 15 15 p) / 65536 % 16)), .int (N 1), .int (N (G x))] _ _ _ _
  rw [show N ((encC 5 x 15 15 p) / 65536 % 16) = N p from congrArg N (enc_p (by omega) (by omega) (by omega) (by omega) (by omega))]
  refine Runs.topI 1 (cs := []) (pc' := 145) (pl' := [some (.int (N (encC 5 x 15 15 p))), some (.long (L (pk G))), none, some (.int (N (G x))), some (.int (N (G 15)))]) (v := (N 1) <<< (N p &&& 31)) (v' := N (2 ^ p)) (st' := [.int (N (G x))]) (h' := h) rfl trivial (NHL (by omega) (Nat.one_mul _)) ?_
  refine Runs.go 1 (cs := []) (pc' := bif decide ((N (G x)) = (N (2 ^ p))) then 152 else 148) (pl' := [some (.int (N (encC 5 x 15 15 p))), some (.long (L (pk G))), none, some (.int (N (G x))), some (.int (N (G 15)))]) (st' := []) (h' := h) rfl trivial ?_
  refine Runs.br (fun z1 => ?_) (fun z1 => ?_)
  · replace z1 : G x = 2 ^ p := (N_eq (a := G x) (b := 2 ^ p) (by omega) (by omega)).mp (of_decide_eq_true z1)
    refine Runs.go 1 (cs := []) (pc' := 153) (pl' := [some (.int (N (encC 5 x 15 15 p))), some (.long (L (pk G))), none, some (.int (N (G x))), some (.int (N (G 15)))]) (st' := [.int (N 0)]) (h' := h) rfl trivial ?_
    refine Runs.retE (cs := [(N 0 : Int32) = 0 ∨ (N 0 : Int32) = 1]) rfl ⟨Or.inl rfl, trivial⟩ (retI (bIF ?_)) rfl
    first | (exfalso; omega) | (simp [z1]; done) | (simp; omega)
  · replace z1 : ¬ (G x = 2 ^ p) := mt (N_eq (a := G x) (b := 2 ^ p) (by omega) (by omega)).mpr (of_decide_eq_false z1)
    refine Runs.go 2 (cs := []) (pc' := 153) (pl' := [some (.int (N (encC 5 x 15 15 p))), some (.long (L (pk G))), none, some (.int (N (G x))), some (.int (N (G 15)))]) (st' := [.int (N 1)]) (h' := h) rfl trivial ?_
    refine Runs.retE (cs := [(N 1 : Int32) = 0 ∨ (N 1 : Int32) = 1]) rfl ⟨Or.inr rfl, trivial⟩ (retI (bIT ?_)) rfl
    first | (exfalso; omega) | (simp [z1]; done) | (simp; omega)
theorem c_holds_6 {G : Nat → Nat} {x y z : Nat} {h : PH} (hG : M16 G) (hzz : Z12 G) (hx : x < 12) (hy : y < 12) (hz : z < 12) : Call 1 mX0_holds [.int (N (encC 6 x y z 15)), .long (L (pk G))] h (.inl (some (.int (bI (decide (G x = G y) || decide (G x = G z)))))) h 0 := by
  have gx := hG x hx
  have gy := hG y hy
  have gz := hG z hz
  refine Runs.go 3 (cs := []) (pc' := 3) (pl' := [some (.int (N (encC 6 x y z 15))), some (.long (L (pk G))), none, none, none]) (st' := [.int (N 0), .int (N (encC 6 x y z 15)), .long (L (pk G))]) (h' := h) rfl trivial ?_
  refine Runs.cal (y := mX0_item) (as := [.int (N (encC 6 x y z 15)), .int (N 0)]) (rest := [.long (L (pk G))]) (pc' := 6) (cs := []) (v := some (.int (N (itC (encC 6 x y z 15) 0)))) (h1 := h) rfl trivial (by decide) (c_item (enc_lt (by omega) (by omega) (by omega) (by omega) (by omega)) (by decide)) ?_
  show Runs _ _ 6 _ [.int (N (itC (encC 6 x y z 15) 0)), .long (L (pk G))] _ _ _ _
  rw [show N (itC (encC 6 x y z 15) 0) = N x from congrArg N (enc_x (by omega) (by omega))]
  refine Runs.cal (y := mX1_placesOf) (as := [.long (L (pk G)), .int (N x)]) (rest := []) (pc' := 9) (cs := []) (v := some (.int (N (G x)))) (h1 := h) rfl trivial (by decide) (c_placesOf hG hzz (by omega)) ?_
  show Runs _ _ 9 _ [.int (N (G x))] _ _ _ _
  refine Runs.go 4 (cs := []) (pc' := 13) (pl' := [some (.int (N (encC 6 x y z 15))), some (.long (L (pk G))), none, some (.int (N (G x))), none]) (st' := [.int (N 1), .int (N (encC 6 x y z 15)), .long (L (pk G))]) (h' := h) rfl trivial ?_
  refine Runs.cal (y := mX0_item) (as := [.int (N (encC 6 x y z 15)), .int (N 1)]) (rest := [.long (L (pk G))]) (pc' := 16) (cs := []) (v := some (.int (N (itC (encC 6 x y z 15) 1)))) (h1 := h) rfl trivial (by decide) (c_item (enc_lt (by omega) (by omega) (by omega) (by omega) (by omega)) (by decide)) ?_
  show Runs _ _ 16 _ [.int (N (itC (encC 6 x y z 15) 1)), .long (L (pk G))] _ _ _ _
  rw [show N (itC (encC 6 x y z 15) 1) = N y from congrArg N (enc_y (by omega) (by omega) (by omega))]
  refine Runs.cal (y := mX1_placesOf) (as := [.long (L (pk G)), .int (N y)]) (rest := []) (pc' := 19) (cs := []) (v := some (.int (N (G y)))) (h1 := h) rfl trivial (by decide) (c_placesOf hG hzz (by omega)) ?_
  show Runs _ _ 19 _ [.int (N (G y))] _ _ _ _
  refine Runs.go 2 (cs := []) (pc' := 22) (pl' := [some (.int (N (encC 6 x y z 15))), some (.long (L (pk G))), none, some (.int (N (G x))), some (.int (N (G y)))]) (st' := [.int (N (encC 6 x y z 15))]) (h' := h) rfl trivial ?_
  refine Runs.cal (y := mX0_sort) (as := [.int (N (encC 6 x y z 15))]) (rest := []) (pc' := 25) (cs := []) (v := some (.int (N ((encC 6 x y z 15) % 16)))) (h1 := h) rfl trivial (by decide) (c_sort) ?_
  show Runs _ _ 25 _ [.int (N ((encC 6 x y z 15) % 16))] _ _ _ _
  rw [show N ((encC 6 x y z 15) % 16) = N 6 from congrArg N (enc_s (by omega))]
  refine Runs.go 4 (cs := [(0 : Int) ≤ ((25 : Nat) : Int) + (129)]) (pc' := bif decide ((N (G x)) = (N (G y))) then 173 else 160) (pl' := [some (.int (N (encC 6 x y z 15))), some (.long (L (pk G))), none, some (.int (N (G x))), some (.int (N (G y)))]) (st' := []) (h' := h) rfl ⟨(by decide), trivial⟩ ?_
  refine Runs.br (fun z1 => ?_) (fun z1 => ?_)
  · replace z1 : G x = G y := (N_eq (a := G x) (b := G y) (by omega) (by omega)).mp (of_decide_eq_true z1)
    refine Runs.go 2 (cs := []) (pc' := 178) (pl' := [some (.int (N (encC 6 x y z 15))), some (.long (L (pk G))), none, some (.int (N (G x))), some (.int (N (G y)))]) (st' := [.int (N 1)]) (h' := h) rfl trivial ?_
    refine Runs.retE (cs := [(N 1 : Int32) = 0 ∨ (N 1 : Int32) = 1]) rfl ⟨Or.inr rfl, trivial⟩ (retI (bIT ?_)) rfl
    first | (exfalso; omega) | (simp [z1]; done) | (simp; omega)
  · replace z1 : ¬ (G x = G y) := mt (N_eq (a := G x) (b := G y) (by omega) (by omega)).mpr (of_decide_eq_false z1)
    refine Runs.go 4 (cs := []) (pc' := 164) (pl' := [some (.int (N (encC 6 x y z 15))), some (.long (L (pk G))), none, some (.int (N (G x))), some (.int (N (G y)))]) (st' := [.int (N 2), .int (N (encC 6 x y z 15)), .long (L (pk G)), .int (N (G x))]) (h' := h) rfl trivial ?_
    refine Runs.cal (y := mX0_item) (as := [.int (N (encC 6 x y z 15)), .int (N 2)]) (rest := [.long (L (pk G)), .int (N (G x))]) (pc' := 167) (cs := []) (v := some (.int (N (itC (encC 6 x y z 15) 2)))) (h1 := h) rfl trivial (by decide) (c_item (enc_lt (by omega) (by omega) (by omega) (by omega) (by omega)) (by decide)) ?_
    show Runs _ _ 167 _ [.int (N (itC (encC 6 x y z 15) 2)), .long (L (pk G)), .int (N (G x))] _ _ _ _
    rw [show N (itC (encC 6 x y z 15) 2) = N z from congrArg N (enc_z (by omega) (by omega) (by omega) (by omega))]
    refine Runs.cal (y := mX1_placesOf) (as := [.long (L (pk G)), .int (N z)]) (rest := [.int (N (G x))]) (pc' := 170) (cs := []) (v := some (.int (N (G z)))) (h1 := h) rfl trivial (by decide) (c_placesOf hG hzz (by omega)) ?_
    show Runs _ _ 170 _ [.int (N (G z)), .int (N (G x))] _ _ _ _
    refine Runs.go 1 (cs := []) (pc' := bif decide (¬ (N (G x)) = (N (G z))) then 177 else 173) (pl' := [some (.int (N (encC 6 x y z 15))), some (.long (L (pk G))), none, some (.int (N (G x))), some (.int (N (G y)))]) (st' := []) (h' := h) rfl trivial ?_
    refine Runs.br (fun z2 => ?_) (fun z2 => ?_)
    · replace z2 : ¬ (G x = G z) := mt (N_eq (a := G x) (b := G z) (by omega) (by omega)).mpr (of_decide_eq_true z2)
      refine Runs.go 1 (cs := []) (pc' := 178) (pl' := [some (.int (N (encC 6 x y z 15))), some (.long (L (pk G))), none, some (.int (N (G x))), some (.int (N (G y)))]) (st' := [.int (N 0)]) (h' := h) rfl trivial ?_
      refine Runs.retE (cs := [(N 0 : Int32) = 0 ∨ (N 0 : Int32) = 1]) rfl ⟨Or.inl rfl, trivial⟩ (retI (bIF ?_)) rfl
      first | (exfalso; omega) | (simp [z1, z2]; done) | (simp; omega)
    · replace z2 : G x = G z := (N_eq (a := G x) (b := G z) (by omega) (by omega)).mp (Classical.not_not.mp (of_decide_eq_false z2))
      refine Runs.go 2 (cs := []) (pc' := 178) (pl' := [some (.int (N (encC 6 x y z 15))), some (.long (L (pk G))), none, some (.int (N (G x))), some (.int (N (G y)))]) (st' := [.int (N 1)]) (h' := h) rfl trivial ?_
      refine Runs.retE (cs := [(N 1 : Int32) = 0 ∨ (N 1 : Int32) = 1]) rfl ⟨Or.inr rfl, trivial⟩ (retI (bIT ?_)) rfl
      first | (exfalso; omega) | (simp [z1, z2]; done) | (simp; omega)
def elsF (m : Nat) : Nat := if 2 ≤ pc4 m then 15 else if m = 0 then 0 else dif 15 m
theorem els_1 : ∀ m, m < 16 → ¬ (N m &&& (N m - N 1)) = 0 → elsF m = 15 := by decide +kernel
theorem els_2 : ∀ m, m < 16 → (N m &&& (N m - N 1)) = 0 → m = 0 → elsF m = 0 := by decide +kernel
theorem els_3 : ∀ m, m < 16 → (N m &&& (N m - N 1)) = 0 → ¬ m = 0 → elsF m = dif 15 m := by decide +kernel
theorem c_elsewhere {m : Nat} {h : PH} (hm : m < 16) : Call 0 mX0_elsewhere [.int (N m)] h (.inl (some (.int (N (elsF m))))) h 0 := by
  refine Runs.topI 4 (cs := []) (pc' := 4) (pl' := [some (.int (N m))]) (v := (N m) - (N 1)) (v' := N m - N 1) (st' := [.int (N m)]) (h' := h) rfl trivial rfl ?_
  refine Runs.go 2 (cs := []) (pc' := bif decide (((N m) &&& (N m - N 1)) = 0) then 11 else 8) (pl' := [some (.int (N m))]) (st' := []) (h' := h) rfl trivial ?_
  refine Runs.br (fun z1 => ?_) (fun z1 => ?_)
  · replace z1 : ((N m) &&& (N m - N 1)) = 0 := Iff.rfl.mp (of_decide_eq_true z1)
    refine Runs.go 2 (cs := []) (pc' := bif decide (¬ (N m) = 0) then 19 else 15) (pl' := [some (.int (N m))]) (st' := []) (h' := h) rfl trivial ?_
    refine Runs.br (fun z2 => ?_) (fun z2 => ?_)
    · replace z2 : ¬ (m = 0) := mt (N_eq (a := m) (b := 0) (by omega) (by omega)).mpr (of_decide_eq_true z2)
      refine Runs.topI 5 (cs := []) (pc' := 25) (pl' := [some (.int (N m))]) (v := (N 15) &&& ((N m) ^^^ (-1 : Int32))) (v' := N (dif 15 m)) (st' := []) (h' := h) rfl trivial (N_dif _ _) ?_
      exact Runs.retE (cs := []) rfl trivial (retI (congrArg N (els_3 m hm z1 z2))) rfl
    · replace z2 : m = 0 := (N_eq (a := m) (b := 0) (by omega) (by omega)).mp (Classical.not_not.mp (of_decide_eq_false z2))
      refine Runs.go 2 (cs := []) (pc' := 25) (pl' := [some (.int (N m))]) (st' := [.int (N 0)]) (h' := h) rfl trivial ?_
      exact Runs.retE (cs := []) rfl trivial (retI (congrArg N (els_2 m hm z1 z2))) rfl
  · replace z1 : ¬ (((N m) &&& (N m - N 1)) = 0) := mt Iff.rfl.mpr (of_decide_eq_false z1)
    refine Runs.go 1 (cs := []) (pc' := 10) (pl' := [some (.int (N m))]) (st' := [.int (N 15)]) (h' := h) rfl trivial ?_
    exact Runs.retE (cs := []) rfl trivial (retI (congrArg N (els_1 m hm z1))) rfl
def eitF (part x y z : Nat) : Nat := if part = 0 then (if y = 0 ∨ z = 0 then 0 else y ||| z) else if (if part = 1 then z else y) = 0 then 0 else if ¬ (x &&& (if part = 1 then z else y)) = 0 then 15 else x
theorem c_eitherChoices_0 {x y z : Nat} {h : PH} (hx : x < 16) (hy : y < 16) (hz : z < 16) : Call 0 mX0_eitherChoices [.int (N 0), .int (N x), .int (N y), .int (N z)] h (.inl (some (.int (N (eitF 0 x y z))))) h 0 := by
  have hl := and_16 (b := z) hx
  have hl2 := and_16 (b := y) hx
  refine Runs.go 2 (cs := []) (pc' := bif decide (¬ (N 0) = 0) then 20 else 4) (pl' := [some (.int (N 0)), some (.int (N x)), some (.int (N y)), some (.int (N z)), none]) (st' := []) (h' := h) rfl trivial ?_
  refine Runs.brF (decide_eq_false (by decide)) ?_
  refine Runs.go 2 (cs := []) (pc' := bif decide ((N y) = 0) then 12 else 8) (pl' := [some (.int (N 0)), some (.int (N x)), some (.int (N y)), some (.int (N z)), none]) (st' := []) (h' := h) rfl trivial ?_
  refine Runs.br (fun z1 => ?_) (fun z1 => ?_)
  · replace z1 : y = 0 := (N_eq (a := y) (b := 0) (by omega) (by omega)).mp (of_decide_eq_true z1)
    refine Runs.go 2 (cs := []) (pc' := 19) (pl' := [some (.int (N 0)), some (.int (N x)), some (.int (N y)), some (.int (N z)), none]) (st' := [.int (N 0)]) (h' := h) rfl trivial ?_
    refine Runs.retE (cs := []) rfl trivial (retI (congrArg N ?_)) rfl
    simp [eitF, z1]
  · replace z1 : ¬ (y = 0) := mt (N_eq (a := y) (b := 0) (by omega) (by omega)).mpr (of_decide_eq_false z1)
    refine Runs.go 2 (cs := []) (pc' := bif decide (¬ (N z) = 0) then 16 else 12) (pl' := [some (.int (N 0)), some (.int (N x)), some (.int (N y)), some (.int (N z)), none]) (st' := []) (h' := h) rfl trivial ?_
    refine Runs.br (fun z2 => ?_) (fun z2 => ?_)
    · replace z2 : ¬ (z = 0) := mt (N_eq (a := z) (b := 0) (by omega) (by omega)).mpr (of_decide_eq_true z2)
      refine Runs.topI 3 (cs := []) (pc' := 19) (pl' := [some (.int (N 0)), some (.int (N x)), some (.int (N y)), some (.int (N z)), none]) (v := (N y) ||| (N z)) (v' := N (y ||| z)) (st' := []) (h' := h) rfl trivial (N_or _ _) ?_
      refine Runs.retE (cs := []) rfl trivial (retI (congrArg N ?_)) rfl
      simp [eitF, z1, z2]
    · replace z2 : z = 0 := (N_eq (a := z) (b := 0) (by omega) (by omega)).mp (Classical.not_not.mp (of_decide_eq_false z2))
      refine Runs.go 2 (cs := []) (pc' := 19) (pl' := [some (.int (N 0)), some (.int (N x)), some (.int (N y)), some (.int (N z)), none]) (st' := [.int (N 0)]) (h' := h) rfl trivial ?_
      refine Runs.retE (cs := []) rfl trivial (retI (congrArg N ?_)) rfl
      simp [eitF, z1, z2]
theorem c_eitherChoices_1 {x y z : Nat} {h : PH} (hx : x < 16) (hy : y < 16) (hz : z < 16) : Call 0 mX0_eitherChoices [.int (N 1), .int (N x), .int (N y), .int (N z)] h (.inl (some (.int (N (eitF 1 x y z))))) h 0 := by
  have hl := and_16 (b := z) hx
  have hl2 := and_16 (b := y) hx
  refine Runs.go 2 (cs := []) (pc' := bif decide (¬ (N 1) = 0) then 20 else 4) (pl' := [some (.int (N 1)), some (.int (N x)), some (.int (N y)), some (.int (N z)), none]) (st' := []) (h' := h) rfl trivial ?_
  refine Runs.brT (decide_eq_true (by decide)) ?_
  refine Runs.go 3 (cs := []) (pc' := bif decide (¬ (N 1) = (N 1)) then 29 else 25) (pl' := [some (.int (N 1)), some (.int (N x)), some (.int (N y)), some (.int (N z)), none]) (st' := []) (h' := h) rfl trivial ?_
  refine Runs.brF (decide_eq_false (by decide)) ?_
  refine Runs.go 5 (cs := []) (pc' := bif decide (¬ (N z) = 0) then 39 else 37) (pl' := [some (.int (N 1)), some (.int (N x)), some (.int (N y)), some (.int (N z)), some (.int (N z))]) (st' := []) (h' := h) rfl trivial ?_
  refine Runs.br (fun z1 => ?_) (fun z1 => ?_)
  · replace z1 : ¬ (z = 0) := mt (N_eq (a := z) (b := 0) (by omega) (by omega)).mpr (of_decide_eq_true z1)
    refine Runs.topI 3 (cs := []) (pc' := 43) (pl' := [some (.int (N 1)), some (.int (N x)), some (.int (N y)), some (.int (N z)), some (.int (N z))]) (v := (N x) &&& (N z)) (v' := N (x &&& z)) (st' := []) (h' := h) rfl trivial (N_and _ _) ?_
    refine Runs.go 1 (cs := []) (pc' := bif decide ((N (x &&& z)) = 0) then 51 else 46) (pl' := [some (.int (N 1)), some (.int (N x)), some (.int (N y)), some (.int (N z)), some (.int (N z))]) (st' := []) (h' := h) rfl trivial ?_
    refine Runs.br (fun z2 => ?_) (fun z2 => ?_)
    · replace z2 : (x &&& z) = 0 := (N_eq (a := (x &&& z)) (b := 0) (by omega) (by omega)).mp (of_decide_eq_true z2)
      refine Runs.go 1 (cs := []) (pc' := 52) (pl' := [some (.int (N 1)), some (.int (N x)), some (.int (N y)), some (.int (N z)), some (.int (N z))]) (st' := [.int (N x)]) (h' := h) rfl trivial ?_
      refine Runs.retE (cs := []) rfl trivial (retI (congrArg N ?_)) rfl
      simp [eitF, z1, z2]
    · replace z2 : ¬ ((x &&& z) = 0) := mt (N_eq (a := (x &&& z)) (b := 0) (by omega) (by omega)).mpr (of_decide_eq_false z2)
      refine Runs.go 2 (cs := []) (pc' := 52) (pl' := [some (.int (N 1)), some (.int (N x)), some (.int (N y)), some (.int (N z)), some (.int (N z))]) (st' := [.int (N 15)]) (h' := h) rfl trivial ?_
      refine Runs.retE (cs := []) rfl trivial (retI (congrArg N ?_)) rfl
      simp [eitF, z1, z2]
  · replace z1 : z = 0 := (N_eq (a := z) (b := 0) (by omega) (by omega)).mp (Classical.not_not.mp (of_decide_eq_false z1))
    refine Runs.go 1 (cs := []) (pc' := 38) (pl' := [some (.int (N 1)), some (.int (N x)), some (.int (N y)), some (.int (N z)), some (.int (N z))]) (st' := [.int (N 0)]) (h' := h) rfl trivial ?_
    refine Runs.retE (cs := []) rfl trivial (retI (congrArg N ?_)) rfl
    simp [eitF, z1]
theorem c_eitherChoices_2 {x y z : Nat} {h : PH} (hx : x < 16) (hy : y < 16) (hz : z < 16) : Call 0 mX0_eitherChoices [.int (N 2), .int (N x), .int (N y), .int (N z)] h (.inl (some (.int (N (eitF 2 x y z))))) h 0 := by
  have hl := and_16 (b := z) hx
  have hl2 := and_16 (b := y) hx
  refine Runs.go 2 (cs := []) (pc' := bif decide (¬ (N 2) = 0) then 20 else 4) (pl' := [some (.int (N 2)), some (.int (N x)), some (.int (N y)), some (.int (N z)), none]) (st' := []) (h' := h) rfl trivial ?_
  refine Runs.brT (decide_eq_true (by decide)) ?_
  refine Runs.go 3 (cs := []) (pc' := bif decide (¬ (N 2) = (N 1)) then 29 else 25) (pl' := [some (.int (N 2)), some (.int (N x)), some (.int (N y)), some (.int (N z)), none]) (st' := []) (h' := h) rfl trivial ?_
  refine Runs.brT (decide_eq_true (by decide)) ?_
  refine Runs.go 4 (cs := []) (pc' := bif decide (¬ (N y) = 0) then 39 else 37) (pl' := [some (.int (N 2)), some (.int (N x)), some (.int (N y)), some (.int (N z)), some (.int (N y))]) (st' := []) (h' := h) rfl trivial ?_
  refine Runs.br (fun z1 => ?_) (fun z1 => ?_)
  · replace z1 : ¬ (y = 0) := mt (N_eq (a := y) (b := 0) (by omega) (by omega)).mpr (of_decide_eq_true z1)
    refine Runs.topI 3 (cs := []) (pc' := 43) (pl' := [some (.int (N 2)), some (.int (N x)), some (.int (N y)), some (.int (N z)), some (.int (N y))]) (v := (N x) &&& (N y)) (v' := N (x &&& y)) (st' := []) (h' := h) rfl trivial (N_and _ _) ?_
    refine Runs.go 1 (cs := []) (pc' := bif decide ((N (x &&& y)) = 0) then 51 else 46) (pl' := [some (.int (N 2)), some (.int (N x)), some (.int (N y)), some (.int (N z)), some (.int (N y))]) (st' := []) (h' := h) rfl trivial ?_
    refine Runs.br (fun z2 => ?_) (fun z2 => ?_)
    · replace z2 : (x &&& y) = 0 := (N_eq (a := (x &&& y)) (b := 0) (by omega) (by omega)).mp (of_decide_eq_true z2)
      refine Runs.go 1 (cs := []) (pc' := 52) (pl' := [some (.int (N 2)), some (.int (N x)), some (.int (N y)), some (.int (N z)), some (.int (N y))]) (st' := [.int (N x)]) (h' := h) rfl trivial ?_
      refine Runs.retE (cs := []) rfl trivial (retI (congrArg N ?_)) rfl
      simp [eitF, z1, z2]
    · replace z2 : ¬ ((x &&& y) = 0) := mt (N_eq (a := (x &&& y)) (b := 0) (by omega) (by omega)).mpr (of_decide_eq_false z2)
      refine Runs.go 2 (cs := []) (pc' := 52) (pl' := [some (.int (N 2)), some (.int (N x)), some (.int (N y)), some (.int (N z)), some (.int (N y))]) (st' := [.int (N 15)]) (h' := h) rfl trivial ?_
      refine Runs.retE (cs := []) rfl trivial (retI (congrArg N ?_)) rfl
      simp [eitF, z1, z2]
  · replace z1 : y = 0 := (N_eq (a := y) (b := 0) (by omega) (by omega)).mp (Classical.not_not.mp (of_decide_eq_false z1))
    refine Runs.go 1 (cs := []) (pc' := 38) (pl' := [some (.int (N 2)), some (.int (N x)), some (.int (N y)), some (.int (N z)), some (.int (N y))]) (st' := [.int (N 0)]) (h' := h) rfl trivial ?_
    refine Runs.retE (cs := []) rfl trivial (retI (congrArg N ?_)) rfl
    simp [eitF, z1]
theorem c_choices_00 {G : Nat → Nat} {x y : Nat} {h : PH} (hG : M16 G) (hzz : Z12 G) (hx : x < 12) (hy : y < 12) : Call 1 mX0_choices [.int (N (encC 0 x y 15 15)), .int (N 0), .long (L (pk G))] h (.inl (some (.int (N (G y))))) h 0 := by
  have gx := hG x hx
  have gy := hG y hy
  refine Runs.go 3 (cs := []) (pc' := 3) (pl' := [some (.int (N (encC 0 x y 15 15))), some (.int (N 0)), some (.long (L (pk G))), none, none, none, none]) (st' := [.int (N 0), .int (N (encC 0 x y 15 15)), .long (L (pk G))]) (h' := h) rfl trivial ?_
  refine Runs.cal (y := mX0_item) (as := [.int (N (encC 0 x y 15 15)), .int (N 0)]) (rest := [.long (L (pk G))]) (pc' := 6) (cs := []) (v := some (.int (N (itC (encC 0 x y 15 15) 0)))) (h1 := h) rfl trivial (by decide) (c_item (enc_lt (by omega) (by omega) (by omega) (by omega) (by omega)) (by decide)) ?_
  show Runs _ _ 6 _ [.int (N (itC (encC 0 x y 15 15) 0)), .long (L (pk G))] _ _ _ _
  rw [show N (itC (encC 0 x y 15 15) 0) = N x from congrArg N (enc_x (by omega) (by omega))]
  refine Runs.cal (y := mX1_placesOf) (as := [.long (L (pk G)), .int (N x)]) (rest := []) (pc' := 9) (cs := []) (v := some (.int (N (G x)))) (h1 := h) rfl trivial (by decide) (c_placesOf hG hzz (by omega)) ?_
  show Runs _ _ 9 _ [.int (N (G x))] _ _ _ _
  refine Runs.go 4 (cs := []) (pc' := 14) (pl' := [some (.int (N (encC 0 x y 15 15))), some (.int (N 0)), some (.long (L (pk G))), none, some (.int (N (G x))), none, none]) (st' := [.int (N 1), .int (N (encC 0 x y 15 15)), .long (L (pk G))]) (h' := h) rfl trivial ?_
  refine Runs.cal (y := mX0_item) (as := [.int (N (encC 0 x y 15 15)), .int (N 1)]) (rest := [.long (L (pk G))]) (pc' := 17) (cs := []) (v := some (.int (N (itC (encC 0 x y 15 15) 1)))) (h1 := h) rfl trivial (by decide) (c_item (enc_lt (by omega) (by omega) (by omega) (by omega) (by omega)) (by decide)) ?_
  show Runs _ _ 17 _ [.int (N (itC (encC 0 x y 15 15) 1)), .long (L (pk G))] _ _ _ _
  rw [show N (itC (encC 0 x y 15 15) 1) = N y from congrArg N (enc_y (by omega) (by omega) (by omega))]
  refine Runs.cal (y := mX1_placesOf) (as := [.long (L (pk G)), .int (N y)]) (rest := []) (pc' := 20) (cs := []) (v := some (.int (N (G y)))) (h1 := h) rfl trivial (by decide) (c_placesOf hG hzz (by omega)) ?_
  show Runs _ _ 20 _ [.int (N (G y))] _ _ _ _
  refine Runs.go 3 (cs := []) (pc' := bif decide (¬ (N 0) = 0) then 31 else 26) (pl' := [some (.int (N (encC 0 x y 15 15))), some (.int (N 0)), some (.long (L (pk G))), none, some (.int (N (G x))), some (.int (N (G y))), none]) (st' := []) (h' := h) rfl trivial ?_
  refine Runs.brF (decide_eq_false (by decide)) ?_
  refine Runs.go 4 (cs := []) (pc' := 36) (pl' := [some (.int (N (encC 0 x y 15 15))), some (.int (N 0)), some (.long (L (pk G))), none, some (.int (N (G x))), some (.int (N (G y))), some (.int (N (G y)))]) (st' := [.int (N (encC 0 x y 15 15))]) (h' := h) rfl trivial ?_
  refine Runs.cal (y := mX0_sort) (as := [.int (N (encC 0 x y 15 15))]) (rest := []) (pc' := 39) (cs := []) (v := some (.int (N ((encC 0 x y 15 15) % 16)))) (h1 := h) rfl trivial (by decide) (c_sort) ?_
  show Runs _ _ 39 _ [.int (N ((encC 0 x y 15 15) % 16))] _ _ _ _
  rw [show N ((encC 0 x y 15 15) % 16) = N 0 from congrArg N (enc_s (by omega))]
  refine Runs.go 2 (cs := [(0 : Int) ≤ ((39 : Nat) : Int) + (37)]) (pc' := 78) (pl' := [some (.int (N (encC 0 x y 15 15))), some (.int (N 0)), some (.long (L (pk G))), none, some (.int (N (G x))), some (.int (N (G y))), some (.int (N (G y)))]) (st' := [.int (N (G y))]) (h' := h) rfl ⟨(by decide), trivial⟩ ?_
  exact Runs.retE (cs := []) rfl trivial (retI rfl) rfl
theorem c_choices_01 {G : Nat → Nat} {x y : Nat} {h : PH} (hG : M16 G) (hzz : Z12 G) (hx : x < 12) (hy : y < 12) : Call 1 mX0_choices [.int (N (encC 0 x y 15 15)), .int (N 1), .long (L (pk G))] h (.inl (some (.int (N (G x))))) h 0 := by
  have gx := hG x hx
  have gy := hG y hy
  refine Runs.go 3 (cs := []) (pc' := 3) (pl' := [some (.int (N (encC 0 x y 15 15))), some (.int (N 1)), some (.long (L (pk G))), none, none, none, none]) (st' := [.int (N 0), .int (N (encC 0 x y 15 15)), .long (L (pk G))]) (h' := h) rfl trivial ?_
  refine Runs.cal (y := mX0_item) (as := [.int (N (encC 0 x y 15 15)), .int (N 0)]) (rest := [.long (L (pk G))]) (pc' := 6) (cs := []) (v := some (.int (N (itC (encC 0 x y 15 15) 0)))) (h1 := h) rfl trivial (by decide) (c_item (enc_lt (by omega) (by omega) (by omega) (by omega) (by omega)) (by decide)) ?_
  show Runs _ _ 6 _ [.int (N (itC (encC 0 x y 15 15) 0)), .long (L (pk G))] _ _ _ _
  rw [show N (itC (encC 0 x y 15 15) 0) = N x from congrArg N (enc_x (by omega) (by omega))]
  refine Runs.cal (y := mX1_placesOf) (as := [.long (L (pk G)), .int (N x)]) (rest := []) (pc' := 9) (cs := []) (v := some (.int (N (G x)))) (h1 := h) rfl trivial (by decide) (c_placesOf hG hzz (by omega)) ?_
  show Runs _ _ 9 _ [.int (N (G x))] _ _ _ _
  refine Runs.go 4 (cs := []) (pc' := 14) (pl' := [some (.int (N (encC 0 x y 15 15))), some (.int (N 1)), some (.long (L (pk G))), none, some (.int (N (G x))), none, none]) (st' := [.int (N 1), .int (N (encC 0 x y 15 15)), .long (L (pk G))]) (h' := h) rfl trivial ?_
  refine Runs.cal (y := mX0_item) (as := [.int (N (encC 0 x y 15 15)), .int (N 1)]) (rest := [.long (L (pk G))]) (pc' := 17) (cs := []) (v := some (.int (N (itC (encC 0 x y 15 15) 1)))) (h1 := h) rfl trivial (by decide) (c_item (enc_lt (by omega) (by omega) (by omega) (by omega) (by omega)) (by decide)) ?_
  show Runs _ _ 17 _ [.int (N (itC (encC 0 x y 15 15) 1)), .long (L (pk G))] _ _ _ _
  rw [show N (itC (encC 0 x y 15 15) 1) = N y from congrArg N (enc_y (by omega) (by omega) (by omega))]
  refine Runs.cal (y := mX1_placesOf) (as := [.long (L (pk G)), .int (N y)]) (rest := []) (pc' := 20) (cs := []) (v := some (.int (N (G y)))) (h1 := h) rfl trivial (by decide) (c_placesOf hG hzz (by omega)) ?_
  show Runs _ _ 20 _ [.int (N (G y))] _ _ _ _
  refine Runs.go 3 (cs := []) (pc' := bif decide (¬ (N 1) = 0) then 31 else 26) (pl' := [some (.int (N (encC 0 x y 15 15))), some (.int (N 1)), some (.long (L (pk G))), none, some (.int (N (G x))), some (.int (N (G y))), none]) (st' := []) (h' := h) rfl trivial ?_
  refine Runs.brT (decide_eq_true (by decide)) ?_
  refine Runs.go 3 (cs := []) (pc' := 36) (pl' := [some (.int (N (encC 0 x y 15 15))), some (.int (N 1)), some (.long (L (pk G))), none, some (.int (N (G x))), some (.int (N (G y))), some (.int (N (G x)))]) (st' := [.int (N (encC 0 x y 15 15))]) (h' := h) rfl trivial ?_
  refine Runs.cal (y := mX0_sort) (as := [.int (N (encC 0 x y 15 15))]) (rest := []) (pc' := 39) (cs := []) (v := some (.int (N ((encC 0 x y 15 15) % 16)))) (h1 := h) rfl trivial (by decide) (c_sort) ?_
  show Runs _ _ 39 _ [.int (N ((encC 0 x y 15 15) % 16))] _ _ _ _
  rw [show N ((encC 0 x y 15 15) % 16) = N 0 from congrArg N (enc_s (by omega))]
  refine Runs.go 2 (cs := [(0 : Int) ≤ ((39 : Nat) : Int) + (37)]) (pc' := 78) (pl' := [some (.int (N (encC 0 x y 15 15))), some (.int (N 1)), some (.long (L (pk G))), none, some (.int (N (G x))), some (.int (N (G y))), some (.int (N (G x)))]) (st' := [.int (N (G x))]) (h' := h) rfl ⟨(by decide), trivial⟩ ?_
  exact Runs.retE (cs := []) rfl trivial (retI rfl) rfl
theorem c_choices_10 {G : Nat → Nat} {x y : Nat} {h : PH} (hG : M16 G) (hzz : Z12 G) (hx : x < 12) (hy : y < 12) : Call 1 mX0_choices [.int (N (encC 1 x y 15 15)), .int (N 0), .long (L (pk G))] h (.inl (some (.int (N (elsF (G y)))))) h 0 := by
  have gx := hG x hx
  have gy := hG y hy
  refine Runs.go 3 (cs := []) (pc' := 3) (pl' := [some (.int (N (encC 1 x y 15 15))), some (.int (N 0)), some (.long (L (pk G))), none, none, none, none]) (st' := [.int (N 0), .int (N (encC 1 x y 15 15)), .long (L (pk G))]) (h' := h) rfl trivial ?_
  refine Runs.cal (y := mX0_item) (as := [.int (N (encC 1 x y 15 15)), .int (N 0)]) (rest := [.long (L (pk G))]) (pc' := 6) (cs := []) (v := some (.int (N (itC (encC 1 x y 15 15) 0)))) (h1 := h) rfl trivial (by decide) (c_item (enc_lt (by omega) (by omega) (by omega) (by omega) (by omega)) (by decide)) ?_
  show Runs _ _ 6 _ [.int (N (itC (encC 1 x y 15 15) 0)), .long (L (pk G))] _ _ _ _
  rw [show N (itC (encC 1 x y 15 15) 0) = N x from congrArg N (enc_x (by omega) (by omega))]
  refine Runs.cal (y := mX1_placesOf) (as := [.long (L (pk G)), .int (N x)]) (rest := []) (pc' := 9) (cs := []) (v := some (.int (N (G x)))) (h1 := h) rfl trivial (by decide) (c_placesOf hG hzz (by omega)) ?_
  show Runs _ _ 9 _ [.int (N (G x))] _ _ _ _
  refine Runs.go 4 (cs := []) (pc' := 14) (pl' := [some (.int (N (encC 1 x y 15 15))), some (.int (N 0)), some (.long (L (pk G))), none, some (.int (N (G x))), none, none]) (st' := [.int (N 1), .int (N (encC 1 x y 15 15)), .long (L (pk G))]) (h' := h) rfl trivial ?_
  refine Runs.cal (y := mX0_item) (as := [.int (N (encC 1 x y 15 15)), .int (N 1)]) (rest := [.long (L (pk G))]) (pc' := 17) (cs := []) (v := some (.int (N (itC (encC 1 x y 15 15) 1)))) (h1 := h) rfl trivial (by decide) (c_item (enc_lt (by omega) (by omega) (by omega) (by omega) (by omega)) (by decide)) ?_
  show Runs _ _ 17 _ [.int (N (itC (encC 1 x y 15 15) 1)), .long (L (pk G))] _ _ _ _
  rw [show N (itC (encC 1 x y 15 15) 1) = N y from congrArg N (enc_y (by omega) (by omega) (by omega))]
  refine Runs.cal (y := mX1_placesOf) (as := [.long (L (pk G)), .int (N y)]) (rest := []) (pc' := 20) (cs := []) (v := some (.int (N (G y)))) (h1 := h) rfl trivial (by decide) (c_placesOf hG hzz (by omega)) ?_
  show Runs _ _ 20 _ [.int (N (G y))] _ _ _ _
  refine Runs.go 3 (cs := []) (pc' := bif decide (¬ (N 0) = 0) then 31 else 26) (pl' := [some (.int (N (encC 1 x y 15 15))), some (.int (N 0)), some (.long (L (pk G))), none, some (.int (N (G x))), some (.int (N (G y))), none]) (st' := []) (h' := h) rfl trivial ?_
  refine Runs.brF (decide_eq_false (by decide)) ?_
  refine Runs.go 4 (cs := []) (pc' := 36) (pl' := [some (.int (N (encC 1 x y 15 15))), some (.int (N 0)), some (.long (L (pk G))), none, some (.int (N (G x))), some (.int (N (G y))), some (.int (N (G y)))]) (st' := [.int (N (encC 1 x y 15 15))]) (h' := h) rfl trivial ?_
  refine Runs.cal (y := mX0_sort) (as := [.int (N (encC 1 x y 15 15))]) (rest := []) (pc' := 39) (cs := []) (v := some (.int (N ((encC 1 x y 15 15) % 16)))) (h1 := h) rfl trivial (by decide) (c_sort) ?_
  show Runs _ _ 39 _ [.int (N ((encC 1 x y 15 15) % 16))] _ _ _ _
  rw [show N ((encC 1 x y 15 15) % 16) = N 1 from congrArg N (enc_s (by omega))]
  refine Runs.go 2 (cs := [(0 : Int) ≤ ((39 : Nat) : Int) + (40)]) (pc' := 81) (pl' := [some (.int (N (encC 1 x y 15 15))), some (.int (N 0)), some (.long (L (pk G))), none, some (.int (N (G x))), some (.int (N (G y))), some (.int (N (G y)))]) (st' := [.int (N (G y))]) (h' := h) rfl ⟨(by decide), trivial⟩ ?_
  refine Runs.cal (y := mX0_elsewhere) (as := [.int (N (G y))]) (rest := []) (pc' := 84) (cs := []) (v := some (.int (N (elsF (G y))))) (h1 := h) rfl trivial (by decide) (c_elsewhere (by omega)) ?_
  show Runs _ _ 84 _ [.int (N (elsF (G y)))] _ _ _ _
  exact Runs.retE (cs := []) rfl trivial (retI rfl) rfl
theorem c_choices_11 {G : Nat → Nat} {x y : Nat} {h : PH} (hG : M16 G) (hzz : Z12 G) (hx : x < 12) (hy : y < 12) : Call 1 mX0_choices [.int (N (encC 1 x y 15 15)), .int (N 1), .long (L (pk G))] h (.inl (some (.int (N (elsF (G x)))))) h 0 := by
  have gx := hG x hx
  have gy := hG y hy
  refine Runs.go 3 (cs := []) (pc' := 3) (pl' := [some (.int (N (encC 1 x y 15 15))), some (.int (N 1)), some (.long (L (pk G))), none, none, none, none]) (st' := [.int (N 0), .int (N (encC 1 x y 15 15)), .long (L (pk G))]) (h' := h) rfl trivial ?_
  refine Runs.cal (y := mX0_item) (as := [.int (N (encC 1 x y 15 15)), .int (N 0)]) (rest := [.long (L (pk G))]) (pc' := 6) (cs := []) (v := some (.int (N (itC (encC 1 x y 15 15) 0)))) (h1 := h) rfl trivial (by decide) (c_item (enc_lt (by omega) (by omega) (by omega) (by omega) (by omega)) (by decide)) ?_
  show Runs _ _ 6 _ [.int (N (itC (encC 1 x y 15 15) 0)), .long (L (pk G))] _ _ _ _
  rw [show N (itC (encC 1 x y 15 15) 0) = N x from congrArg N (enc_x (by omega) (by omega))]
  refine Runs.cal (y := mX1_placesOf) (as := [.long (L (pk G)), .int (N x)]) (rest := []) (pc' := 9) (cs := []) (v := some (.int (N (G x)))) (h1 := h) rfl trivial (by decide) (c_placesOf hG hzz (by omega)) ?_
  show Runs _ _ 9 _ [.int (N (G x))] _ _ _ _
  refine Runs.go 4 (cs := []) (pc' := 14) (pl' := [some (.int (N (encC 1 x y 15 15))), some (.int (N 1)), some (.long (L (pk G))), none, some (.int (N (G x))), none, none]) (st' := [.int (N 1), .int (N (encC 1 x y 15 15)), .long (L (pk G))]) (h' := h) rfl trivial ?_
  refine Runs.cal (y := mX0_item) (as := [.int (N (encC 1 x y 15 15)), .int (N 1)]) (rest := [.long (L (pk G))]) (pc' := 17) (cs := []) (v := some (.int (N (itC (encC 1 x y 15 15) 1)))) (h1 := h) rfl trivial (by decide) (c_item (enc_lt (by omega) (by omega) (by omega) (by omega) (by omega)) (by decide)) ?_
  show Runs _ _ 17 _ [.int (N (itC (encC 1 x y 15 15) 1)), .long (L (pk G))] _ _ _ _
  rw [show N (itC (encC 1 x y 15 15) 1) = N y from congrArg N (enc_y (by omega) (by omega) (by omega))]
  refine Runs.cal (y := mX1_placesOf) (as := [.long (L (pk G)), .int (N y)]) (rest := []) (pc' := 20) (cs := []) (v := some (.int (N (G y)))) (h1 := h) rfl trivial (by decide) (c_placesOf hG hzz (by omega)) ?_
  show Runs _ _ 20 _ [.int (N (G y))] _ _ _ _
  refine Runs.go 3 (cs := []) (pc' := bif decide (¬ (N 1) = 0) then 31 else 26) (pl' := [some (.int (N (encC 1 x y 15 15))), some (.int (N 1)), some (.long (L (pk G))), none, some (.int (N (G x))), some (.int (N (G y))), none]) (st' := []) (h' := h) rfl trivial ?_
  refine Runs.brT (decide_eq_true (by decide)) ?_
  refine Runs.go 3 (cs := []) (pc' := 36) (pl' := [some (.int (N (encC 1 x y 15 15))), some (.int (N 1)), some (.long (L (pk G))), none, some (.int (N (G x))), some (.int (N (G y))), some (.int (N (G x)))]) (st' := [.int (N (encC 1 x y 15 15))]) (h' := h) rfl trivial ?_
  refine Runs.cal (y := mX0_sort) (as := [.int (N (encC 1 x y 15 15))]) (rest := []) (pc' := 39) (cs := []) (v := some (.int (N ((encC 1 x y 15 15) % 16)))) (h1 := h) rfl trivial (by decide) (c_sort) ?_
  show Runs _ _ 39 _ [.int (N ((encC 1 x y 15 15) % 16))] _ _ _ _
  rw [show N ((encC 1 x y 15 15) % 16) = N 1 from congrArg N (enc_s (by omega))]
  refine Runs.go 2 (cs := [(0 : Int) ≤ ((39 : Nat) : Int) + (40)]) (pc' := 81) (pl' := [some (.int (N (encC 1 x y 15 15))), some (.int (N 1)), some (.long (L (pk G))), none, some (.int (N (G x))), some (.int (N (G y))), some (.int (N (G x)))]) (st' := [.int (N (G x))]) (h' := h) rfl ⟨(by decide), trivial⟩ ?_
  refine Runs.cal (y := mX0_elsewhere) (as := [.int (N (G x))]) (rest := []) (pc' := 84) (cs := []) (v := some (.int (N (elsF (G x))))) (h1 := h) rfl trivial (by decide) (c_elsewhere (by omega)) ?_
  show Runs _ _ 84 _ [.int (N (elsF (G x)))] _ _ _ _
  exact Runs.retE (cs := []) rfl trivial (retI rfl) rfl
theorem c_choices_20 {G : Nat → Nat} {x y : Nat} {h : PH} (hG : M16 G) (hzz : Z12 G) (hx : x < 12) (hy : y < 12) : Call 1 mX0_choices [.int (N (encC 2 x y 15 15)), .int (N 0), .long (L (pk G))] h (.inl (some (.int (N ((G y / 2 ||| G y / 4) ||| G y / 8))))) h 0 := by
  have gx := hG x hx
  have gy := hG y hy
  refine Runs.go 3 (cs := []) (pc' := 3) (pl' := [some (.int (N (encC 2 x y 15 15))), some (.int (N 0)), some (.long (L (pk G))), none, none, none, none]) (st' := [.int (N 0), .int (N (encC 2 x y 15 15)), .long (L (pk G))]) (h' := h) rfl trivial ?_
  refine Runs.cal (y := mX0_item) (as := [.int (N (encC 2 x y 15 15)), .int (N 0)]) (rest := [.long (L (pk G))]) (pc' := 6) (cs := []) (v := some (.int (N (itC (encC 2 x y 15 15) 0)))) (h1 := h) rfl trivial (by decide) (c_item (enc_lt (by omega) (by omega) (by omega) (by omega) (by omega)) (by decide)) ?_
  show Runs _ _ 6 _ [.int (N (itC (encC 2 x y 15 15) 0)), .long (L (pk G))] _ _ _ _
  rw [show N (itC (encC 2 x y 15 15) 0) = N x from congrArg N (enc_x (by omega) (by omega))]
  refine Runs.cal (y := mX1_placesOf) (as := [.long (L (pk G)), .int (N x)]) (rest := []) (pc' := 9) (cs := []) (v := some (.int (N (G x)))) (h1 := h) rfl trivial (by decide) (c_placesOf hG hzz (by omega)) ?_
  show Runs _ _ 9 _ [.int (N (G x))] _ _ _ _
  refine Runs.go 4 (cs := []) (pc' := 14) (pl' := [some (.int (N (encC 2 x y 15 15))), some (.int (N 0)), some (.long (L (pk G))), none, some (.int (N (G x))), none, none]) (st' := [.int (N 1), .int (N (encC 2 x y 15 15)), .long (L (pk G))]) (h' := h) rfl trivial ?_
  refine Runs.cal (y := mX0_item) (as := [.int (N (encC 2 x y 15 15)), .int (N 1)]) (rest := [.long (L (pk G))]) (pc' := 17) (cs := []) (v := some (.int (N (itC (encC 2 x y 15 15) 1)))) (h1 := h) rfl trivial (by decide) (c_item (enc_lt (by omega) (by omega) (by omega) (by omega) (by omega)) (by decide)) ?_
  show Runs _ _ 17 _ [.int (N (itC (encC 2 x y 15 15) 1)), .long (L (pk G))] _ _ _ _
  rw [show N (itC (encC 2 x y 15 15) 1) = N y from congrArg N (enc_y (by omega) (by omega) (by omega))]
  refine Runs.cal (y := mX1_placesOf) (as := [.long (L (pk G)), .int (N y)]) (rest := []) (pc' := 20) (cs := []) (v := some (.int (N (G y)))) (h1 := h) rfl trivial (by decide) (c_placesOf hG hzz (by omega)) ?_
  show Runs _ _ 20 _ [.int (N (G y))] _ _ _ _
  refine Runs.go 3 (cs := []) (pc' := bif decide (¬ (N 0) = 0) then 31 else 26) (pl' := [some (.int (N (encC 2 x y 15 15))), some (.int (N 0)), some (.long (L (pk G))), none, some (.int (N (G x))), some (.int (N (G y))), none]) (st' := []) (h' := h) rfl trivial ?_
  refine Runs.brF (decide_eq_false (by decide)) ?_
  refine Runs.go 4 (cs := []) (pc' := 36) (pl' := [some (.int (N (encC 2 x y 15 15))), some (.int (N 0)), some (.long (L (pk G))), none, some (.int (N (G x))), some (.int (N (G y))), some (.int (N (G y)))]) (st' := [.int (N (encC 2 x y 15 15))]) (h' := h) rfl trivial ?_
  refine Runs.cal (y := mX0_sort) (as := [.int (N (encC 2 x y 15 15))]) (rest := []) (pc' := 39) (cs := []) (v := some (.int (N ((encC 2 x y 15 15) % 16)))) (h1 := h) rfl trivial (by decide) (c_sort) ?_
  show Runs _ _ 39 _ [.int (N ((encC 2 x y 15 15) % 16))] _ _ _ _
  rw [show N ((encC 2 x y 15 15) % 16) = N 2 from congrArg N (enc_s (by omega))]
  refine Runs.go 3 (cs := [(0 : Int) ≤ ((39 : Nat) : Int) + (46)]) (pc' := bif decide (¬ (N 0) = 0) then 106 else 89) (pl' := [some (.int (N (encC 2 x y 15 15))), some (.int (N 0)), some (.long (L (pk G))), none, some (.int (N (G x))), some (.int (N (G y))), some (.int (N (G y)))]) (st' := []) (h' := h) rfl ⟨(by decide), trivial⟩ ?_
  refine Runs.brF (decide_eq_false (by decide)) ?_
  refine Runs.topI 3 (cs := []) (pc' := 93) (pl' := [some (.int (N (encC 2 x y 15 15))), some (.int (N 0)), some (.long (L (pk G))), none, some (.int (N (G x))), some (.int (N (G y))), some (.int (N (G y)))]) (v := (N (G y)) >>> (N 1 &&& 31)) (v' := N ((G y) / 2)) (st' := []) (h' := h) rfl trivial (NHR (by omega) (by omega) rfl) ?_
  refine Runs.topI 3 (cs := []) (pc' := 97) (pl' := [some (.int (N (encC 2 x y 15 15))), some (.int (N 0)), some (.long (L (pk G))), none, some (.int (N (G x))), some (.int (N (G y))), some (.int (N (G y)))]) (v := (N (G y)) >>> (N 2 &&& 31)) (v' := N ((G y) / 4)) (st' := [.int (N ((G y) / 2))]) (h' := h) rfl trivial (NHR (by omega) (by omega) rfl) ?_
  refine Runs.topI 1 (cs := []) (pc' := 98) (pl' := [some (.int (N (encC 2 x y 15 15))), some (.int (N 0)), some (.long (L (pk G))), none, some (.int (N (G x))), some (.int (N (G y))), some (.int (N (G y)))]) (v := (N ((G y) / 2)) ||| (N ((G y) / 4))) (v' := N (((G y) / 2) ||| ((G y) / 4))) (st' := []) (h' := h) rfl trivial (N_or _ _) ?_
  refine Runs.topI 3 (cs := []) (pc' := 102) (pl' := [some (.int (N (encC 2 x y 15 15))), some (.int (N 0)), some (.long (L (pk G))), none, some (.int (N (G x))), some (.int (N (G y))), some (.int (N (G y)))]) (v := (N (G y)) >>> (N 3 &&& 31)) (v' := N ((G y) / 8)) (st' := [.int (N (((G y) / 2) ||| ((G y) / 4)))]) (h' := h) rfl trivial (NHR (by omega) (by omega) rfl) ?_
  refine Runs.topI 1 (cs := []) (pc' := 103) (pl' := [some (.int (N (encC 2 x y 15 15))), some (.int (N 0)), some (.long (L (pk G))), none, some (.int (N (G x))), some (.int (N (G y))), some (.int (N (G y)))]) (v := (N (((G y) / 2) ||| ((G y) / 4))) ||| (N ((G y) / 8))) (v' := N ((((G y) / 2) ||| ((G y) / 4)) ||| ((G y) / 8))) (st' := []) (h' := h) rfl trivial (N_or _ _) ?_
  refine Runs.go 1 (cs := []) (pc' := 123) (pl' := [some (.int (N (encC 2 x y 15 15))), some (.int (N 0)), some (.long (L (pk G))), none, some (.int (N (G x))), some (.int (N (G y))), some (.int (N (G y)))]) (st' := [.int (N ((((G y) / 2) ||| ((G y) / 4)) ||| ((G y) / 8)))]) (h' := h) rfl trivial ?_
  exact Runs.retE (cs := []) rfl trivial (retI rfl) rfl
theorem c_choices_21 {G : Nat → Nat} {x y : Nat} {h : PH} (hG : M16 G) (hzz : Z12 G) (hx : x < 12) (hy : y < 12) : Call 1 mX0_choices [.int (N (encC 2 x y 15 15)), .int (N 1), .long (L (pk G))] h (.inl (some (.int (N (((2 * G x ||| 4 * G x) ||| 8 * G x) % 16))))) h 0 := by
  have gx := hG x hx
  have gy := hG y hy
  refine Runs.go 3 (cs := []) (pc' := 3) (pl' := [some (.int (N (encC 2 x y 15 15))), some (.int (N 1)), some (.long (L (pk G))), none, none, none, none]) (st' := [.int (N 0), .int (N (encC 2 x y 15 15)), .long (L (pk G))]) (h' := h) rfl trivial ?_
  refine Runs.cal (y := mX0_item) (as := [.int (N (encC 2 x y 15 15)), .int (N 0)]) (rest := [.long (L (pk G))]) (pc' := 6) (cs := []) (v := some (.int (N (itC (encC 2 x y 15 15) 0)))) (h1 := h) rfl trivial (by decide) (c_item (enc_lt (by omega) (by omega) (by omega) (by omega) (by omega)) (by decide)) ?_
  show Runs _ _ 6 _ [.int (N (itC (encC 2 x y 15 15) 0)), .long (L (pk G))] _ _ _ _
  rw [show N (itC (encC 2 x y 15 15) 0) = N x from congrArg N (enc_x (by omega) (by omega))]
  refine Runs.cal (y := mX1_placesOf) (as := [.long (L (pk G)), .int (N x)]) (rest := []) (pc' := 9) (cs := []) (v := some (.int (N (G x)))) (h1 := h) rfl trivial (by decide) (c_placesOf hG hzz (by omega)) ?_
  show Runs _ _ 9 _ [.int (N (G x))] _ _ _ _
  refine Runs.go 4 (cs := []) (pc' := 14) (pl' := [some (.int (N (encC 2 x y 15 15))), some (.int (N 1)), some (.long (L (pk G))), none, some (.int (N (G x))), none, none]) (st' := [.int (N 1), .int (N (encC 2 x y 15 15)), .long (L (pk G))]) (h' := h) rfl trivial ?_
  refine Runs.cal (y := mX0_item) (as := [.int (N (encC 2 x y 15 15)), .int (N 1)]) (rest := [.long (L (pk G))]) (pc' := 17) (cs := []) (v := some (.int (N (itC (encC 2 x y 15 15) 1)))) (h1 := h) rfl trivial (by decide) (c_item (enc_lt (by omega) (by omega) (by omega) (by omega) (by omega)) (by decide)) ?_
  show Runs _ _ 17 _ [.int (N (itC (encC 2 x y 15 15) 1)), .long (L (pk G))] _ _ _ _
  rw [show N (itC (encC 2 x y 15 15) 1) = N y from congrArg N (enc_y (by omega) (by omega) (by omega))]
  refine Runs.cal (y := mX1_placesOf) (as := [.long (L (pk G)), .int (N y)]) (rest := []) (pc' := 20) (cs := []) (v := some (.int (N (G y)))) (h1 := h) rfl trivial (by decide) (c_placesOf hG hzz (by omega)) ?_
  show Runs _ _ 20 _ [.int (N (G y))] _ _ _ _
  refine Runs.go 3 (cs := []) (pc' := bif decide (¬ (N 1) = 0) then 31 else 26) (pl' := [some (.int (N (encC 2 x y 15 15))), some (.int (N 1)), some (.long (L (pk G))), none, some (.int (N (G x))), some (.int (N (G y))), none]) (st' := []) (h' := h) rfl trivial ?_
  refine Runs.brT (decide_eq_true (by decide)) ?_
  refine Runs.go 3 (cs := []) (pc' := 36) (pl' := [some (.int (N (encC 2 x y 15 15))), some (.int (N 1)), some (.long (L (pk G))), none, some (.int (N (G x))), some (.int (N (G y))), some (.int (N (G x)))]) (st' := [.int (N (encC 2 x y 15 15))]) (h' := h) rfl trivial ?_
  refine Runs.cal (y := mX0_sort) (as := [.int (N (encC 2 x y 15 15))]) (rest := []) (pc' := 39) (cs := []) (v := some (.int (N ((encC 2 x y 15 15) % 16)))) (h1 := h) rfl trivial (by decide) (c_sort) ?_
  show Runs _ _ 39 _ [.int (N ((encC 2 x y 15 15) % 16))] _ _ _ _
  rw [show N ((encC 2 x y 15 15) % 16) = N 2 from congrArg N (enc_s (by omega))]
  refine Runs.go 3 (cs := [(0 : Int) ≤ ((39 : Nat) : Int) + (46)]) (pc' := bif decide (¬ (N 1) = 0) then 106 else 89) (pl' := [some (.int (N (encC 2 x y 15 15))), some (.int (N 1)), some (.long (L (pk G))), none, some (.int (N (G x))), some (.int (N (G y))), some (.int (N (G x)))]) (st' := []) (h' := h) rfl ⟨(by decide), trivial⟩ ?_
  refine Runs.brT (decide_eq_true (by decide)) ?_
  refine Runs.topI 3 (cs := []) (pc' := 110) (pl' := [some (.int (N (encC 2 x y 15 15))), some (.int (N 1)), some (.long (L (pk G))), none, some (.int (N (G x))), some (.int (N (G y))), some (.int (N (G x)))]) (v := (N (G x)) <<< (N 1 &&& 31)) (v' := N (2 * (G x))) (st' := []) (h' := h) rfl trivial (NHL (by omega) (by omega)) ?_
  refine Runs.topI 3 (cs := []) (pc' := 114) (pl' := [some (.int (N (encC 2 x y 15 15))), some (.int (N 1)), some (.long (L (pk G))), none, some (.int (N (G x))), some (.int (N (G y))), some (.int (N (G x)))]) (v := (N (G x)) <<< (N 2 &&& 31)) (v' := N (4 * (G x))) (st' := [.int (N (2 * (G x)))]) (h' := h) rfl trivial (NHL (by omega) (by omega)) ?_
  refine Runs.topI 1 (cs := []) (pc' := 115) (pl' := [some (.int (N (encC 2 x y 15 15))), some (.int (N 1)), some (.long (L (pk G))), none, some (.int (N (G x))), some (.int (N (G y))), some (.int (N (G x)))]) (v := (N (2 * (G x))) ||| (N (4 * (G x)))) (v' := N ((2 * (G x)) ||| (4 * (G x)))) (st' := []) (h' := h) rfl trivial (N_or _ _) ?_
  refine Runs.topI 3 (cs := []) (pc' := 119) (pl' := [some (.int (N (encC 2 x y 15 15))), some (.int (N 1)), some (.long (L (pk G))), none, some (.int (N (G x))), some (.int (N (G y))), some (.int (N (G x)))]) (v := (N (G x)) <<< (N 3 &&& 31)) (v' := N (8 * (G x))) (st' := [.int (N ((2 * (G x)) ||| (4 * (G x))))]) (h' := h) rfl trivial (NHL (by omega) (by omega)) ?_
  refine Runs.topI 1 (cs := []) (pc' := 120) (pl' := [some (.int (N (encC 2 x y 15 15))), some (.int (N 1)), some (.long (L (pk G))), none, some (.int (N (G x))), some (.int (N (G y))), some (.int (N (G x)))]) (v := (N ((2 * (G x)) ||| (4 * (G x)))) ||| (N (8 * (G x)))) (v' := N (((2 * (G x)) ||| (4 * (G x))) ||| (8 * (G x)))) (st' := []) (h' := h) rfl trivial (N_or _ _) ?_
  refine Runs.topI 2 (cs := []) (pc' := 123) (pl' := [some (.int (N (encC 2 x y 15 15))), some (.int (N 1)), some (.long (L (pk G))), none, some (.int (N (G x))), some (.int (N (G y))), some (.int (N (G x)))]) (v := (N (((2 * (G x)) ||| (4 * (G x))) ||| (8 * (G x)))) &&& (N 15)) (v' := N ((((2 * (G x)) ||| (4 * (G x))) ||| (8 * (G x))) % 16)) (st' := []) (h' := h) rfl trivial (N_and15 _) ?_
  exact Runs.retE (cs := []) rfl trivial (retI rfl) rfl
theorem c_choices_30 {G : Nat → Nat} {x y : Nat} {h : PH} (hG : M16 G) (hzz : Z12 G) (hx : x < 12) (hy : y < 12) : Call 1 mX0_choices [.int (N (encC 3 x y 15 15)), .int (N 0), .long (L (pk G))] h (.inl (some (.int (N ((2 * G y ||| G y / 2) % 16))))) h 0 := by
  have gx := hG x hx
  have gy := hG y hy
  refine Runs.go 3 (cs := []) (pc' := 3) (pl' := [some (.int (N (encC 3 x y 15 15))), some (.int (N 0)), some (.long (L (pk G))), none, none, none, none]) (st' := [.int (N 0), .int (N (encC 3 x y 15 15)), .long (L (pk G))]) (h' := h) rfl trivial ?_
  refine Runs.cal (y := mX0_item) (as := [.int (N (encC 3 x y 15 15)), .int (N 0)]) (rest := [.long (L (pk G))]) (pc' := 6) (cs := []) (v := some (.int (N (itC (encC 3 x y 15 15) 0)))) (h1 := h) rfl trivial (by decide) (c_item (enc_lt (by omega) (by omega) (by omega) (by omega) (by omega)) (by decide)) ?_
  show Runs _ _ 6 _ [.int (N (itC (encC 3 x y 15 15) 0)), .long (L (pk G))] _ _ _ _
  rw [show N (itC (encC 3 x y 15 15) 0) = N x from congrArg N (enc_x (by omega) (by omega))]
  refine Runs.cal (y := mX1_placesOf) (as := [.long (L (pk G)), .int (N x)]) (rest := []) (pc' := 9) (cs := []) (v := some (.int (N (G x)))) (h1 := h) rfl trivial (by decide) (c_placesOf hG hzz (by omega)) ?_
  show Runs _ _ 9 _ [.int (N (G x))] _ _ _ _
  refine Runs.go 4 (cs := []) (pc' := 14) (pl' := [some (.int (N (encC 3 x y 15 15))), some (.int (N 0)), some (.long (L (pk G))), none, some (.int (N (G x))), none, none]) (st' := [.int (N 1), .int (N (encC 3 x y 15 15)), .long (L (pk G))]) (h' := h) rfl trivial ?_
  refine Runs.cal (y := mX0_item) (as := [.int (N (encC 3 x y 15 15)), .int (N 1)]) (rest := [.long (L (pk G))]) (pc' := 17) (cs := []) (v := some (.int (N (itC (encC 3 x y 15 15) 1)))) (h1 := h) rfl trivial (by decide) (c_item (enc_lt (by omega) (by omega) (by omega) (by omega) (by omega)) (by decide)) ?_
  show Runs _ _ 17 _ [.int (N (itC (encC 3 x y 15 15) 1)), .long (L (pk G))] _ _ _ _
  rw [show N (itC (encC 3 x y 15 15) 1) = N y from congrArg N (enc_y (by omega) (by omega) (by omega))]
  refine Runs.cal (y := mX1_placesOf) (as := [.long (L (pk G)), .int (N y)]) (rest := []) (pc' := 20) (cs := []) (v := some (.int (N (G y)))) (h1 := h) rfl trivial (by decide) (c_placesOf hG hzz (by omega)) ?_
  show Runs _ _ 20 _ [.int (N (G y))] _ _ _ _
  refine Runs.go 3 (cs := []) (pc' := bif decide (¬ (N 0) = 0) then 31 else 26) (pl' := [some (.int (N (encC 3 x y 15 15))), some (.int (N 0)), some (.long (L (pk G))), none, some (.int (N (G x))), some (.int (N (G y))), none]) (st' := []) (h' := h) rfl trivial ?_
  refine Runs.brF (decide_eq_false (by decide)) ?_
  refine Runs.go 4 (cs := []) (pc' := 36) (pl' := [some (.int (N (encC 3 x y 15 15))), some (.int (N 0)), some (.long (L (pk G))), none, some (.int (N (G x))), some (.int (N (G y))), some (.int (N (G y)))]) (st' := [.int (N (encC 3 x y 15 15))]) (h' := h) rfl trivial ?_
  refine Runs.cal (y := mX0_sort) (as := [.int (N (encC 3 x y 15 15))]) (rest := []) (pc' := 39) (cs := []) (v := some (.int (N ((encC 3 x y 15 15) % 16)))) (h1 := h) rfl trivial (by decide) (c_sort) ?_
  show Runs _ _ 39 _ [.int (N ((encC 3 x y 15 15) % 16))] _ _ _ _
  rw [show N ((encC 3 x y 15 15) % 16) = N 3 from congrArg N (enc_s (by omega))]
  refine Runs.topI 4 (cs := [(0 : Int) ≤ ((39 : Nat) : Int) + (85)]) (pc' := 128) (pl' := [some (.int (N (encC 3 x y 15 15))), some (.int (N 0)), some (.long (L (pk G))), none, some (.int (N (G x))), some (.int (N (G y))), some (.int (N (G y)))]) (v := (N (G y)) <<< (N 1 &&& 31)) (v' := N (2 * (G y))) (st' := []) (h' := h) rfl ⟨(by decide), trivial⟩ (NHL (by omega) (by omega)) ?_
  refine Runs.topI 3 (cs := []) (pc' := 132) (pl' := [some (.int (N (encC 3 x y 15 15))), some (.int (N 0)), some (.long (L (pk G))), none, some (.int (N (G x))), some (.int (N (G y))), some (.int (N (G y)))]) (v := (N (G y)) >>> (N 1 &&& 31)) (v' := N ((G y) / 2)) (st' := [.int (N (2 * (G y)))]) (h' := h) rfl trivial (NHR (by omega) (by omega) rfl) ?_
  refine Runs.topI 1 (cs := []) (pc' := 133) (pl' := [some (.int (N (encC 3 x y 15 15))), some (.int (N 0)), some (.long (L (pk G))), none, some (.int (N (G x))), some (.int (N (G y))), some (.int (N (G y)))]) (v := (N (2 * (G y))) ||| (N ((G y) / 2))) (v' := N ((2 * (G y)) ||| ((G y) / 2))) (st' := []) (h' := h) rfl trivial (N_or _ _) ?_
  refine Runs.topI 2 (cs := []) (pc' := 136) (pl' := [some (.int (N (encC 3 x y 15 15))), some (.int (N 0)), some (.long (L (pk G))), none, some (.int (N (G x))), some (.int (N (G y))), some (.int (N (G y)))]) (v := (N ((2 * (G y)) ||| ((G y) / 2))) &&& (N 15)) (v' := N (((2 * (G y)) ||| ((G y) / 2)) % 16)) (st' := []) (h' := h) rfl trivial (N_and15 _) ?_
  exact Runs.retE (cs := []) rfl trivial (retI rfl) rfl
theorem c_choices_31 {G : Nat → Nat} {x y : Nat} {h : PH} (hG : M16 G) (hzz : Z12 G) (hx : x < 12) (hy : y < 12) : Call 1 mX0_choices [.int (N (encC 3 x y 15 15)), .int (N 1), .long (L (pk G))] h (.inl (some (.int (N ((2 * G x ||| G x / 2) % 16))))) h 0 := by
  have gx := hG x hx
  have gy := hG y hy
  refine Runs.go 3 (cs := []) (pc' := 3) (pl' := [some (.int (N (encC 3 x y 15 15))), some (.int (N 1)), some (.long (L (pk G))), none, none, none, none]) (st' := [.int (N 0), .int (N (encC 3 x y 15 15)), .long (L (pk G))]) (h' := h) rfl trivial ?_
  refine Runs.cal (y := mX0_item) (as := [.int (N (encC 3 x y 15 15)), .int (N 0)]) (rest := [.long (L (pk G))]) (pc' := 6) (cs := []) (v := some (.int (N (itC (encC 3 x y 15 15) 0)))) (h1 := h) rfl trivial (by decide) (c_item (enc_lt (by omega) (by omega) (by omega) (by omega) (by omega)) (by decide)) ?_
  show Runs _ _ 6 _ [.int (N (itC (encC 3 x y 15 15) 0)), .long (L (pk G))] _ _ _ _
  rw [show N (itC (encC 3 x y 15 15) 0) = N x from congrArg N (enc_x (by omega) (by omega))]
  refine Runs.cal (y := mX1_placesOf) (as := [.long (L (pk G)), .int (N x)]) (rest := []) (pc' := 9) (cs := []) (v := some (.int (N (G x)))) (h1 := h) rfl trivial (by decide) (c_placesOf hG hzz (by omega)) ?_
  show Runs _ _ 9 _ [.int (N (G x))] _ _ _ _
  refine Runs.go 4 (cs := []) (pc' := 14) (pl' := [some (.int (N (encC 3 x y 15 15))), some (.int (N 1)), some (.long (L (pk G))), none, some (.int (N (G x))), none, none]) (st' := [.int (N 1), .int (N (encC 3 x y 15 15)), .long (L (pk G))]) (h' := h) rfl trivial ?_
  refine Runs.cal (y := mX0_item) (as := [.int (N (encC 3 x y 15 15)), .int (N 1)]) (rest := [.long (L (pk G))]) (pc' := 17) (cs := []) (v := some (.int (N (itC (encC 3 x y 15 15) 1)))) (h1 := h) rfl trivial (by decide) (c_item (enc_lt (by omega) (by omega) (by omega) (by omega) (by omega)) (by decide)) ?_
  show Runs _ _ 17 _ [.int (N (itC (encC 3 x y 15 15) 1)), .long (L (pk G))] _ _ _ _
  rw [show N (itC (encC 3 x y 15 15) 1) = N y from congrArg N (enc_y (by omega) (by omega) (by omega))]
  refine Runs.cal (y := mX1_placesOf) (as := [.long (L (pk G)), .int (N y)]) (rest := []) (pc' := 20) (cs := []) (v := some (.int (N (G y)))) (h1 := h) rfl trivial (by decide) (c_placesOf hG hzz (by omega)) ?_
  show Runs _ _ 20 _ [.int (N (G y))] _ _ _ _
  refine Runs.go 3 (cs := []) (pc' := bif decide (¬ (N 1) = 0) then 31 else 26) (pl' := [some (.int (N (encC 3 x y 15 15))), some (.int (N 1)), some (.long (L (pk G))), none, some (.int (N (G x))), some (.int (N (G y))), none]) (st' := []) (h' := h) rfl trivial ?_
  refine Runs.brT (decide_eq_true (by decide)) ?_
  refine Runs.go 3 (cs := []) (pc' := 36) (pl' := [some (.int (N (encC 3 x y 15 15))), some (.int (N 1)), some (.long (L (pk G))), none, some (.int (N (G x))), some (.int (N (G y))), some (.int (N (G x)))]) (st' := [.int (N (encC 3 x y 15 15))]) (h' := h) rfl trivial ?_
  refine Runs.cal (y := mX0_sort) (as := [.int (N (encC 3 x y 15 15))]) (rest := []) (pc' := 39) (cs := []) (v := some (.int (N ((encC 3 x y 15 15) % 16)))) (h1 := h) rfl trivial (by decide) (c_sort) ?_
  show Runs _ _ 39 _ [.int (N ((encC 3 x y 15 15) % 16))] _ _ _ _
  rw [show N ((encC 3 x y 15 15) % 16) = N 3 from congrArg N (enc_s (by omega))]
  refine Runs.topI 4 (cs := [(0 : Int) ≤ ((39 : Nat) : Int) + (85)]) (pc' := 128) (pl' := [some (.int (N (encC 3 x y 15 15))), some (.int (N 1)), some (.long (L (pk G))), none, some (.int (N (G x))), some (.int (N (G y))), some (.int (N (G x)))]) (v := (N (G x)) <<< (N 1 &&& 31)) (v' := N (2 * (G x))) (st' := []) (h' := h) rfl ⟨(by decide), trivial⟩ (NHL (by omega) (by omega)) ?_
  refine Runs.topI 3 (cs := []) (pc' := 132) (pl' := [some (.int (N (encC 3 x y 15 15))), some (.int (N 1)), some (.long (L (pk G))), none, some (.int (N (G x))), some (.int (N (G y))), some (.int (N (G x)))]) (v := (N (G x)) >>> (N 1 &&& 31)) (v' := N ((G x) / 2)) (st' := [.int (N (2 * (G x)))]) (h' := h) rfl trivial (NHR (by omega) (by omega) rfl) ?_
  refine Runs.topI 1 (cs := []) (pc' := 133) (pl' := [some (.int (N (encC 3 x y 15 15))), some (.int (N 1)), some (.long (L (pk G))), none, some (.int (N (G x))), some (.int (N (G y))), some (.int (N (G x)))]) (v := (N (2 * (G x))) ||| (N ((G x) / 2))) (v' := N ((2 * (G x)) ||| ((G x) / 2))) (st' := []) (h' := h) rfl trivial (N_or _ _) ?_
  refine Runs.topI 2 (cs := []) (pc' := 136) (pl' := [some (.int (N (encC 3 x y 15 15))), some (.int (N 1)), some (.long (L (pk G))), none, some (.int (N (G x))), some (.int (N (G y))), some (.int (N (G x)))]) (v := (N ((2 * (G x)) ||| ((G x) / 2))) &&& (N 15)) (v' := N (((2 * (G x)) ||| ((G x) / 2)) % 16)) (st' := []) (h' := h) rfl trivial (N_and15 _) ?_
  exact Runs.retE (cs := []) rfl trivial (retI rfl) rfl
theorem c_choices_40 {G : Nat → Nat} {x p : Nat} {h : PH} (hG : M16 G) (hzz : Z12 G) (hx : x < 12) (hp : p < 4) : Call 1 mX0_choices [.int (N (encC 4 x 15 15 p)), .int (N 0), .long (L (pk G))] h (.inl (some (.int (N (2 ^ p))))) h 0 := by
  have gx := hG x hx
  have hpp := p2_lt hp
  have g15 : G 15 = 0 := hzz 15 (by decide)
  refine Runs.go 3 (cs := []) (pc' := 3) (pl' := [some (.int (N (encC 4 x 15 15 p))), some (.int (N 0)), some (.long (L (pk G))), none, none, none, none]) (st' := [.int (N 0), .int (N (encC 4 x 15 15 p)), .long (L (pk G))]) (h' := h) rfl trivial ?_
  refine Runs.cal (y := mX0_item) (as := [.int (N (encC 4 x 15 15 p)), .int (N 0)]) (rest := [.long (L (pk G))]) (pc' := 6) (cs := []) (v := some (.int (N (itC (encC 4 x 15 15 p) 0)))) (h1 := h) rfl trivial (by decide) (c_item (enc_lt (by omega) (by omega) (by omega) (by omega) (by omega)) (by decide)) ?_
  show Runs _ _ 6 _ [.int (N (itC (encC 4 x 15 15 p) 0)), .long (L (pk G))] _ _ _ _
  rw [show N (itC (encC 4 x 15 15 p) 0) = N x from congrArg N (enc_x (by omega) (by omega))]
  refine Runs.cal (y := mX1_placesOf) (as := [.long (L (pk G)), .int (N x)]) (rest := []) (pc' := 9) (cs := []) (v := some (.int (N (G x)))) (h1 := h) rfl trivial (by decide) (c_placesOf hG hzz (by omega)) ?_
  show Runs _ _ 9 _ [.int (N (G x))] _ _ _ _
  refine Runs.go 4 (cs := []) (pc' := 14) (pl' := [some (.int (N (encC 4 x 15 15 p))), some (.int (N 0)), some (.long (L (pk G))), none, some (.int (N (G x))), none, none]) (st' := [.int (N 1), .int (N (encC 4 x 15 15 p)), .long (L (pk G))]) (h' := h) rfl trivial ?_
  refine Runs.cal (y := mX0_item) (as := [.int (N (encC 4 x 15 15 p)), .int (N 1)]) (rest := [.long (L (pk G))]) (pc' := 17) (cs := []) (v := some (.int (N (itC (encC 4 x 15 15 p) 1)))) (h1 := h) rfl trivial (by decide) (c_item (enc_lt (by omega) (by omega) (by omega) (by omega) (by omega)) (by decide)) ?_
  show Runs _ _ 17 _ [.int (N (itC (encC 4 x 15 15 p) 1)), .long (L (pk G))] _ _ _ _
  rw [show N (itC (encC 4 x 15 15 p) 1) = N 15 from congrArg N (enc_y (by omega) (by omega) (by omega))]
  refine Runs.cal (y := mX1_placesOf) (as := [.long (L (pk G)), .int (N 15)]) (rest := []) (pc' := 20) (cs := []) (v := some (.int (N (G 15)))) (h1 := h) rfl trivial (by decide) (c_placesOf hG hzz (by omega)) ?_
  show Runs _ _ 20 _ [.int (N (G 15))] _ _ _ _
  refine Runs.go 3 (cs := []) (pc' := bif decide (¬ (N 0) = 0) then 31 else 26) (pl' := [some (.int (N (encC 4 x 15 15 p))), some (.int (N 0)), some (.long (L (pk G))), none, some (.int (N (G x))), some (.int (N (G 15))), none]) (st' := []) (h' := h) rfl trivial ?_
  refine Runs.brF (decide_eq_false (by decide)) ?_
  refine Runs.go 4 (cs := []) (pc' := 36) (pl' := [some (.int (N (encC 4 x 15 15 p))), some (.int (N 0)), some (.long (L (pk G))), none, some (.int (N (G x))), some (.int (N (G 15))), some (.int (N (G 15)))]) (st' := [.int (N (encC 4 x 15 15 p))]) (h' := h) rfl trivial ?_
  refine Runs.cal (y := mX0_sort) (as := [.int (N (encC 4 x 15 15 p))]) (rest := []) (pc' := 39) (cs := []) (v := some (.int (N ((encC 4 x 15 15 p) % 16)))) (h1 := h) rfl trivial (by decide) (c_sort) ?_
  show Runs _ _ 39 _ [.int (N ((encC 4 x 15 15 p) % 16))] _ _ _ _
  rw [show N ((encC 4 x 15 15 p) % 16) = N 4 from congrArg N (enc_s (by omega))]
  refine Runs.go 3 (cs := [(0 : Int) ≤ ((39 : Nat) : Int) + (98)]) (pc' := 139) (pl' := [some (.int (N (encC 4 x 15 15 p))), some (.int (N 0)), some (.long (L (pk G))), none, some (.int (N (G x))), some (.int (N (G 15))), some (.int (N (G 15)))]) (st' := [.int (N (encC 4 x 15 15 p)), .int (N 1)]) (h' := h) rfl ⟨(by decide), trivial⟩ ?_
  refine Runs.cal (y := mX0_place) (as := [.int (N (encC 4 x 15 15 p))]) (rest := [.int (N 1)]) (pc' := 142) (cs := []) (v := some (.int (N ((encC 4 x 15 15 p) / 65536 % 16)))) (h1 := h) rfl trivial (by decide) (c_place (enc_lt (by omega) (by omega) (by omega) (by omega) (by omega))) ?_
  show Runs _ _ 142 _ [.int (N ((encC 4 x 15 15 p) / 65536 % 16)), .int (N 1)] _ _ _ _
  rw [show N ((encC 4 x 15 15 p) / 65536 % 16) = N p from congrArg N (enc_p (by omega) (by omega) (by omega) (by omega) (by omega))]
  refine Runs.topI 1 (cs := []) (pc' := 143) (pl' := [some (.int (N (encC 4 x 15 15 p))), some (.int (N 0)), some (.long (L (pk G))), none, some (.int (N (G x))), some (.int (N (G 15))), some (.int (N (G 15)))]) (v := (N 1) <<< (N p &&& 31)) (v' := N (2 ^ p)) (st' := []) (h' := h) rfl trivial (NHL (by omega) (Nat.one_mul _)) ?_
  exact Runs.retE (cs := []) rfl trivial (retI rfl) rfl
theorem c_choices_50 {G : Nat → Nat} {x p : Nat} {h : PH} (hG : M16 G) (hzz : Z12 G) (hx : x < 12) (hp : p < 4) : Call 1 mX0_choices [.int (N (encC 5 x 15 15 p)), .int (N 0), .long (L (pk G))] h (.inl (some (.int (N (dif 15 (2 ^ p)))))) h 0 := by
  have gx := hG x hx
  have hpp := p2_lt hp
  have g15 : G 15 = 0 := hzz 15 (by decide)
  refine Runs.go 3 (cs := []) (pc' := 3) (pl' := [some (.int (N (encC 5 x 15 15 p))), some (.int (N 0)), some (.long (L (pk G))), none, none, none, none]) (st' := [.int (N 0), .int (N (encC 5 x 15 15 p)), .long (L (pk G))]) (h' := h) rfl trivial ?_
  refine Runs.cal (y := mX0_item) (as := [.int (N (encC 5 x 15 15 p)), .int (N 0)]) (rest := [.long (L (pk G))]) (pc' := 6) (cs := []) (v := some (.int (N (itC (encC 5 x 15 15 p) 0)))) (h1 := h) rfl trivial (by decide) (c_item (enc_lt (by omega) (by omega) (by omega) (by omega) (by omega)) (by decide)) ?_
  show Runs _ _ 6 _ [.int (N (itC (encC 5 x 15 15 p) 0)), .long (L (pk G))] _ _ _ _
  rw [show N (itC (encC 5 x 15 15 p) 0) = N x from congrArg N (enc_x (by omega) (by omega))]
  refine Runs.cal (y := mX1_placesOf) (as := [.long (L (pk G)), .int (N x)]) (rest := []) (pc' := 9) (cs := []) (v := some (.int (N (G x)))) (h1 := h) rfl trivial (by decide) (c_placesOf hG hzz (by omega)) ?_
  show Runs _ _ 9 _ [.int (N (G x))] _ _ _ _
  refine Runs.go 4 (cs := []) (pc' := 14) (pl' := [some (.int (N (encC 5 x 15 15 p))), some (.int (N 0)), some (.long (L (pk G))), none, some (.int (N (G x))), none, none]) (st' := [.int (N 1), .int (N (encC 5 x 15 15 p)), .long (L (pk G))]) (h' := h) rfl trivial ?_
  refine Runs.cal (y := mX0_item) (as := [.int (N (encC 5 x 15 15 p)), .int (N 1)]) (rest := [.long (L (pk G))]) (pc' := 17) (cs := []) (v := some (.int (N (itC (encC 5 x 15 15 p) 1)))) (h1 := h) rfl trivial (by decide) (c_item (enc_lt (by omega) (by omega) (by omega) (by omega) (by omega)) (by decide)) ?_
  show Runs _ _ 17 _ [.int (N (itC (encC 5 x 15 15 p) 1)), .long (L (pk G))] _ _ _ _
  rw [show N (itC (encC 5 x 15 15 p) 1) = N 15 from congrArg N (enc_y (by omega) (by omega) (by omega))]
  refine Runs.cal (y := mX1_placesOf) (as := [.long (L (pk G)), .int (N 15)]) (rest := []) (pc' := 20) (cs := []) (v := some (.int (N (G 15)))) (h1 := h) rfl trivial (by decide) (c_placesOf hG hzz (by omega)) ?_
  show Runs _ _ 20 _ [.int (N (G 15))] _ _ _ _
  refine Runs.go 3 (cs := []) (pc' := bif decide (¬ (N 0) = 0) then 31 else 26) (pl' := [some (.int (N (encC 5 x 15 15 p))), some (.int (N 0)), some (.long (L (pk G))), none, some (.int (N (G x))), some (.int (N (G 15))), none]) (st' := []) (h' := h) rfl trivial ?_
  refine Runs.brF (decide_eq_false (by decide)) ?_
  refine Runs.go 4 (cs := []) (pc' := 36) (pl' := [some (.int (N (encC 5 x 15 15 p))), some (.int (N 0)), some (.long (L (pk G))), none, some (.int (N (G x))), some (.int (N (G 15))), some (.int (N (G 15)))]) (st' := [.int (N (encC 5 x 15 15 p))]) (h' := h) rfl trivial ?_
  refine Runs.cal (y := mX0_sort) (as := [.int (N (encC 5 x 15 15 p))]) (rest := []) (pc' := 39) (cs := []) (v := some (.int (N ((encC 5 x 15 15 p) % 16)))) (h1 := h) rfl trivial (by decide) (c_sort) ?_
  show Runs _ _ 39 _ [.int (N ((encC 5 x 15 15 p) % 16))] _ _ _ _
  rw [show N ((encC 5 x 15 15 p) % 16) = N 5 from congrArg N (enc_s (by omega))]
  refine Runs.go 4 (cs := [(0 : Int) ≤ ((39 : Nat) : Int) + (105)]) (pc' := 148) (pl' := [some (.int (N (encC 5 x 15 15 p))), some (.int (N 0)), some (.long (L (pk G))), none, some (.int (N (G x))), some (.int (N (G 15))), some (.int (N (G 15)))]) (st' := [.int (N (encC 5 x 15 15 p)), .int (N 1), .int (N 15)]) (h' := h) rfl ⟨(by decide), trivial⟩ ?_
  refine Runs.cal (y := mX0_place) (as := [.int (N (encC 5 x 15 15 p))]) (rest := [.int (N 1), .int (N 15)]) (pc' := 151) (cs := []) (v := some (.int (N ((encC 5 x 15 15 p) / 65536 % 16)))) (h1 := h) rfl trivial (by decide) (c_place (enc_lt (by omega) (by omega) (by omega) (by omega) (by omega))) ?_
  show Runs _ _ 151 _ [.int (N ((encC 5 x 15 15 p) / 65536 % 16)), .int (N 1), .int (N 15)] _ _ _ _
  rw [show N ((encC 5 x 15 15 p) / 65536 % 16) = N p from congrArg N (enc_p (by omega) (by omega) (by omega) (by omega) (by omega))]
  refine Runs.topI 1 (cs := []) (pc' := 152) (pl' := [some (.int (N (encC 5 x 15 15 p))), some (.int (N 0)), some (.long (L (pk G))), none, some (.int (N (G x))), some (.int (N (G 15))), some (.int (N (G 15)))]) (v := (N 1) <<< (N p &&& 31)) (v' := N (2 ^ p)) (st' := [.int (N 15)]) (h' := h) rfl trivial (NHL (by omega) (Nat.one_mul _)) ?_
  refine Runs.topI 3 (cs := []) (pc' := 155) (pl' := [some (.int (N (encC 5 x 15 15 p))), some (.int (N 0)), some (.long (L (pk G))), none, some (.int (N (G x))), some (.int (N (G 15))), some (.int (N (G 15)))]) (v := (N 15) &&& ((N (2 ^ p)) ^^^ (-1 : Int32))) (v' := N (dif 15 (2 ^ p))) (st' := []) (h' := h) rfl trivial (N_dif _ _) ?_
  exact Runs.retE (cs := []) rfl trivial (retI rfl) rfl
theorem c_choices_60 {G : Nat → Nat} {x y z : Nat} {h : PH} (hG : M16 G) (hzz : Z12 G) (hx : x < 12) (hy : y < 12) (hz : z < 12) : Call 1 mX0_choices [.int (N (encC 6 x y z 15)), .int (N 0), .long (L (pk G))] h (.inl (some (.int (N (eitF 0 (G x) (G y) (G z)))))) h 0 := by
  have gx := hG x hx
  have gy := hG y hy
  have gz := hG z hz
  refine Runs.go 3 (cs := []) (pc' := 3) (pl' := [some (.int (N (encC 6 x y z 15))), some (.int (N 0)), some (.long (L (pk G))), none, none, none, none]) (st' := [.int (N 0), .int (N (encC 6 x y z 15)), .long (L (pk G))]) (h' := h) rfl trivial ?_
  refine Runs.cal (y := mX0_item) (as := [.int (N (encC 6 x y z 15)), .int (N 0)]) (rest := [.long (L (pk G))]) (pc' := 6) (cs := []) (v := some (.int (N (itC (encC 6 x y z 15) 0)))) (h1 := h) rfl trivial (by decide) (c_item (enc_lt (by omega) (by omega) (by omega) (by omega) (by omega)) (by decide)) ?_
  show Runs _ _ 6 _ [.int (N (itC (encC 6 x y z 15) 0)), .long (L (pk G))] _ _ _ _
  rw [show N (itC (encC 6 x y z 15) 0) = N x from congrArg N (enc_x (by omega) (by omega))]
  refine Runs.cal (y := mX1_placesOf) (as := [.long (L (pk G)), .int (N x)]) (rest := []) (pc' := 9) (cs := []) (v := some (.int (N (G x)))) (h1 := h) rfl trivial (by decide) (c_placesOf hG hzz (by omega)) ?_
  show Runs _ _ 9 _ [.int (N (G x))] _ _ _ _
  refine Runs.go 4 (cs := []) (pc' := 14) (pl' := [some (.int (N (encC 6 x y z 15))), some (.int (N 0)), some (.long (L (pk G))), none, some (.int (N (G x))), none, none]) (st' := [.int (N 1), .int (N (encC 6 x y z 15)), .long (L (pk G))]) (h' := h) rfl trivial ?_
  refine Runs.cal (y := mX0_item) (as := [.int (N (encC 6 x y z 15)), .int (N 1)]) (rest := [.long (L (pk G))]) (pc' := 17) (cs := []) (v := some (.int (N (itC (encC 6 x y z 15) 1)))) (h1 := h) rfl trivial (by decide) (c_item (enc_lt (by omega) (by omega) (by omega) (by omega) (by omega)) (by decide)) ?_
  show Runs _ _ 17 _ [.int (N (itC (encC 6 x y z 15) 1)), .long (L (pk G))] _ _ _ _
  rw [show N (itC (encC 6 x y z 15) 1) = N y from congrArg N (enc_y (by omega) (by omega) (by omega))]
  refine Runs.cal (y := mX1_placesOf) (as := [.long (L (pk G)), .int (N y)]) (rest := []) (pc' := 20) (cs := []) (v := some (.int (N (G y)))) (h1 := h) rfl trivial (by decide) (c_placesOf hG hzz (by omega)) ?_
  show Runs _ _ 20 _ [.int (N (G y))] _ _ _ _
  refine Runs.go 3 (cs := []) (pc' := bif decide (¬ (N 0) = 0) then 31 else 26) (pl' := [some (.int (N (encC 6 x y z 15))), some (.int (N 0)), some (.long (L (pk G))), none, some (.int (N (G x))), some (.int (N (G y))), none]) (st' := []) (h' := h) rfl trivial ?_
  refine Runs.brF (decide_eq_false (by decide)) ?_
  refine Runs.go 4 (cs := []) (pc' := 36) (pl' := [some (.int (N (encC 6 x y z 15))), some (.int (N 0)), some (.long (L (pk G))), none, some (.int (N (G x))), some (.int (N (G y))), some (.int (N (G y)))]) (st' := [.int (N (encC 6 x y z 15))]) (h' := h) rfl trivial ?_
  refine Runs.cal (y := mX0_sort) (as := [.int (N (encC 6 x y z 15))]) (rest := []) (pc' := 39) (cs := []) (v := some (.int (N ((encC 6 x y z 15) % 16)))) (h1 := h) rfl trivial (by decide) (c_sort) ?_
  show Runs _ _ 39 _ [.int (N ((encC 6 x y z 15) % 16))] _ _ _ _
  rw [show N ((encC 6 x y z 15) % 16) = N 6 from congrArg N (enc_s (by omega))]
  refine Runs.go 7 (cs := [(0 : Int) ≤ ((39 : Nat) : Int) + (117)]) (pc' := 164) (pl' := [some (.int (N (encC 6 x y z 15))), some (.int (N 0)), some (.long (L (pk G))), none, some (.int (N (G x))), some (.int (N (G y))), some (.int (N (G y)))]) (st' := [.int (N 2), .int (N (encC 6 x y z 15)), .long (L (pk G)), .int (N (G y)), .int (N (G x)), .int (N 0)]) (h' := h) rfl ⟨(by decide), trivial⟩ ?_
  refine Runs.cal (y := mX0_item) (as := [.int (N (encC 6 x y z 15)), .int (N 2)]) (rest := [.long (L (pk G)), .int (N (G y)), .int (N (G x)), .int (N 0)]) (pc' := 167) (cs := []) (v := some (.int (N (itC (encC 6 x y z 15) 2)))) (h1 := h) rfl trivial (by decide) (c_item (enc_lt (by omega) (by omega) (by omega) (by omega) (by omega)) (by decide)) ?_
  show Runs _ _ 167 _ [.int (N (itC (encC 6 x y z 15) 2)), .long (L (pk G)), .int (N (G y)), .int (N (G x)), .int (N 0)] _ _ _ _
  rw [show N (itC (encC 6 x y z 15) 2) = N z from congrArg N (enc_z (by omega) (by omega) (by omega) (by omega))]
  refine Runs.cal (y := mX1_placesOf) (as := [.long (L (pk G)), .int (N z)]) (rest := [.int (N (G y)), .int (N (G x)), .int (N 0)]) (pc' := 170) (cs := []) (v := some (.int (N (G z)))) (h1 := h) rfl trivial (by decide) (c_placesOf hG hzz (by omega)) ?_
  show Runs _ _ 170 _ [.int (N (G z)), .int (N (G y)), .int (N (G x)), .int (N 0)] _ _ _ _
  refine Runs.cal (y := mX0_eitherChoices) (as := [.int (N 0), .int (N (G x)), .int (N (G y)), .int (N (G z))]) (rest := []) (pc' := 173) (cs := []) (v := some (.int (N (eitF 0 (G x) (G y) (G z))))) (h1 := h) rfl trivial (by decide) (c_eitherChoices_0 (by omega) (by omega) (by omega)) ?_
  show Runs _ _ 173 _ [.int (N (eitF 0 (G x) (G y) (G z)))] _ _ _ _
  exact Runs.retE (cs := []) rfl trivial (retI rfl) rfl
theorem c_choices_61 {G : Nat → Nat} {x y z : Nat} {h : PH} (hG : M16 G) (hzz : Z12 G) (hx : x < 12) (hy : y < 12) (hz : z < 12) : Call 1 mX0_choices [.int (N (encC 6 x y z 15)), .int (N 1), .long (L (pk G))] h (.inl (some (.int (N (eitF 1 (G x) (G y) (G z)))))) h 0 := by
  have gx := hG x hx
  have gy := hG y hy
  have gz := hG z hz
  refine Runs.go 3 (cs := []) (pc' := 3) (pl' := [some (.int (N (encC 6 x y z 15))), some (.int (N 1)), some (.long (L (pk G))), none, none, none, none]) (st' := [.int (N 0), .int (N (encC 6 x y z 15)), .long (L (pk G))]) (h' := h) rfl trivial ?_
  refine Runs.cal (y := mX0_item) (as := [.int (N (encC 6 x y z 15)), .int (N 0)]) (rest := [.long (L (pk G))]) (pc' := 6) (cs := []) (v := some (.int (N (itC (encC 6 x y z 15) 0)))) (h1 := h) rfl trivial (by decide) (c_item (enc_lt (by omega) (by omega) (by omega) (by omega) (by omega)) (by decide)) ?_
  show Runs _ _ 6 _ [.int (N (itC (encC 6 x y z 15) 0)), .long (L (pk G))] _ _ _ _
  rw [show N (itC (encC 6 x y z 15) 0) = N x from congrArg N (enc_x (by omega) (by omega))]
  refine Runs.cal (y := mX1_placesOf) (as := [.long (L (pk G)), .int (N x)]) (rest := []) (pc' := 9) (cs := []) (v := some (.int (N (G x)))) (h1 := h) rfl trivial (by decide) (c_placesOf hG hzz (by omega)) ?_
  show Runs _ _ 9 _ [.int (N (G x))] _ _ _ _
  refine Runs.go 4 (cs := []) (pc' := 14) (pl' := [some (.int (N (encC 6 x y z 15))), some (.int (N 1)), some (.long (L (pk G))), none, some (.int (N (G x))), none, none]) (st' := [.int (N 1), .int (N (encC 6 x y z 15)), .long (L (pk G))]) (h' := h) rfl trivial ?_
  refine Runs.cal (y := mX0_item) (as := [.int (N (encC 6 x y z 15)), .int (N 1)]) (rest := [.long (L (pk G))]) (pc' := 17) (cs := []) (v := some (.int (N (itC (encC 6 x y z 15) 1)))) (h1 := h) rfl trivial (by decide) (c_item (enc_lt (by omega) (by omega) (by omega) (by omega) (by omega)) (by decide)) ?_
  show Runs _ _ 17 _ [.int (N (itC (encC 6 x y z 15) 1)), .long (L (pk G))] _ _ _ _
  rw [show N (itC (encC 6 x y z 15) 1) = N y from congrArg N (enc_y (by omega) (by omega) (by omega))]
  refine Runs.cal (y := mX1_placesOf) (as := [.long (L (pk G)), .int (N y)]) (rest := []) (pc' := 20) (cs := []) (v := some (.int (N (G y)))) (h1 := h) rfl trivial (by decide) (c_placesOf hG hzz (by omega)) ?_
  show Runs _ _ 20 _ [.int (N (G y))] _ _ _ _
  refine Runs.go 3 (cs := []) (pc' := bif decide (¬ (N 1) = 0) then 31 else 26) (pl' := [some (.int (N (encC 6 x y z 15))), some (.int (N 1)), some (.long (L (pk G))), none, some (.int (N (G x))), some (.int (N (G y))), none]) (st' := []) (h' := h) rfl trivial ?_
  refine Runs.brT (decide_eq_true (by decide)) ?_
  refine Runs.go 3 (cs := []) (pc' := 36) (pl' := [some (.int (N (encC 6 x y z 15))), some (.int (N 1)), some (.long (L (pk G))), none, some (.int (N (G x))), some (.int (N (G y))), some (.int (N (G x)))]) (st' := [.int (N (encC 6 x y z 15))]) (h' := h) rfl trivial ?_
  refine Runs.cal (y := mX0_sort) (as := [.int (N (encC 6 x y z 15))]) (rest := []) (pc' := 39) (cs := []) (v := some (.int (N ((encC 6 x y z 15) % 16)))) (h1 := h) rfl trivial (by decide) (c_sort) ?_
  show Runs _ _ 39 _ [.int (N ((encC 6 x y z 15) % 16))] _ _ _ _
  rw [show N ((encC 6 x y z 15) % 16) = N 6 from congrArg N (enc_s (by omega))]
  refine Runs.go 7 (cs := [(0 : Int) ≤ ((39 : Nat) : Int) + (117)]) (pc' := 164) (pl' := [some (.int (N (encC 6 x y z 15))), some (.int (N 1)), some (.long (L (pk G))), none, some (.int (N (G x))), some (.int (N (G y))), some (.int (N (G x)))]) (st' := [.int (N 2), .int (N (encC 6 x y z 15)), .long (L (pk G)), .int (N (G y)), .int (N (G x)), .int (N 1)]) (h' := h) rfl ⟨(by decide), trivial⟩ ?_
  refine Runs.cal (y := mX0_item) (as := [.int (N (encC 6 x y z 15)), .int (N 2)]) (rest := [.long (L (pk G)), .int (N (G y)), .int (N (G x)), .int (N 1)]) (pc' := 167) (cs := []) (v := some (.int (N (itC (encC 6 x y z 15) 2)))) (h1 := h) rfl trivial (by decide) (c_item (enc_lt (by omega) (by omega) (by omega) (by omega) (by omega)) (by decide)) ?_
  show Runs _ _ 167 _ [.int (N (itC (encC 6 x y z 15) 2)), .long (L (pk G)), .int (N (G y)), .int (N (G x)), .int (N 1)] _ _ _ _
  rw [show N (itC (encC 6 x y z 15) 2) = N z from congrArg N (enc_z (by omega) (by omega) (by omega) (by omega))]
  refine Runs.cal (y := mX1_placesOf) (as := [.long (L (pk G)), .int (N z)]) (rest := [.int (N (G y)), .int (N (G x)), .int (N 1)]) (pc' := 170) (cs := []) (v := some (.int (N (G z)))) (h1 := h) rfl trivial (by decide) (c_placesOf hG hzz (by omega)) ?_
  show Runs _ _ 170 _ [.int (N (G z)), .int (N (G y)), .int (N (G x)), .int (N 1)] _ _ _ _
  refine Runs.cal (y := mX0_eitherChoices) (as := [.int (N 1), .int (N (G x)), .int (N (G y)), .int (N (G z))]) (rest := []) (pc' := 173) (cs := []) (v := some (.int (N (eitF 1 (G x) (G y) (G z))))) (h1 := h) rfl trivial (by decide) (c_eitherChoices_1 (by omega) (by omega) (by omega)) ?_
  show Runs _ _ 173 _ [.int (N (eitF 1 (G x) (G y) (G z)))] _ _ _ _
  exact Runs.retE (cs := []) rfl trivial (retI rfl) rfl
theorem c_choices_62 {G : Nat → Nat} {x y z : Nat} {h : PH} (hG : M16 G) (hzz : Z12 G) (hx : x < 12) (hy : y < 12) (hz : z < 12) : Call 1 mX0_choices [.int (N (encC 6 x y z 15)), .int (N 2), .long (L (pk G))] h (.inl (some (.int (N (eitF 2 (G x) (G y) (G z)))))) h 0 := by
  have gx := hG x hx
  have gy := hG y hy
  have gz := hG z hz
  refine Runs.go 3 (cs := []) (pc' := 3) (pl' := [some (.int (N (encC 6 x y z 15))), some (.int (N 2)), some (.long (L (pk G))), none, none, none, none]) (st' := [.int (N 0), .int (N (encC 6 x y z 15)), .long (L (pk G))]) (h' := h) rfl trivial ?_
  refine Runs.cal (y := mX0_item) (as := [.int (N (encC 6 x y z 15)), .int (N 0)]) (rest := [.long (L (pk G))]) (pc' := 6) (cs := []) (v := some (.int (N (itC (encC 6 x y z 15) 0)))) (h1 := h) rfl trivial (by decide) (c_item (enc_lt (by omega) (by omega) (by omega) (by omega) (by omega)) (by decide)) ?_
  show Runs _ _ 6 _ [.int (N (itC (encC 6 x y z 15) 0)), .long (L (pk G))] _ _ _ _
  rw [show N (itC (encC 6 x y z 15) 0) = N x from congrArg N (enc_x (by omega) (by omega))]
  refine Runs.cal (y := mX1_placesOf) (as := [.long (L (pk G)), .int (N x)]) (rest := []) (pc' := 9) (cs := []) (v := some (.int (N (G x)))) (h1 := h) rfl trivial (by decide) (c_placesOf hG hzz (by omega)) ?_
  show Runs _ _ 9 _ [.int (N (G x))] _ _ _ _
  refine Runs.go 4 (cs := []) (pc' := 14) (pl' := [some (.int (N (encC 6 x y z 15))), some (.int (N 2)), some (.long (L (pk G))), none, some (.int (N (G x))), none, none]) (st' := [.int (N 1), .int (N (encC 6 x y z 15)), .long (L (pk G))]) (h' := h) rfl trivial ?_
  refine Runs.cal (y := mX0_item) (as := [.int (N (encC 6 x y z 15)), .int (N 1)]) (rest := [.long (L (pk G))]) (pc' := 17) (cs := []) (v := some (.int (N (itC (encC 6 x y z 15) 1)))) (h1 := h) rfl trivial (by decide) (c_item (enc_lt (by omega) (by omega) (by omega) (by omega) (by omega)) (by decide)) ?_
  show Runs _ _ 17 _ [.int (N (itC (encC 6 x y z 15) 1)), .long (L (pk G))] _ _ _ _
  rw [show N (itC (encC 6 x y z 15) 1) = N y from congrArg N (enc_y (by omega) (by omega) (by omega))]
  refine Runs.cal (y := mX1_placesOf) (as := [.long (L (pk G)), .int (N y)]) (rest := []) (pc' := 20) (cs := []) (v := some (.int (N (G y)))) (h1 := h) rfl trivial (by decide) (c_placesOf hG hzz (by omega)) ?_
  show Runs _ _ 20 _ [.int (N (G y))] _ _ _ _
  refine Runs.go 3 (cs := []) (pc' := bif decide (¬ (N 2) = 0) then 31 else 26) (pl' := [some (.int (N (encC 6 x y z 15))), some (.int (N 2)), some (.long (L (pk G))), none, some (.int (N (G x))), some (.int (N (G y))), none]) (st' := []) (h' := h) rfl trivial ?_
  refine Runs.brT (decide_eq_true (by decide)) ?_
  refine Runs.go 3 (cs := []) (pc' := 36) (pl' := [some (.int (N (encC 6 x y z 15))), some (.int (N 2)), some (.long (L (pk G))), none, some (.int (N (G x))), some (.int (N (G y))), some (.int (N (G x)))]) (st' := [.int (N (encC 6 x y z 15))]) (h' := h) rfl trivial ?_
  refine Runs.cal (y := mX0_sort) (as := [.int (N (encC 6 x y z 15))]) (rest := []) (pc' := 39) (cs := []) (v := some (.int (N ((encC 6 x y z 15) % 16)))) (h1 := h) rfl trivial (by decide) (c_sort) ?_
  show Runs _ _ 39 _ [.int (N ((encC 6 x y z 15) % 16))] _ _ _ _
  rw [show N ((encC 6 x y z 15) % 16) = N 6 from congrArg N (enc_s (by omega))]
  refine Runs.go 7 (cs := [(0 : Int) ≤ ((39 : Nat) : Int) + (117)]) (pc' := 164) (pl' := [some (.int (N (encC 6 x y z 15))), some (.int (N 2)), some (.long (L (pk G))), none, some (.int (N (G x))), some (.int (N (G y))), some (.int (N (G x)))]) (st' := [.int (N 2), .int (N (encC 6 x y z 15)), .long (L (pk G)), .int (N (G y)), .int (N (G x)), .int (N 2)]) (h' := h) rfl ⟨(by decide), trivial⟩ ?_
  refine Runs.cal (y := mX0_item) (as := [.int (N (encC 6 x y z 15)), .int (N 2)]) (rest := [.long (L (pk G)), .int (N (G y)), .int (N (G x)), .int (N 2)]) (pc' := 167) (cs := []) (v := some (.int (N (itC (encC 6 x y z 15) 2)))) (h1 := h) rfl trivial (by decide) (c_item (enc_lt (by omega) (by omega) (by omega) (by omega) (by omega)) (by decide)) ?_
  show Runs _ _ 167 _ [.int (N (itC (encC 6 x y z 15) 2)), .long (L (pk G)), .int (N (G y)), .int (N (G x)), .int (N 2)] _ _ _ _
  rw [show N (itC (encC 6 x y z 15) 2) = N z from congrArg N (enc_z (by omega) (by omega) (by omega) (by omega))]
  refine Runs.cal (y := mX1_placesOf) (as := [.long (L (pk G)), .int (N z)]) (rest := [.int (N (G y)), .int (N (G x)), .int (N 2)]) (pc' := 170) (cs := []) (v := some (.int (N (G z)))) (h1 := h) rfl trivial (by decide) (c_placesOf hG hzz (by omega)) ?_
  show Runs _ _ 170 _ [.int (N (G z)), .int (N (G y)), .int (N (G x)), .int (N 2)] _ _ _ _
  refine Runs.cal (y := mX0_eitherChoices) (as := [.int (N 2), .int (N (G x)), .int (N (G y)), .int (N (G z))]) (rest := []) (pc' := 173) (cs := []) (v := some (.int (N (eitF 2 (G x) (G y) (G z))))) (h1 := h) rfl trivial (by decide) (c_eitherChoices_2 (by omega) (by omega) (by omega)) ?_
  show Runs _ _ 173 _ [.int (N (eitF 2 (G x) (G y) (G z)))] _ _ _ _
  exact Runs.retE (cs := []) rfl trivial (retI rfl) rfl
def sgl (x l : Nat) : Nat → Nat := fun i => if i = x then l else 0
theorem sgl_16 {x l : Nat} (h : l < 16) : M16 (sgl x l) := fun j _ => by
  unfold sgl
  split
  · exact h
  · decide
theorem sgl_pk {x l : Nat} (hx : x < 12) (h : l < 16) : l * 2 ^ (4 * x) = pk (sgl x l) := by
  refine zk_ext (sgl_16 h) ?_ (fun i p hi hp => ?_)
  · have e : 2 ^ (4 * x) ≤ 2 ^ 44 := Nat.pow_le_pow_right (by decide) (by omega)
    have e2 : l * 2 ^ (4 * x) ≤ 15 * 2 ^ 44 := Nat.mul_le_mul (by omega) e
    exact Nat.lt_of_le_of_lt e2 (by decide)
  · rw [tb_mul]
    unfold sgl
    by_cases e : i = x
    · rw [if_pos e, decide_eq_true (by omega), Bool.true_and, show 4 * i + p - 4 * x = p by omega, bt_tb]
    · rw [if_neg e, bt_zero]
      by_cases h2 : 4 * x ≤ 4 * i + p
      · rw [Nat.testBit_lt_two_pow (Nat.lt_of_lt_of_le h (show 2 ^ 4 ≤ 2 ^ (4 * i + p - 4 * x) from Nat.pow_le_pow_right (by decide) (by omega))), Bool.and_false]
      · rw [decide_eq_false h2, Bool.false_and]
theorem sgl_0 {x l : Nat} (hx : x < 12) (h : l < 16) : L 0 ||| L (l * 2 ^ (4 * x)) = L (pk (sgl x l)) := by rw [L_or, Nat.zero_or, sgl_pk hx h]
theorem sgl_s {F : Nat → Nat} {x l : Nat} (hF : M16 F) (hx : x < 12) (h : l < 16) : L (pk F) ||| L (l * 2 ^ (4 * x)) = L (pk (fun i => F i ||| sgl x l i)) := by rw [L_or, sgl_pk hx h, zk_or hF (sgl_16 h)]
theorem c_ruledOut_0 {G : Nat → Nat} {x y : Nat} {h : PH} (hG : M16 G) (hzz : Z12 G) (hx : x < 12) (hy : y < 12) : Call 2 mX0_ruledOut [.int (N (encC 0 x y 15 15)), .long (L (pk G))] h (.inl (some (.long (L (pk (fun i => sgl x (dif (G x) (G y)) i ||| sgl y (dif (G y) (G x)) i)))))) h 0 := by
  have gx := hG x hx
  have gy := hG y hy
  have hb0 : dif (G x) (G y) < 16 := dif_16 gx
  generalize hl0 : dif (G x) (G y) = l0 at hb0 ⊢
  have hb1 : dif (G y) (G x) < 16 := dif_16 gy
  generalize hl1 : dif (G y) (G x) = l1 at hb1 ⊢
  refine Runs.go 7 (cs := []) (pc' := bif decide ((N 3) ≤ (N 0)) then 61 else 11) (pl' := [some (.int (N (encC 0 x y 15 15))), some (.long (L (pk G))), none, some (.long (L 0)), none, some (.int (N 0)), none, none]) (st' := []) (h' := h) rfl trivial ?_
  refine Runs.brF (decide_eq_false (by decide)) ?_
  refine Runs.go 2 (cs := []) (pc' := 14) (pl' := [some (.int (N (encC 0 x y 15 15))), some (.long (L (pk G))), none, some (.long (L 0)), none, some (.int (N 0)), none, none]) (st' := [.int (N 0), .int (N (encC 0 x y 15 15))]) (h' := h) rfl trivial ?_
  refine Runs.cal (y := mX0_item) (as := [.int (N (encC 0 x y 15 15)), .int (N 0)]) (rest := []) (pc' := 17) (cs := []) (v := some (.int (N (itC (encC 0 x y 15 15) 0)))) (h1 := h) rfl trivial (by decide) (c_item (enc_lt (by omega) (by omega) (by omega) (by omega) (by omega)) (by decide)) ?_
  show Runs _ _ 17 _ [.int (N (itC (encC 0 x y 15 15) 0))] _ _ _ _
  rw [show N (itC (encC 0 x y 15 15) 0) = N x from congrArg N (enc_x (by omega) (by omega))]
  refine Runs.go 4 (cs := []) (pc' := bif decide ((N x) = (N 15)) then 55 else 26) (pl' := [some (.int (N (encC 0 x y 15 15))), some (.long (L (pk G))), none, some (.long (L 0)), none, some (.int (N 0)), some (.int (N x)), none]) (st' := []) (h' := h) rfl trivial ?_
  refine Runs.brF (decide_eq_false (fun zq9 => absurd ((N_eq (a := x) (b := 15) (by omega) (by omega)).mp zq9) (by omega))) ?_
  refine Runs.go 2 (cs := []) (pc' := 29) (pl' := [some (.int (N (encC 0 x y 15 15))), some (.long (L (pk G))), none, some (.long (L 0)), none, some (.int (N 0)), some (.int (N x)), none]) (st' := [.int (N x), .long (L (pk G))]) (h' := h) rfl trivial ?_
  refine Runs.cal (y := mX1_placesOf) (as := [.long (L (pk G)), .int (N x)]) (rest := []) (pc' := 32) (cs := []) (v := some (.int (N (G x)))) (h1 := h) rfl trivial (by decide) (c_placesOf hG hzz (by omega)) ?_
  show Runs _ _ 32 _ [.int (N (G x))] _ _ _ _
  refine Runs.go 3 (cs := []) (pc' := 36) (pl' := [some (.int (N (encC 0 x y 15 15))), some (.long (L (pk G))), none, some (.long (L 0)), none, some (.int (N 0)), some (.int (N x)), none]) (st' := [.long (L (pk G)), .int (N 0), .int (N (encC 0 x y 15 15)), .int (N (G x))]) (h' := h) rfl trivial ?_
  refine Runs.cal (y := mX0_choices) (as := [.int (N (encC 0 x y 15 15)), .int (N 0), .long (L (pk G))]) (rest := [.int (N (G x))]) (pc' := 39) (cs := []) (v := some (.int (N (G y)))) (h1 := h) rfl trivial (by decide) (c_choices_00 hG hzz hx hy) ?_
  show Runs _ _ 39 _ [.int (N (G y)), .int (N (G x))] _ _ _ _
  refine Runs.topI 3 (cs := []) (pc' := 42) (pl' := [some (.int (N (encC 0 x y 15 15))), some (.long (L (pk G))), none, some (.long (L 0)), none, some (.int (N 0)), some (.int (N x)), none]) (v := (N (G x)) &&& ((N (G y)) ^^^ (-1 : Int32))) (v' := N l0) (st' := []) (h' := h) rfl trivial ((N_dif _ _).trans (congrArg N hl0)) ?_
  refine Runs.topJ 4 (cs := []) (pc' := 48) (pl' := [some (.int (N (encC 0 x y 15 15))), some (.long (L (pk G))), none, some (.long (L 0)), none, some (.int (N 0)), some (.int (N x)), some (.int (N l0))]) (v := (N l0 : Int32).toInt64) (v' := L l0) (st' := [.long (L 0)]) (h' := h) rfl trivial (N_toL (by omega)) ?_
  refine Runs.topI 3 (cs := []) (pc' := 52) (pl' := [some (.int (N (encC 0 x y 15 15))), some (.long (L (pk G))), none, some (.long (L 0)), none, some (.int (N 0)), some (.int (N x)), some (.int (N l0))]) (v := (N 4) * (N x)) (v' := N (4 * x)) (st' := [.long (L l0), .long (L 0)]) (h' := h) rfl trivial (NM (by omega)) ?_
  refine Runs.topJ 1 (cs := []) (pc' := 53) (pl' := [some (.int (N (encC 0 x y 15 15))), some (.long (L (pk G))), none, some (.long (L 0)), none, some (.int (N 0)), some (.int (N x)), some (.int (N l0))]) (v := (L l0) <<< (((N (4 * x)) : Int32).toInt64 &&& 63)) (v' := L (l0 * 2 ^ (4 * x))) (st' := [.long (L 0)]) (h' := h) rfl trivial (L_shl (by omega)) ?_
  refine Runs.topJ 1 (cs := []) (pc' := 54) (pl' := [some (.int (N (encC 0 x y 15 15))), some (.long (L (pk G))), none, some (.long (L 0)), none, some (.int (N 0)), some (.int (N x)), some (.int (N l0))]) (v := (L 0) ||| (L (l0 * 2 ^ (4 * x)))) (v' := L (pk (sgl x l0))) (st' := []) (h' := h) rfl trivial (sgl_0 hx hb0) ?_
  refine Runs.goL 2 (cs := []) (pc' := 58) (pl1 := [some (.int (N (encC 0 x y 15 15))), some (.long (L (pk G))), none, some (.long (L (pk (sgl x l0)))), none, some (.int (N 0 + N 1)), some (.int (N x)), some (.int (N l0))]) (pl' := [some (.int (N (encC 0 x y 15 15))), some (.long (L (pk G))), none, some (.long (L (pk (sgl x l0)))), none, some (.int (N 1)), some (.int (N x)), some (.int (N l0))]) (st' := []) (h' := h) rfl trivial (congrArg (fun zq9 => ([some (.int (N (encC 0 x y 15 15))), some (.long (L (pk G))), none, some (.long (L (pk (sgl x l0)))), none, some (.int zq9), some (.int (N x)), some (.int (N l0))] : PL)) (NA (by omega))) ?_
  refine Runs.go 4 (cs := []) (pc' := bif decide ((N 3) ≤ (N 1)) then 61 else 11) (pl' := [some (.int (N (encC 0 x y 15 15))), some (.long (L (pk G))), none, some (.long (L (pk (sgl x l0)))), none, some (.int (N 1)), some (.int (N x)), some (.int (N l0))]) (st' := []) (h' := h) rfl trivial ?_
  refine Runs.brF (decide_eq_false (by decide)) ?_
  refine Runs.go 2 (cs := []) (pc' := 14) (pl' := [some (.int (N (encC 0 x y 15 15))), some (.long (L (pk G))), none, some (.long (L (pk (sgl x l0)))), none, some (.int (N 1)), some (.int (N x)), some (.int (N l0))]) (st' := [.int (N 1), .int (N (encC 0 x y 15 15))]) (h' := h) rfl trivial ?_
  refine Runs.cal (y := mX0_item) (as := [.int (N (encC 0 x y 15 15)), .int (N 1)]) (rest := []) (pc' := 17) (cs := []) (v := some (.int (N (itC (encC 0 x y 15 15) 1)))) (h1 := h) rfl trivial (by decide) (c_item (enc_lt (by omega) (by omega) (by omega) (by omega) (by omega)) (by decide)) ?_
  show Runs _ _ 17 _ [.int (N (itC (encC 0 x y 15 15) 1))] _ _ _ _
  rw [show N (itC (encC 0 x y 15 15) 1) = N y from congrArg N (enc_y (by omega) (by omega) (by omega))]
  refine Runs.go 4 (cs := []) (pc' := bif decide ((N y) = (N 15)) then 55 else 26) (pl' := [some (.int (N (encC 0 x y 15 15))), some (.long (L (pk G))), none, some (.long (L (pk (sgl x l0)))), none, some (.int (N 1)), some (.int (N y)), some (.int (N l0))]) (st' := []) (h' := h) rfl trivial ?_
  refine Runs.brF (decide_eq_false (fun zq9 => absurd ((N_eq (a := y) (b := 15) (by omega) (by omega)).mp zq9) (by omega))) ?_
  refine Runs.go 2 (cs := []) (pc' := 29) (pl' := [some (.int (N (encC 0 x y 15 15))), some (.long (L (pk G))), none, some (.long (L (pk (sgl x l0)))), none, some (.int (N 1)), some (.int (N y)), some (.int (N l0))]) (st' := [.int (N y), .long (L (pk G))]) (h' := h) rfl trivial ?_
  refine Runs.cal (y := mX1_placesOf) (as := [.long (L (pk G)), .int (N y)]) (rest := []) (pc' := 32) (cs := []) (v := some (.int (N (G y)))) (h1 := h) rfl trivial (by decide) (c_placesOf hG hzz (by omega)) ?_
  show Runs _ _ 32 _ [.int (N (G y))] _ _ _ _
  refine Runs.go 3 (cs := []) (pc' := 36) (pl' := [some (.int (N (encC 0 x y 15 15))), some (.long (L (pk G))), none, some (.long (L (pk (sgl x l0)))), none, some (.int (N 1)), some (.int (N y)), some (.int (N l0))]) (st' := [.long (L (pk G)), .int (N 1), .int (N (encC 0 x y 15 15)), .int (N (G y))]) (h' := h) rfl trivial ?_
  refine Runs.cal (y := mX0_choices) (as := [.int (N (encC 0 x y 15 15)), .int (N 1), .long (L (pk G))]) (rest := [.int (N (G y))]) (pc' := 39) (cs := []) (v := some (.int (N (G x)))) (h1 := h) rfl trivial (by decide) (c_choices_01 hG hzz hx hy) ?_
  show Runs _ _ 39 _ [.int (N (G x)), .int (N (G y))] _ _ _ _
  refine Runs.topI 3 (cs := []) (pc' := 42) (pl' := [some (.int (N (encC 0 x y 15 15))), some (.long (L (pk G))), none, some (.long (L (pk (sgl x l0)))), none, some (.int (N 1)), some (.int (N y)), some (.int (N l0))]) (v := (N (G y)) &&& ((N (G x)) ^^^ (-1 : Int32))) (v' := N l1) (st' := []) (h' := h) rfl trivial ((N_dif _ _).trans (congrArg N hl1)) ?_
  refine Runs.topJ 4 (cs := []) (pc' := 48) (pl' := [some (.int (N (encC 0 x y 15 15))), some (.long (L (pk G))), none, some (.long (L (pk (sgl x l0)))), none, some (.int (N 1)), some (.int (N y)), some (.int (N l1))]) (v := (N l1 : Int32).toInt64) (v' := L l1) (st' := [.long (L (pk (sgl x l0)))]) (h' := h) rfl trivial (N_toL (by omega)) ?_
  refine Runs.topI 3 (cs := []) (pc' := 52) (pl' := [some (.int (N (encC 0 x y 15 15))), some (.long (L (pk G))), none, some (.long (L (pk (sgl x l0)))), none, some (.int (N 1)), some (.int (N y)), some (.int (N l1))]) (v := (N 4) * (N y)) (v' := N (4 * y)) (st' := [.long (L l1), .long (L (pk (sgl x l0)))]) (h' := h) rfl trivial (NM (by omega)) ?_
  refine Runs.topJ 1 (cs := []) (pc' := 53) (pl' := [some (.int (N (encC 0 x y 15 15))), some (.long (L (pk G))), none, some (.long (L (pk (sgl x l0)))), none, some (.int (N 1)), some (.int (N y)), some (.int (N l1))]) (v := (L l1) <<< (((N (4 * y)) : Int32).toInt64 &&& 63)) (v' := L (l1 * 2 ^ (4 * y))) (st' := [.long (L (pk (sgl x l0)))]) (h' := h) rfl trivial (L_shl (by omega)) ?_
  refine Runs.topJ 1 (cs := []) (pc' := 54) (pl' := [some (.int (N (encC 0 x y 15 15))), some (.long (L (pk G))), none, some (.long (L (pk (sgl x l0)))), none, some (.int (N 1)), some (.int (N y)), some (.int (N l1))]) (v := (L (pk (sgl x l0))) ||| (L (l1 * 2 ^ (4 * y)))) (v' := L (pk (fun i => sgl x l0 i ||| sgl y l1 i))) (st' := []) (h' := h) rfl trivial (sgl_s (sgl_16 hb0) hy hb1) ?_
  refine Runs.goL 2 (cs := []) (pc' := 58) (pl1 := [some (.int (N (encC 0 x y 15 15))), some (.long (L (pk G))), none, some (.long (L (pk (fun i => sgl x l0 i ||| sgl y l1 i)))), none, some (.int (N 1 + N 1)), some (.int (N y)), some (.int (N l1))]) (pl' := [some (.int (N (encC 0 x y 15 15))), some (.long (L (pk G))), none, some (.long (L (pk (fun i => sgl x l0 i ||| sgl y l1 i)))), none, some (.int (N 2)), some (.int (N y)), some (.int (N l1))]) (st' := []) (h' := h) rfl trivial (congrArg (fun zq9 => ([some (.int (N (encC 0 x y 15 15))), some (.long (L (pk G))), none, some (.long (L (pk (fun i => sgl x l0 i ||| sgl y l1 i)))), none, some (.int zq9), some (.int (N y)), some (.int (N l1))] : PL)) (NA (by omega))) ?_
  refine Runs.go 4 (cs := []) (pc' := bif decide ((N 3) ≤ (N 2)) then 61 else 11) (pl' := [some (.int (N (encC 0 x y 15 15))), some (.long (L (pk G))), none, some (.long (L (pk (fun i => sgl x l0 i ||| sgl y l1 i)))), none, some (.int (N 2)), some (.int (N y)), some (.int (N l1))]) (st' := []) (h' := h) rfl trivial ?_
  refine Runs.brF (decide_eq_false (by decide)) ?_
  refine Runs.go 2 (cs := []) (pc' := 14) (pl' := [some (.int (N (encC 0 x y 15 15))), some (.long (L (pk G))), none, some (.long (L (pk (fun i => sgl x l0 i ||| sgl y l1 i)))), none, some (.int (N 2)), some (.int (N y)), some (.int (N l1))]) (st' := [.int (N 2), .int (N (encC 0 x y 15 15))]) (h' := h) rfl trivial ?_
  refine Runs.cal (y := mX0_item) (as := [.int (N (encC 0 x y 15 15)), .int (N 2)]) (rest := []) (pc' := 17) (cs := []) (v := some (.int (N (itC (encC 0 x y 15 15) 2)))) (h1 := h) rfl trivial (by decide) (c_item (enc_lt (by omega) (by omega) (by omega) (by omega) (by omega)) (by decide)) ?_
  show Runs _ _ 17 _ [.int (N (itC (encC 0 x y 15 15) 2))] _ _ _ _
  rw [show N (itC (encC 0 x y 15 15) 2) = N 15 from congrArg N (enc_z (by omega) (by omega) (by omega) (by omega))]
  refine Runs.go 4 (cs := []) (pc' := bif decide ((N 15) = (N 15)) then 55 else 26) (pl' := [some (.int (N (encC 0 x y 15 15))), some (.long (L (pk G))), none, some (.long (L (pk (fun i => sgl x l0 i ||| sgl y l1 i)))), none, some (.int (N 2)), some (.int (N 15)), some (.int (N l1))]) (st' := []) (h' := h) rfl trivial ?_
  refine Runs.brT (decide_eq_true (by decide)) ?_
  refine Runs.goL 1 (cs := []) (pc' := 58) (pl1 := [some (.int (N (encC 0 x y 15 15))), some (.long (L (pk G))), none, some (.long (L (pk (fun i => sgl x l0 i ||| sgl y l1 i)))), none, some (.int (N 2 + N 1)), some (.int (N 15)), some (.int (N l1))]) (pl' := [some (.int (N (encC 0 x y 15 15))), some (.long (L (pk G))), none, some (.long (L (pk (fun i => sgl x l0 i ||| sgl y l1 i)))), none, some (.int (N 3)), some (.int (N 15)), some (.int (N l1))]) (st' := []) (h' := h) rfl trivial (congrArg (fun zq9 => ([some (.int (N (encC 0 x y 15 15))), some (.long (L (pk G))), none, some (.long (L (pk (fun i => sgl x l0 i ||| sgl y l1 i)))), none, some (.int zq9), some (.int (N 15)), some (.int (N l1))] : PL)) (NA (by omega))) ?_
  refine Runs.go 4 (cs := []) (pc' := bif decide ((N 3) ≤ (N 3)) then 61 else 11) (pl' := [some (.int (N (encC 0 x y 15 15))), some (.long (L (pk G))), none, some (.long (L (pk (fun i => sgl x l0 i ||| sgl y l1 i)))), none, some (.int (N 3)), some (.int (N 15)), some (.int (N l1))]) (st' := []) (h' := h) rfl trivial ?_
  refine Runs.brT (decide_eq_true (by decide)) ?_
  refine Runs.go 1 (cs := []) (pc' := 62) (pl' := [some (.int (N (encC 0 x y 15 15))), some (.long (L (pk G))), none, some (.long (L (pk (fun i => sgl x l0 i ||| sgl y l1 i)))), none, some (.int (N 3)), some (.int (N 15)), some (.int (N l1))]) (st' := [.long (L (pk (fun i => sgl x l0 i ||| sgl y l1 i)))]) (h' := h) rfl trivial ?_
  exact Runs.retE (cs := []) rfl trivial (retJ rfl) rfl
theorem c_ruledOut_1 {G : Nat → Nat} {x y : Nat} {h : PH} (hG : M16 G) (hzz : Z12 G) (hx : x < 12) (hy : y < 12) : Call 2 mX0_ruledOut [.int (N (encC 1 x y 15 15)), .long (L (pk G))] h (.inl (some (.long (L (pk (fun i => sgl x (dif (G x) (elsF (G y))) i ||| sgl y (dif (G y) (elsF (G x))) i)))))) h 0 := by
  have gx := hG x hx
  have gy := hG y hy
  have hb0 : dif (G x) (elsF (G y)) < 16 := dif_16 gx
  generalize hl0 : dif (G x) (elsF (G y)) = l0 at hb0 ⊢
  have hb1 : dif (G y) (elsF (G x)) < 16 := dif_16 gy
  generalize hl1 : dif (G y) (elsF (G x)) = l1 at hb1 ⊢
  refine Runs.go 7 (cs := []) (pc' := bif decide ((N 3) ≤ (N 0)) then 61 else 11) (pl' := [some (.int (N (encC 1 x y 15 15))), some (.long (L (pk G))), none, some (.long (L 0)), none, some (.int (N 0)), none, none]) (st' := []) (h' := h) rfl trivial ?_
  refine Runs.brF (decide_eq_false (by decide)) ?_
  refine Runs.go 2 (cs := []) (pc' := 14) (pl' := [some (.int (N (encC 1 x y 15 15))), some (.long (L (pk G))), none, some (.long (L 0)), none, some (.int (N 0)), none, none]) (st' := [.int (N 0), .int (N (encC 1 x y 15 15))]) (h' := h) rfl trivial ?_
  refine Runs.cal (y := mX0_item) (as := [.int (N (encC 1 x y 15 15)), .int (N 0)]) (rest := []) (pc' := 17) (cs := []) (v := some (.int (N (itC (encC 1 x y 15 15) 0)))) (h1 := h) rfl trivial (by decide) (c_item (enc_lt (by omega) (by omega) (by omega) (by omega) (by omega)) (by decide)) ?_
  show Runs _ _ 17 _ [.int (N (itC (encC 1 x y 15 15) 0))] _ _ _ _
  rw [show N (itC (encC 1 x y 15 15) 0) = N x from congrArg N (enc_x (by omega) (by omega))]
  refine Runs.go 4 (cs := []) (pc' := bif decide ((N x) = (N 15)) then 55 else 26) (pl' := [some (.int (N (encC 1 x y 15 15))), some (.long (L (pk G))), none, some (.long (L 0)), none, some (.int (N 0)), some (.int (N x)), none]) (st' := []) (h' := h) rfl trivial ?_
  refine Runs.brF (decide_eq_false (fun zq9 => absurd ((N_eq (a := x) (b := 15) (by omega) (by omega)).mp zq9) (by omega))) ?_
  refine Runs.go 2 (cs := []) (pc' := 29) (pl' := [some (.int (N (encC 1 x y 15 15))), some (.long (L (pk G))), none, some (.long (L 0)), none, some (.int (N 0)), some (.int (N x)), none]) (st' := [.int (N x), .long (L (pk G))]) (h' := h) rfl trivial ?_
  refine Runs.cal (y := mX1_placesOf) (as := [.long (L (pk G)), .int (N x)]) (rest := []) (pc' := 32) (cs := []) (v := some (.int (N (G x)))) (h1 := h) rfl trivial (by decide) (c_placesOf hG hzz (by omega)) ?_
  show Runs _ _ 32 _ [.int (N (G x))] _ _ _ _
  refine Runs.go 3 (cs := []) (pc' := 36) (pl' := [some (.int (N (encC 1 x y 15 15))), some (.long (L (pk G))), none, some (.long (L 0)), none, some (.int (N 0)), some (.int (N x)), none]) (st' := [.long (L (pk G)), .int (N 0), .int (N (encC 1 x y 15 15)), .int (N (G x))]) (h' := h) rfl trivial ?_
  refine Runs.cal (y := mX0_choices) (as := [.int (N (encC 1 x y 15 15)), .int (N 0), .long (L (pk G))]) (rest := [.int (N (G x))]) (pc' := 39) (cs := []) (v := some (.int (N (elsF (G y))))) (h1 := h) rfl trivial (by decide) (c_choices_10 hG hzz hx hy) ?_
  show Runs _ _ 39 _ [.int (N (elsF (G y))), .int (N (G x))] _ _ _ _
  refine Runs.topI 3 (cs := []) (pc' := 42) (pl' := [some (.int (N (encC 1 x y 15 15))), some (.long (L (pk G))), none, some (.long (L 0)), none, some (.int (N 0)), some (.int (N x)), none]) (v := (N (G x)) &&& ((N (elsF (G y))) ^^^ (-1 : Int32))) (v' := N l0) (st' := []) (h' := h) rfl trivial ((N_dif _ _).trans (congrArg N hl0)) ?_
  refine Runs.topJ 4 (cs := []) (pc' := 48) (pl' := [some (.int (N (encC 1 x y 15 15))), some (.long (L (pk G))), none, some (.long (L 0)), none, some (.int (N 0)), some (.int (N x)), some (.int (N l0))]) (v := (N l0 : Int32).toInt64) (v' := L l0) (st' := [.long (L 0)]) (h' := h) rfl trivial (N_toL (by omega)) ?_
  refine Runs.topI 3 (cs := []) (pc' := 52) (pl' := [some (.int (N (encC 1 x y 15 15))), some (.long (L (pk G))), none, some (.long (L 0)), none, some (.int (N 0)), some (.int (N x)), some (.int (N l0))]) (v := (N 4) * (N x)) (v' := N (4 * x)) (st' := [.long (L l0), .long (L 0)]) (h' := h) rfl trivial (NM (by omega)) ?_
  refine Runs.topJ 1 (cs := []) (pc' := 53) (pl' := [some (.int (N (encC 1 x y 15 15))), some (.long (L (pk G))), none, some (.long (L 0)), none, some (.int (N 0)), some (.int (N x)), some (.int (N l0))]) (v := (L l0) <<< (((N (4 * x)) : Int32).toInt64 &&& 63)) (v' := L (l0 * 2 ^ (4 * x))) (st' := [.long (L 0)]) (h' := h) rfl trivial (L_shl (by omega)) ?_
  refine Runs.topJ 1 (cs := []) (pc' := 54) (pl' := [some (.int (N (encC 1 x y 15 15))), some (.long (L (pk G))), none, some (.long (L 0)), none, some (.int (N 0)), some (.int (N x)), some (.int (N l0))]) (v := (L 0) ||| (L (l0 * 2 ^ (4 * x)))) (v' := L (pk (sgl x l0))) (st' := []) (h' := h) rfl trivial (sgl_0 hx hb0) ?_
  refine Runs.goL 2 (cs := []) (pc' := 58) (pl1 := [some (.int (N (encC 1 x y 15 15))), some (.long (L (pk G))), none, some (.long (L (pk (sgl x l0)))), none, some (.int (N 0 + N 1)), some (.int (N x)), some (.int (N l0))]) (pl' := [some (.int (N (encC 1 x y 15 15))), some (.long (L (pk G))), none, some (.long (L (pk (sgl x l0)))), none, some (.int (N 1)), some (.int (N x)), some (.int (N l0))]) (st' := []) (h' := h) rfl trivial (congrArg (fun zq9 => ([some (.int (N (encC 1 x y 15 15))), some (.long (L (pk G))), none, some (.long (L (pk (sgl x l0)))), none, some (.int zq9), some (.int (N x)), some (.int (N l0))] : PL)) (NA (by omega))) ?_
  refine Runs.go 4 (cs := []) (pc' := bif decide ((N 3) ≤ (N 1)) then 61 else 11) (pl' := [some (.int (N (encC 1 x y 15 15))), some (.long (L (pk G))), none, some (.long (L (pk (sgl x l0)))), none, some (.int (N 1)), some (.int (N x)), some (.int (N l0))]) (st' := []) (h' := h) rfl trivial ?_
  refine Runs.brF (decide_eq_false (by decide)) ?_
  refine Runs.go 2 (cs := []) (pc' := 14) (pl' := [some (.int (N (encC 1 x y 15 15))), some (.long (L (pk G))), none, some (.long (L (pk (sgl x l0)))), none, some (.int (N 1)), some (.int (N x)), some (.int (N l0))]) (st' := [.int (N 1), .int (N (encC 1 x y 15 15))]) (h' := h) rfl trivial ?_
  refine Runs.cal (y := mX0_item) (as := [.int (N (encC 1 x y 15 15)), .int (N 1)]) (rest := []) (pc' := 17) (cs := []) (v := some (.int (N (itC (encC 1 x y 15 15) 1)))) (h1 := h) rfl trivial (by decide) (c_item (enc_lt (by omega) (by omega) (by omega) (by omega) (by omega)) (by decide)) ?_
  show Runs _ _ 17 _ [.int (N (itC (encC 1 x y 15 15) 1))] _ _ _ _
  rw [show N (itC (encC 1 x y 15 15) 1) = N y from congrArg N (enc_y (by omega) (by omega) (by omega))]
  refine Runs.go 4 (cs := []) (pc' := bif decide ((N y) = (N 15)) then 55 else 26) (pl' := [some (.int (N (encC 1 x y 15 15))), some (.long (L (pk G))), none, some (.long (L (pk (sgl x l0)))), none, some (.int (N 1)), some (.int (N y)), some (.int (N l0))]) (st' := []) (h' := h) rfl trivial ?_
  refine Runs.brF (decide_eq_false (fun zq9 => absurd ((N_eq (a := y) (b := 15) (by omega) (by omega)).mp zq9) (by omega))) ?_
  refine Runs.go 2 (cs := []) (pc' := 29) (pl' := [some (.int (N (encC 1 x y 15 15))), some (.long (L (pk G))), none, some (.long (L (pk (sgl x l0)))), none, some (.int (N 1)), some (.int (N y)), some (.int (N l0))]) (st' := [.int (N y), .long (L (pk G))]) (h' := h) rfl trivial ?_
  refine Runs.cal (y := mX1_placesOf) (as := [.long (L (pk G)), .int (N y)]) (rest := []) (pc' := 32) (cs := []) (v := some (.int (N (G y)))) (h1 := h) rfl trivial (by decide) (c_placesOf hG hzz (by omega)) ?_
  show Runs _ _ 32 _ [.int (N (G y))] _ _ _ _
  refine Runs.go 3 (cs := []) (pc' := 36) (pl' := [some (.int (N (encC 1 x y 15 15))), some (.long (L (pk G))), none, some (.long (L (pk (sgl x l0)))), none, some (.int (N 1)), some (.int (N y)), some (.int (N l0))]) (st' := [.long (L (pk G)), .int (N 1), .int (N (encC 1 x y 15 15)), .int (N (G y))]) (h' := h) rfl trivial ?_
  refine Runs.cal (y := mX0_choices) (as := [.int (N (encC 1 x y 15 15)), .int (N 1), .long (L (pk G))]) (rest := [.int (N (G y))]) (pc' := 39) (cs := []) (v := some (.int (N (elsF (G x))))) (h1 := h) rfl trivial (by decide) (c_choices_11 hG hzz hx hy) ?_
  show Runs _ _ 39 _ [.int (N (elsF (G x))), .int (N (G y))] _ _ _ _
  refine Runs.topI 3 (cs := []) (pc' := 42) (pl' := [some (.int (N (encC 1 x y 15 15))), some (.long (L (pk G))), none, some (.long (L (pk (sgl x l0)))), none, some (.int (N 1)), some (.int (N y)), some (.int (N l0))]) (v := (N (G y)) &&& ((N (elsF (G x))) ^^^ (-1 : Int32))) (v' := N l1) (st' := []) (h' := h) rfl trivial ((N_dif _ _).trans (congrArg N hl1)) ?_
  refine Runs.topJ 4 (cs := []) (pc' := 48) (pl' := [some (.int (N (encC 1 x y 15 15))), some (.long (L (pk G))), none, some (.long (L (pk (sgl x l0)))), none, some (.int (N 1)), some (.int (N y)), some (.int (N l1))]) (v := (N l1 : Int32).toInt64) (v' := L l1) (st' := [.long (L (pk (sgl x l0)))]) (h' := h) rfl trivial (N_toL (by omega)) ?_
  refine Runs.topI 3 (cs := []) (pc' := 52) (pl' := [some (.int (N (encC 1 x y 15 15))), some (.long (L (pk G))), none, some (.long (L (pk (sgl x l0)))), none, some (.int (N 1)), some (.int (N y)), some (.int (N l1))]) (v := (N 4) * (N y)) (v' := N (4 * y)) (st' := [.long (L l1), .long (L (pk (sgl x l0)))]) (h' := h) rfl trivial (NM (by omega)) ?_
  refine Runs.topJ 1 (cs := []) (pc' := 53) (pl' := [some (.int (N (encC 1 x y 15 15))), some (.long (L (pk G))), none, some (.long (L (pk (sgl x l0)))), none, some (.int (N 1)), some (.int (N y)), some (.int (N l1))]) (v := (L l1) <<< (((N (4 * y)) : Int32).toInt64 &&& 63)) (v' := L (l1 * 2 ^ (4 * y))) (st' := [.long (L (pk (sgl x l0)))]) (h' := h) rfl trivial (L_shl (by omega)) ?_
  refine Runs.topJ 1 (cs := []) (pc' := 54) (pl' := [some (.int (N (encC 1 x y 15 15))), some (.long (L (pk G))), none, some (.long (L (pk (sgl x l0)))), none, some (.int (N 1)), some (.int (N y)), some (.int (N l1))]) (v := (L (pk (sgl x l0))) ||| (L (l1 * 2 ^ (4 * y)))) (v' := L (pk (fun i => sgl x l0 i ||| sgl y l1 i))) (st' := []) (h' := h) rfl trivial (sgl_s (sgl_16 hb0) hy hb1) ?_
  refine Runs.goL 2 (cs := []) (pc' := 58) (pl1 := [some (.int (N (encC 1 x y 15 15))), some (.long (L (pk G))), none, some (.long (L (pk (fun i => sgl x l0 i ||| sgl y l1 i)))), none, some (.int (N 1 + N 1)), some (.int (N y)), some (.int (N l1))]) (pl' := [some (.int (N (encC 1 x y 15 15))), some (.long (L (pk G))), none, some (.long (L (pk (fun i => sgl x l0 i ||| sgl y l1 i)))), none, some (.int (N 2)), some (.int (N y)), some (.int (N l1))]) (st' := []) (h' := h) rfl trivial (congrArg (fun zq9 => ([some (.int (N (encC 1 x y 15 15))), some (.long (L (pk G))), none, some (.long (L (pk (fun i => sgl x l0 i ||| sgl y l1 i)))), none, some (.int zq9), some (.int (N y)), some (.int (N l1))] : PL)) (NA (by omega))) ?_
  refine Runs.go 4 (cs := []) (pc' := bif decide ((N 3) ≤ (N 2)) then 61 else 11) (pl' := [some (.int (N (encC 1 x y 15 15))), some (.long (L (pk G))), none, some (.long (L (pk (fun i => sgl x l0 i ||| sgl y l1 i)))), none, some (.int (N 2)), some (.int (N y)), some (.int (N l1))]) (st' := []) (h' := h) rfl trivial ?_
  refine Runs.brF (decide_eq_false (by decide)) ?_
  refine Runs.go 2 (cs := []) (pc' := 14) (pl' := [some (.int (N (encC 1 x y 15 15))), some (.long (L (pk G))), none, some (.long (L (pk (fun i => sgl x l0 i ||| sgl y l1 i)))), none, some (.int (N 2)), some (.int (N y)), some (.int (N l1))]) (st' := [.int (N 2), .int (N (encC 1 x y 15 15))]) (h' := h) rfl trivial ?_
  refine Runs.cal (y := mX0_item) (as := [.int (N (encC 1 x y 15 15)), .int (N 2)]) (rest := []) (pc' := 17) (cs := []) (v := some (.int (N (itC (encC 1 x y 15 15) 2)))) (h1 := h) rfl trivial (by decide) (c_item (enc_lt (by omega) (by omega) (by omega) (by omega) (by omega)) (by decide)) ?_
  show Runs _ _ 17 _ [.int (N (itC (encC 1 x y 15 15) 2))] _ _ _ _
  rw [show N (itC (encC 1 x y 15 15) 2) = N 15 from congrArg N (enc_z (by omega) (by omega) (by omega) (by omega))]
  refine Runs.go 4 (cs := []) (pc' := bif decide ((N 15) = (N 15)) then 55 else 26) (pl' := [some (.int (N (encC 1 x y 15 15))), some (.long (L (pk G))), none, some (.long (L (pk (fun i => sgl x l0 i ||| sgl y l1 i)))), none, some (.int (N 2)), some (.int (N 15)), some (.int (N l1))]) (st' := []) (h' := h) rfl trivial ?_
  refine Runs.brT (decide_eq_true (by decide)) ?_
  refine Runs.goL 1 (cs := []) (pc' := 58) (pl1 := [some (.int (N (encC 1 x y 15 15))), some (.long (L (pk G))), none, some (.long (L (pk (fun i => sgl x l0 i ||| sgl y l1 i)))), none, some (.int (N 2 + N 1)), some (.int (N 15)), some (.int (N l1))]) (pl' := [some (.int (N (encC 1 x y 15 15))), some (.long (L (pk G))), none, some (.long (L (pk (fun i => sgl x l0 i ||| sgl y l1 i)))), none, some (.int (N 3)), some (.int (N 15)), some (.int (N l1))]) (st' := []) (h' := h) rfl trivial (congrArg (fun zq9 => ([some (.int (N (encC 1 x y 15 15))), some (.long (L (pk G))), none, some (.long (L (pk (fun i => sgl x l0 i ||| sgl y l1 i)))), none, some (.int zq9), some (.int (N 15)), some (.int (N l1))] : PL)) (NA (by omega))) ?_
  refine Runs.go 4 (cs := []) (pc' := bif decide ((N 3) ≤ (N 3)) then 61 else 11) (pl' := [some (.int (N (encC 1 x y 15 15))), some (.long (L (pk G))), none, some (.long (L (pk (fun i => sgl x l0 i ||| sgl y l1 i)))), none, some (.int (N 3)), some (.int (N 15)), some (.int (N l1))]) (st' := []) (h' := h) rfl trivial ?_
  refine Runs.brT (decide_eq_true (by decide)) ?_
  refine Runs.go 1 (cs := []) (pc' := 62) (pl' := [some (.int (N (encC 1 x y 15 15))), some (.long (L (pk G))), none, some (.long (L (pk (fun i => sgl x l0 i ||| sgl y l1 i)))), none, some (.int (N 3)), some (.int (N 15)), some (.int (N l1))]) (st' := [.long (L (pk (fun i => sgl x l0 i ||| sgl y l1 i)))]) (h' := h) rfl trivial ?_
  exact Runs.retE (cs := []) rfl trivial (retJ rfl) rfl
theorem c_ruledOut_2 {G : Nat → Nat} {x y : Nat} {h : PH} (hG : M16 G) (hzz : Z12 G) (hx : x < 12) (hy : y < 12) : Call 2 mX0_ruledOut [.int (N (encC 2 x y 15 15)), .long (L (pk G))] h (.inl (some (.long (L (pk (fun i => sgl x (dif (G x) (((G y / 2 ||| G y / 4) ||| G y / 8))) i ||| sgl y (dif (G y) (((2 * G x ||| 4 * G x) ||| 8 * G x) % 16)) i)))))) h 0 := by
  have gx := hG x hx
  have gy := hG y hy
  have hb0 : dif (G x) (((G y / 2 ||| G y / 4) ||| G y / 8)) < 16 := dif_16 gx
  generalize hl0 : dif (G x) (((G y / 2 ||| G y / 4) ||| G y / 8)) = l0 at hb0 ⊢
  have hb1 : dif (G y) (((2 * G x ||| 4 * G x) ||| 8 * G x) % 16) < 16 := dif_16 gy
  generalize hl1 : dif (G y) (((2 * G x ||| 4 * G x) ||| 8 * G x) % 16) = l1 at hb1 ⊢
  refine Runs.go 7 (cs := []) (pc' := bif decide ((N 3) ≤ (N 0)) then 61 else 11) (pl' := [some (.int (N (encC 2 x y 15 15))), some (.long (L (pk G))), none, some (.long (L 0)), none, some (.int (N 0)), none, none]) (st' := []) (h' := h) rfl trivial ?_
  refine Runs.brF (decide_eq_false (by decide)) ?_
  refine Runs.go 2 (cs := []) (pc' := 14) (pl' := [some (.int (N (encC 2 x y 15 15))), some (.long (L (pk G))), none, some (.long (L 0)), none, some (.int (N 0)), none, none]) (st' := [.int (N 0), .int (N (encC 2 x y 15 15))]) (h' := h) rfl trivial ?_
  refine Runs.cal (y := mX0_item) (as := [.int (N (encC 2 x y 15 15)), .int (N 0)]) (rest := []) (pc' := 17) (cs := []) (v := some (.int (N (itC (encC 2 x y 15 15) 0)))) (h1 := h) rfl trivial (by decide) (c_item (enc_lt (by omega) (by omega) (by omega) (by omega) (by omega)) (by decide)) ?_
  show Runs _ _ 17 _ [.int (N (itC (encC 2 x y 15 15) 0))] _ _ _ _
  rw [show N (itC (encC 2 x y 15 15) 0) = N x from congrArg N (enc_x (by omega) (by omega))]
  refine Runs.go 4 (cs := []) (pc' := bif decide ((N x) = (N 15)) then 55 else 26) (pl' := [some (.int (N (encC 2 x y 15 15))), some (.long (L (pk G))), none, some (.long (L 0)), none, some (.int (N 0)), some (.int (N x)), none]) (st' := []) (h' := h) rfl trivial ?_
  refine Runs.brF (decide_eq_false (fun zq9 => absurd ((N_eq (a := x) (b := 15) (by omega) (by omega)).mp zq9) (by omega))) ?_
  refine Runs.go 2 (cs := []) (pc' := 29) (pl' := [some (.int (N (encC 2 x y 15 15))), some (.long (L (pk G))), none, some (.long (L 0)), none, some (.int (N 0)), some (.int (N x)), none]) (st' := [.int (N x), .long (L (pk G))]) (h' := h) rfl trivial ?_
  refine Runs.cal (y := mX1_placesOf) (as := [.long (L (pk G)), .int (N x)]) (rest := []) (pc' := 32) (cs := []) (v := some (.int (N (G x)))) (h1 := h) rfl trivial (by decide) (c_placesOf hG hzz (by omega)) ?_
  show Runs _ _ 32 _ [.int (N (G x))] _ _ _ _
  refine Runs.go 3 (cs := []) (pc' := 36) (pl' := [some (.int (N (encC 2 x y 15 15))), some (.long (L (pk G))), none, some (.long (L 0)), none, some (.int (N 0)), some (.int (N x)), none]) (st' := [.long (L (pk G)), .int (N 0), .int (N (encC 2 x y 15 15)), .int (N (G x))]) (h' := h) rfl trivial ?_
  refine Runs.cal (y := mX0_choices) (as := [.int (N (encC 2 x y 15 15)), .int (N 0), .long (L (pk G))]) (rest := [.int (N (G x))]) (pc' := 39) (cs := []) (v := some (.int (N ((G y / 2 ||| G y / 4) ||| G y / 8)))) (h1 := h) rfl trivial (by decide) (c_choices_20 hG hzz hx hy) ?_
  show Runs _ _ 39 _ [.int (N ((G y / 2 ||| G y / 4) ||| G y / 8)), .int (N (G x))] _ _ _ _
  refine Runs.topI 3 (cs := []) (pc' := 42) (pl' := [some (.int (N (encC 2 x y 15 15))), some (.long (L (pk G))), none, some (.long (L 0)), none, some (.int (N 0)), some (.int (N x)), none]) (v := (N (G x)) &&& ((N ((G y / 2 ||| G y / 4) ||| G y / 8)) ^^^ (-1 : Int32))) (v' := N l0) (st' := []) (h' := h) rfl trivial ((N_dif _ _).trans (congrArg N hl0)) ?_
  refine Runs.topJ 4 (cs := []) (pc' := 48) (pl' := [some (.int (N (encC 2 x y 15 15))), some (.long (L (pk G))), none, some (.long (L 0)), none, some (.int (N 0)), some (.int (N x)), some (.int (N l0))]) (v := (N l0 : Int32).toInt64) (v' := L l0) (st' := [.long (L 0)]) (h' := h) rfl trivial (N_toL (by omega)) ?_
  refine Runs.topI 3 (cs := []) (pc' := 52) (pl' := [some (.int (N (encC 2 x y 15 15))), some (.long (L (pk G))), none, some (.long (L 0)), none, some (.int (N 0)), some (.int (N x)), some (.int (N l0))]) (v := (N 4) * (N x)) (v' := N (4 * x)) (st' := [.long (L l0), .long (L 0)]) (h' := h) rfl trivial (NM (by omega)) ?_
  refine Runs.topJ 1 (cs := []) (pc' := 53) (pl' := [some (.int (N (encC 2 x y 15 15))), some (.long (L (pk G))), none, some (.long (L 0)), none, some (.int (N 0)), some (.int (N x)), some (.int (N l0))]) (v := (L l0) <<< (((N (4 * x)) : Int32).toInt64 &&& 63)) (v' := L (l0 * 2 ^ (4 * x))) (st' := [.long (L 0)]) (h' := h) rfl trivial (L_shl (by omega)) ?_
  refine Runs.topJ 1 (cs := []) (pc' := 54) (pl' := [some (.int (N (encC 2 x y 15 15))), some (.long (L (pk G))), none, some (.long (L 0)), none, some (.int (N 0)), some (.int (N x)), some (.int (N l0))]) (v := (L 0) ||| (L (l0 * 2 ^ (4 * x)))) (v' := L (pk (sgl x l0))) (st' := []) (h' := h) rfl trivial (sgl_0 hx hb0) ?_
  refine Runs.goL 2 (cs := []) (pc' := 58) (pl1 := [some (.int (N (encC 2 x y 15 15))), some (.long (L (pk G))), none, some (.long (L (pk (sgl x l0)))), none, some (.int (N 0 + N 1)), some (.int (N x)), some (.int (N l0))]) (pl' := [some (.int (N (encC 2 x y 15 15))), some (.long (L (pk G))), none, some (.long (L (pk (sgl x l0)))), none, some (.int (N 1)), some (.int (N x)), some (.int (N l0))]) (st' := []) (h' := h) rfl trivial (congrArg (fun zq9 => ([some (.int (N (encC 2 x y 15 15))), some (.long (L (pk G))), none, some (.long (L (pk (sgl x l0)))), none, some (.int zq9), some (.int (N x)), some (.int (N l0))] : PL)) (NA (by omega))) ?_
  refine Runs.go 4 (cs := []) (pc' := bif decide ((N 3) ≤ (N 1)) then 61 else 11) (pl' := [some (.int (N (encC 2 x y 15 15))), some (.long (L (pk G))), none, some (.long (L (pk (sgl x l0)))), none, some (.int (N 1)), some (.int (N x)), some (.int (N l0))]) (st' := []) (h' := h) rfl trivial ?_
  refine Runs.brF (decide_eq_false (by decide)) ?_
  refine Runs.go 2 (cs := []) (pc' := 14) (pl' := [some (.int (N (encC 2 x y 15 15))), some (.long (L (pk G))), none, some (.long (L (pk (sgl x l0)))), none, some (.int (N 1)), some (.int (N x)), some (.int (N l0))]) (st' := [.int (N 1), .int (N (encC 2 x y 15 15))]) (h' := h) rfl trivial ?_
  refine Runs.cal (y := mX0_item) (as := [.int (N (encC 2 x y 15 15)), .int (N 1)]) (rest := []) (pc' := 17) (cs := []) (v := some (.int (N (itC (encC 2 x y 15 15) 1)))) (h1 := h) rfl trivial (by decide) (c_item (enc_lt (by omega) (by omega) (by omega) (by omega) (by omega)) (by decide)) ?_
  show Runs _ _ 17 _ [.int (N (itC (encC 2 x y 15 15) 1))] _ _ _ _
  rw [show N (itC (encC 2 x y 15 15) 1) = N y from congrArg N (enc_y (by omega) (by omega) (by omega))]
  refine Runs.go 4 (cs := []) (pc' := bif decide ((N y) = (N 15)) then 55 else 26) (pl' := [some (.int (N (encC 2 x y 15 15))), some (.long (L (pk G))), none, some (.long (L (pk (sgl x l0)))), none, some (.int (N 1)), some (.int (N y)), some (.int (N l0))]) (st' := []) (h' := h) rfl trivial ?_
  refine Runs.brF (decide_eq_false (fun zq9 => absurd ((N_eq (a := y) (b := 15) (by omega) (by omega)).mp zq9) (by omega))) ?_
  refine Runs.go 2 (cs := []) (pc' := 29) (pl' := [some (.int (N (encC 2 x y 15 15))), some (.long (L (pk G))), none, some (.long (L (pk (sgl x l0)))), none, some (.int (N 1)), some (.int (N y)), some (.int (N l0))]) (st' := [.int (N y), .long (L (pk G))]) (h' := h) rfl trivial ?_
  refine Runs.cal (y := mX1_placesOf) (as := [.long (L (pk G)), .int (N y)]) (rest := []) (pc' := 32) (cs := []) (v := some (.int (N (G y)))) (h1 := h) rfl trivial (by decide) (c_placesOf hG hzz (by omega)) ?_
  show Runs _ _ 32 _ [.int (N (G y))] _ _ _ _
  refine Runs.go 3 (cs := []) (pc' := 36) (pl' := [some (.int (N (encC 2 x y 15 15))), some (.long (L (pk G))), none, some (.long (L (pk (sgl x l0)))), none, some (.int (N 1)), some (.int (N y)), some (.int (N l0))]) (st' := [.long (L (pk G)), .int (N 1), .int (N (encC 2 x y 15 15)), .int (N (G y))]) (h' := h) rfl trivial ?_
  refine Runs.cal (y := mX0_choices) (as := [.int (N (encC 2 x y 15 15)), .int (N 1), .long (L (pk G))]) (rest := [.int (N (G y))]) (pc' := 39) (cs := []) (v := some (.int (N (((2 * G x ||| 4 * G x) ||| 8 * G x) % 16)))) (h1 := h) rfl trivial (by decide) (c_choices_21 hG hzz hx hy) ?_
  show Runs _ _ 39 _ [.int (N (((2 * G x ||| 4 * G x) ||| 8 * G x) % 16)), .int (N (G y))] _ _ _ _
  refine Runs.topI 3 (cs := []) (pc' := 42) (pl' := [some (.int (N (encC 2 x y 15 15))), some (.long (L (pk G))), none, some (.long (L (pk (sgl x l0)))), none, some (.int (N 1)), some (.int (N y)), some (.int (N l0))]) (v := (N (G y)) &&& ((N (((2 * G x ||| 4 * G x) ||| 8 * G x) % 16)) ^^^ (-1 : Int32))) (v' := N l1) (st' := []) (h' := h) rfl trivial ((N_dif _ _).trans (congrArg N hl1)) ?_
  refine Runs.topJ 4 (cs := []) (pc' := 48) (pl' := [some (.int (N (encC 2 x y 15 15))), some (.long (L (pk G))), none, some (.long (L (pk (sgl x l0)))), none, some (.int (N 1)), some (.int (N y)), some (.int (N l1))]) (v := (N l1 : Int32).toInt64) (v' := L l1) (st' := [.long (L (pk (sgl x l0)))]) (h' := h) rfl trivial (N_toL (by omega)) ?_
  refine Runs.topI 3 (cs := []) (pc' := 52) (pl' := [some (.int (N (encC 2 x y 15 15))), some (.long (L (pk G))), none, some (.long (L (pk (sgl x l0)))), none, some (.int (N 1)), some (.int (N y)), some (.int (N l1))]) (v := (N 4) * (N y)) (v' := N (4 * y)) (st' := [.long (L l1), .long (L (pk (sgl x l0)))]) (h' := h) rfl trivial (NM (by omega)) ?_
  refine Runs.topJ 1 (cs := []) (pc' := 53) (pl' := [some (.int (N (encC 2 x y 15 15))), some (.long (L (pk G))), none, some (.long (L (pk (sgl x l0)))), none, some (.int (N 1)), some (.int (N y)), some (.int (N l1))]) (v := (L l1) <<< (((N (4 * y)) : Int32).toInt64 &&& 63)) (v' := L (l1 * 2 ^ (4 * y))) (st' := [.long (L (pk (sgl x l0)))]) (h' := h) rfl trivial (L_shl (by omega)) ?_
  refine Runs.topJ 1 (cs := []) (pc' := 54) (pl' := [some (.int (N (encC 2 x y 15 15))), some (.long (L (pk G))), none, some (.long (L (pk (sgl x l0)))), none, some (.int (N 1)), some (.int (N y)), some (.int (N l1))]) (v := (L (pk (sgl x l0))) ||| (L (l1 * 2 ^ (4 * y)))) (v' := L (pk (fun i => sgl x l0 i ||| sgl y l1 i))) (st' := []) (h' := h) rfl trivial (sgl_s (sgl_16 hb0) hy hb1) ?_
  refine Runs.goL 2 (cs := []) (pc' := 58) (pl1 := [some (.int (N (encC 2 x y 15 15))), some (.long (L (pk G))), none, some (.long (L (pk (fun i => sgl x l0 i ||| sgl y l1 i)))), none, some (.int (N 1 + N 1)), some (.int (N y)), some (.int (N l1))]) (pl' := [some (.int (N (encC 2 x y 15 15))), some (.long (L (pk G))), none, some (.long (L (pk (fun i => sgl x l0 i ||| sgl y l1 i)))), none, some (.int (N 2)), some (.int (N y)), some (.int (N l1))]) (st' := []) (h' := h) rfl trivial (congrArg (fun zq9 => ([some (.int (N (encC 2 x y 15 15))), some (.long (L (pk G))), none, some (.long (L (pk (fun i => sgl x l0 i ||| sgl y l1 i)))), none, some (.int zq9), some (.int (N y)), some (.int (N l1))] : PL)) (NA (by omega))) ?_
  refine Runs.go 4 (cs := []) (pc' := bif decide ((N 3) ≤ (N 2)) then 61 else 11) (pl' := [some (.int (N (encC 2 x y 15 15))), some (.long (L (pk G))), none, some (.long (L (pk (fun i => sgl x l0 i ||| sgl y l1 i)))), none, some (.int (N 2)), some (.int (N y)), some (.int (N l1))]) (st' := []) (h' := h) rfl trivial ?_
  refine Runs.brF (decide_eq_false (by decide)) ?_
  refine Runs.go 2 (cs := []) (pc' := 14) (pl' := [some (.int (N (encC 2 x y 15 15))), some (.long (L (pk G))), none, some (.long (L (pk (fun i => sgl x l0 i ||| sgl y l1 i)))), none, some (.int (N 2)), some (.int (N y)), some (.int (N l1))]) (st' := [.int (N 2), .int (N (encC 2 x y 15 15))]) (h' := h) rfl trivial ?_
  refine Runs.cal (y := mX0_item) (as := [.int (N (encC 2 x y 15 15)), .int (N 2)]) (rest := []) (pc' := 17) (cs := []) (v := some (.int (N (itC (encC 2 x y 15 15) 2)))) (h1 := h) rfl trivial (by decide) (c_item (enc_lt (by omega) (by omega) (by omega) (by omega) (by omega)) (by decide)) ?_
  show Runs _ _ 17 _ [.int (N (itC (encC 2 x y 15 15) 2))] _ _ _ _
  rw [show N (itC (encC 2 x y 15 15) 2) = N 15 from congrArg N (enc_z (by omega) (by omega) (by omega) (by omega))]
  refine Runs.go 4 (cs := []) (pc' := bif decide ((N 15) = (N 15)) then 55 else 26) (pl' := [some (.int (N (encC 2 x y 15 15))), some (.long (L (pk G))), none, some (.long (L (pk (fun i => sgl x l0 i ||| sgl y l1 i)))), none, some (.int (N 2)), some (.int (N 15)), some (.int (N l1))]) (st' := []) (h' := h) rfl trivial ?_
  refine Runs.brT (decide_eq_true (by decide)) ?_
  refine Runs.goL 1 (cs := []) (pc' := 58) (pl1 := [some (.int (N (encC 2 x y 15 15))), some (.long (L (pk G))), none, some (.long (L (pk (fun i => sgl x l0 i ||| sgl y l1 i)))), none, some (.int (N 2 + N 1)), some (.int (N 15)), some (.int (N l1))]) (pl' := [some (.int (N (encC 2 x y 15 15))), some (.long (L (pk G))), none, some (.long (L (pk (fun i => sgl x l0 i ||| sgl y l1 i)))), none, some (.int (N 3)), some (.int (N 15)), some (.int (N l1))]) (st' := []) (h' := h) rfl trivial (congrArg (fun zq9 => ([some (.int (N (encC 2 x y 15 15))), some (.long (L (pk G))), none, some (.long (L (pk (fun i => sgl x l0 i ||| sgl y l1 i)))), none, some (.int zq9), some (.int (N 15)), some (.int (N l1))] : PL)) (NA (by omega))) ?_
  refine Runs.go 4 (cs := []) (pc' := bif decide ((N 3) ≤ (N 3)) then 61 else 11) (pl' := [some (.int (N (encC 2 x y 15 15))), some (.long (L (pk G))), none, some (.long (L (pk (fun i => sgl x l0 i ||| sgl y l1 i)))), none, some (.int (N 3)), some (.int (N 15)), some (.int (N l1))]) (st' := []) (h' := h) rfl trivial ?_
  refine Runs.brT (decide_eq_true (by decide)) ?_
  refine Runs.go 1 (cs := []) (pc' := 62) (pl' := [some (.int (N (encC 2 x y 15 15))), some (.long (L (pk G))), none, some (.long (L (pk (fun i => sgl x l0 i ||| sgl y l1 i)))), none, some (.int (N 3)), some (.int (N 15)), some (.int (N l1))]) (st' := [.long (L (pk (fun i => sgl x l0 i ||| sgl y l1 i)))]) (h' := h) rfl trivial ?_
  exact Runs.retE (cs := []) rfl trivial (retJ rfl) rfl
theorem c_ruledOut_3 {G : Nat → Nat} {x y : Nat} {h : PH} (hG : M16 G) (hzz : Z12 G) (hx : x < 12) (hy : y < 12) : Call 2 mX0_ruledOut [.int (N (encC 3 x y 15 15)), .long (L (pk G))] h (.inl (some (.long (L (pk (fun i => sgl x (dif (G x) ((2 * G y ||| G y / 2) % 16)) i ||| sgl y (dif (G y) ((2 * G x ||| G x / 2) % 16)) i)))))) h 0 := by
  have gx := hG x hx
  have gy := hG y hy
  have hb0 : dif (G x) ((2 * G y ||| G y / 2) % 16) < 16 := dif_16 gx
  generalize hl0 : dif (G x) ((2 * G y ||| G y / 2) % 16) = l0 at hb0 ⊢
  have hb1 : dif (G y) ((2 * G x ||| G x / 2) % 16) < 16 := dif_16 gy
  generalize hl1 : dif (G y) ((2 * G x ||| G x / 2) % 16) = l1 at hb1 ⊢
  refine Runs.go 7 (cs := []) (pc' := bif decide ((N 3) ≤ (N 0)) then 61 else 11) (pl' := [some (.int (N (encC 3 x y 15 15))), some (.long (L (pk G))), none, some (.long (L 0)), none, some (.int (N 0)), none, none]) (st' := []) (h' := h) rfl trivial ?_
  refine Runs.brF (decide_eq_false (by decide)) ?_
  refine Runs.go 2 (cs := []) (pc' := 14) (pl' := [some (.int (N (encC 3 x y 15 15))), some (.long (L (pk G))), none, some (.long (L 0)), none, some (.int (N 0)), none, none]) (st' := [.int (N 0), .int (N (encC 3 x y 15 15))]) (h' := h) rfl trivial ?_
  refine Runs.cal (y := mX0_item) (as := [.int (N (encC 3 x y 15 15)), .int (N 0)]) (rest := []) (pc' := 17) (cs := []) (v := some (.int (N (itC (encC 3 x y 15 15) 0)))) (h1 := h) rfl trivial (by decide) (c_item (enc_lt (by omega) (by omega) (by omega) (by omega) (by omega)) (by decide)) ?_
  show Runs _ _ 17 _ [.int (N (itC (encC 3 x y 15 15) 0))] _ _ _ _
  rw [show N (itC (encC 3 x y 15 15) 0) = N x from congrArg N (enc_x (by omega) (by omega))]
  refine Runs.go 4 (cs := []) (pc' := bif decide ((N x) = (N 15)) then 55 else 26) (pl' := [some (.int (N (encC 3 x y 15 15))), some (.long (L (pk G))), none, some (.long (L 0)), none, some (.int (N 0)), some (.int (N x)), none]) (st' := []) (h' := h) rfl trivial ?_
  refine Runs.brF (decide_eq_false (fun zq9 => absurd ((N_eq (a := x) (b := 15) (by omega) (by omega)).mp zq9) (by omega))) ?_
  refine Runs.go 2 (cs := []) (pc' := 29) (pl' := [some (.int (N (encC 3 x y 15 15))), some (.long (L (pk G))), none, some (.long (L 0)), none, some (.int (N 0)), some (.int (N x)), none]) (st' := [.int (N x), .long (L (pk G))]) (h' := h) rfl trivial ?_
  refine Runs.cal (y := mX1_placesOf) (as := [.long (L (pk G)), .int (N x)]) (rest := []) (pc' := 32) (cs := []) (v := some (.int (N (G x)))) (h1 := h) rfl trivial (by decide) (c_placesOf hG hzz (by omega)) ?_
  show Runs _ _ 32 _ [.int (N (G x))] _ _ _ _
  refine Runs.go 3 (cs := []) (pc' := 36) (pl' := [some (.int (N (encC 3 x y 15 15))), some (.long (L (pk G))), none, some (.long (L 0)), none, some (.int (N 0)), some (.int (N x)), none]) (st' := [.long (L (pk G)), .int (N 0), .int (N (encC 3 x y 15 15)), .int (N (G x))]) (h' := h) rfl trivial ?_
  refine Runs.cal (y := mX0_choices) (as := [.int (N (encC 3 x y 15 15)), .int (N 0), .long (L (pk G))]) (rest := [.int (N (G x))]) (pc' := 39) (cs := []) (v := some (.int (N ((2 * G y ||| G y / 2) % 16)))) (h1 := h) rfl trivial (by decide) (c_choices_30 hG hzz hx hy) ?_
  show Runs _ _ 39 _ [.int (N ((2 * G y ||| G y / 2) % 16)), .int (N (G x))] _ _ _ _
  refine Runs.topI 3 (cs := []) (pc' := 42) (pl' := [some (.int (N (encC 3 x y 15 15))), some (.long (L (pk G))), none, some (.long (L 0)), none, some (.int (N 0)), some (.int (N x)), none]) (v := (N (G x)) &&& ((N ((2 * G y ||| G y / 2) % 16)) ^^^ (-1 : Int32))) (v' := N l0) (st' := []) (h' := h) rfl trivial ((N_dif _ _).trans (congrArg N hl0)) ?_
  refine Runs.topJ 4 (cs := []) (pc' := 48) (pl' := [some (.int (N (encC 3 x y 15 15))), some (.long (L (pk G))), none, some (.long (L 0)), none, some (.int (N 0)), some (.int (N x)), some (.int (N l0))]) (v := (N l0 : Int32).toInt64) (v' := L l0) (st' := [.long (L 0)]) (h' := h) rfl trivial (N_toL (by omega)) ?_
  refine Runs.topI 3 (cs := []) (pc' := 52) (pl' := [some (.int (N (encC 3 x y 15 15))), some (.long (L (pk G))), none, some (.long (L 0)), none, some (.int (N 0)), some (.int (N x)), some (.int (N l0))]) (v := (N 4) * (N x)) (v' := N (4 * x)) (st' := [.long (L l0), .long (L 0)]) (h' := h) rfl trivial (NM (by omega)) ?_
  refine Runs.topJ 1 (cs := []) (pc' := 53) (pl' := [some (.int (N (encC 3 x y 15 15))), some (.long (L (pk G))), none, some (.long (L 0)), none, some (.int (N 0)), some (.int (N x)), some (.int (N l0))]) (v := (L l0) <<< (((N (4 * x)) : Int32).toInt64 &&& 63)) (v' := L (l0 * 2 ^ (4 * x))) (st' := [.long (L 0)]) (h' := h) rfl trivial (L_shl (by omega)) ?_
  refine Runs.topJ 1 (cs := []) (pc' := 54) (pl' := [some (.int (N (encC 3 x y 15 15))), some (.long (L (pk G))), none, some (.long (L 0)), none, some (.int (N 0)), some (.int (N x)), some (.int (N l0))]) (v := (L 0) ||| (L (l0 * 2 ^ (4 * x)))) (v' := L (pk (sgl x l0))) (st' := []) (h' := h) rfl trivial (sgl_0 hx hb0) ?_
  refine Runs.goL 2 (cs := []) (pc' := 58) (pl1 := [some (.int (N (encC 3 x y 15 15))), some (.long (L (pk G))), none, some (.long (L (pk (sgl x l0)))), none, some (.int (N 0 + N 1)), some (.int (N x)), some (.int (N l0))]) (pl' := [some (.int (N (encC 3 x y 15 15))), some (.long (L (pk G))), none, some (.long (L (pk (sgl x l0)))), none, some (.int (N 1)), some (.int (N x)), some (.int (N l0))]) (st' := []) (h' := h) rfl trivial (congrArg (fun zq9 => ([some (.int (N (encC 3 x y 15 15))), some (.long (L (pk G))), none, some (.long (L (pk (sgl x l0)))), none, some (.int zq9), some (.int (N x)), some (.int (N l0))] : PL)) (NA (by omega))) ?_
  refine Runs.go 4 (cs := []) (pc' := bif decide ((N 3) ≤ (N 1)) then 61 else 11) (pl' := [some (.int (N (encC 3 x y 15 15))), some (.long (L (pk G))), none, some (.long (L (pk (sgl x l0)))), none, some (.int (N 1)), some (.int (N x)), some (.int (N l0))]) (st' := []) (h' := h) rfl trivial ?_
  refine Runs.brF (decide_eq_false (by decide)) ?_
  refine Runs.go 2 (cs := []) (pc' := 14) (pl' := [some (.int (N (encC 3 x y 15 15))), some (.long (L (pk G))), none, some (.long (L (pk (sgl x l0)))), none, some (.int (N 1)), some (.int (N x)), some (.int (N l0))]) (st' := [.int (N 1), .int (N (encC 3 x y 15 15))]) (h' := h) rfl trivial ?_
  refine Runs.cal (y := mX0_item) (as := [.int (N (encC 3 x y 15 15)), .int (N 1)]) (rest := []) (pc' := 17) (cs := []) (v := some (.int (N (itC (encC 3 x y 15 15) 1)))) (h1 := h) rfl trivial (by decide) (c_item (enc_lt (by omega) (by omega) (by omega) (by omega) (by omega)) (by decide)) ?_
  show Runs _ _ 17 _ [.int (N (itC (encC 3 x y 15 15) 1))] _ _ _ _
  rw [show N (itC (encC 3 x y 15 15) 1) = N y from congrArg N (enc_y (by omega) (by omega) (by omega))]
  refine Runs.go 4 (cs := []) (pc' := bif decide ((N y) = (N 15)) then 55 else 26) (pl' := [some (.int (N (encC 3 x y 15 15))), some (.long (L (pk G))), none, some (.long (L (pk (sgl x l0)))), none, some (.int (N 1)), some (.int (N y)), some (.int (N l0))]) (st' := []) (h' := h) rfl trivial ?_
  refine Runs.brF (decide_eq_false (fun zq9 => absurd ((N_eq (a := y) (b := 15) (by omega) (by omega)).mp zq9) (by omega))) ?_
  refine Runs.go 2 (cs := []) (pc' := 29) (pl' := [some (.int (N (encC 3 x y 15 15))), some (.long (L (pk G))), none, some (.long (L (pk (sgl x l0)))), none, some (.int (N 1)), some (.int (N y)), some (.int (N l0))]) (st' := [.int (N y), .long (L (pk G))]) (h' := h) rfl trivial ?_
  refine Runs.cal (y := mX1_placesOf) (as := [.long (L (pk G)), .int (N y)]) (rest := []) (pc' := 32) (cs := []) (v := some (.int (N (G y)))) (h1 := h) rfl trivial (by decide) (c_placesOf hG hzz (by omega)) ?_
  show Runs _ _ 32 _ [.int (N (G y))] _ _ _ _
  refine Runs.go 3 (cs := []) (pc' := 36) (pl' := [some (.int (N (encC 3 x y 15 15))), some (.long (L (pk G))), none, some (.long (L (pk (sgl x l0)))), none, some (.int (N 1)), some (.int (N y)), some (.int (N l0))]) (st' := [.long (L (pk G)), .int (N 1), .int (N (encC 3 x y 15 15)), .int (N (G y))]) (h' := h) rfl trivial ?_
  refine Runs.cal (y := mX0_choices) (as := [.int (N (encC 3 x y 15 15)), .int (N 1), .long (L (pk G))]) (rest := [.int (N (G y))]) (pc' := 39) (cs := []) (v := some (.int (N ((2 * G x ||| G x / 2) % 16)))) (h1 := h) rfl trivial (by decide) (c_choices_31 hG hzz hx hy) ?_
  show Runs _ _ 39 _ [.int (N ((2 * G x ||| G x / 2) % 16)), .int (N (G y))] _ _ _ _
  refine Runs.topI 3 (cs := []) (pc' := 42) (pl' := [some (.int (N (encC 3 x y 15 15))), some (.long (L (pk G))), none, some (.long (L (pk (sgl x l0)))), none, some (.int (N 1)), some (.int (N y)), some (.int (N l0))]) (v := (N (G y)) &&& ((N ((2 * G x ||| G x / 2) % 16)) ^^^ (-1 : Int32))) (v' := N l1) (st' := []) (h' := h) rfl trivial ((N_dif _ _).trans (congrArg N hl1)) ?_
  refine Runs.topJ 4 (cs := []) (pc' := 48) (pl' := [some (.int (N (encC 3 x y 15 15))), some (.long (L (pk G))), none, some (.long (L (pk (sgl x l0)))), none, some (.int (N 1)), some (.int (N y)), some (.int (N l1))]) (v := (N l1 : Int32).toInt64) (v' := L l1) (st' := [.long (L (pk (sgl x l0)))]) (h' := h) rfl trivial (N_toL (by omega)) ?_
  refine Runs.topI 3 (cs := []) (pc' := 52) (pl' := [some (.int (N (encC 3 x y 15 15))), some (.long (L (pk G))), none, some (.long (L (pk (sgl x l0)))), none, some (.int (N 1)), some (.int (N y)), some (.int (N l1))]) (v := (N 4) * (N y)) (v' := N (4 * y)) (st' := [.long (L l1), .long (L (pk (sgl x l0)))]) (h' := h) rfl trivial (NM (by omega)) ?_
  refine Runs.topJ 1 (cs := []) (pc' := 53) (pl' := [some (.int (N (encC 3 x y 15 15))), some (.long (L (pk G))), none, some (.long (L (pk (sgl x l0)))), none, some (.int (N 1)), some (.int (N y)), some (.int (N l1))]) (v := (L l1) <<< (((N (4 * y)) : Int32).toInt64 &&& 63)) (v' := L (l1 * 2 ^ (4 * y))) (st' := [.long (L (pk (sgl x l0)))]) (h' := h) rfl trivial (L_shl (by omega)) ?_
  refine Runs.topJ 1 (cs := []) (pc' := 54) (pl' := [some (.int (N (encC 3 x y 15 15))), some (.long (L (pk G))), none, some (.long (L (pk (sgl x l0)))), none, some (.int (N 1)), some (.int (N y)), some (.int (N l1))]) (v := (L (pk (sgl x l0))) ||| (L (l1 * 2 ^ (4 * y)))) (v' := L (pk (fun i => sgl x l0 i ||| sgl y l1 i))) (st' := []) (h' := h) rfl trivial (sgl_s (sgl_16 hb0) hy hb1) ?_
  refine Runs.goL 2 (cs := []) (pc' := 58) (pl1 := [some (.int (N (encC 3 x y 15 15))), some (.long (L (pk G))), none, some (.long (L (pk (fun i => sgl x l0 i ||| sgl y l1 i)))), none, some (.int (N 1 + N 1)), some (.int (N y)), some (.int (N l1))]) (pl' := [some (.int (N (encC 3 x y 15 15))), some (.long (L (pk G))), none, some (.long (L (pk (fun i => sgl x l0 i ||| sgl y l1 i)))), none, some (.int (N 2)), some (.int (N y)), some (.int (N l1))]) (st' := []) (h' := h) rfl trivial (congrArg (fun zq9 => ([some (.int (N (encC 3 x y 15 15))), some (.long (L (pk G))), none, some (.long (L (pk (fun i => sgl x l0 i ||| sgl y l1 i)))), none, some (.int zq9), some (.int (N y)), some (.int (N l1))] : PL)) (NA (by omega))) ?_
  refine Runs.go 4 (cs := []) (pc' := bif decide ((N 3) ≤ (N 2)) then 61 else 11) (pl' := [some (.int (N (encC 3 x y 15 15))), some (.long (L (pk G))), none, some (.long (L (pk (fun i => sgl x l0 i ||| sgl y l1 i)))), none, some (.int (N 2)), some (.int (N y)), some (.int (N l1))]) (st' := []) (h' := h) rfl trivial ?_
  refine Runs.brF (decide_eq_false (by decide)) ?_
  refine Runs.go 2 (cs := []) (pc' := 14) (pl' := [some (.int (N (encC 3 x y 15 15))), some (.long (L (pk G))), none, some (.long (L (pk (fun i => sgl x l0 i ||| sgl y l1 i)))), none, some (.int (N 2)), some (.int (N y)), some (.int (N l1))]) (st' := [.int (N 2), .int (N (encC 3 x y 15 15))]) (h' := h) rfl trivial ?_
  refine Runs.cal (y := mX0_item) (as := [.int (N (encC 3 x y 15 15)), .int (N 2)]) (rest := []) (pc' := 17) (cs := []) (v := some (.int (N (itC (encC 3 x y 15 15) 2)))) (h1 := h) rfl trivial (by decide) (c_item (enc_lt (by omega) (by omega) (by omega) (by omega) (by omega)) (by decide)) ?_
  show Runs _ _ 17 _ [.int (N (itC (encC 3 x y 15 15) 2))] _ _ _ _
  rw [show N (itC (encC 3 x y 15 15) 2) = N 15 from congrArg N (enc_z (by omega) (by omega) (by omega) (by omega))]
  refine Runs.go 4 (cs := []) (pc' := bif decide ((N 15) = (N 15)) then 55 else 26) (pl' := [some (.int (N (encC 3 x y 15 15))), some (.long (L (pk G))), none, some (.long (L (pk (fun i => sgl x l0 i ||| sgl y l1 i)))), none, some (.int (N 2)), some (.int (N 15)), some (.int (N l1))]) (st' := []) (h' := h) rfl trivial ?_
  refine Runs.brT (decide_eq_true (by decide)) ?_
  refine Runs.goL 1 (cs := []) (pc' := 58) (pl1 := [some (.int (N (encC 3 x y 15 15))), some (.long (L (pk G))), none, some (.long (L (pk (fun i => sgl x l0 i ||| sgl y l1 i)))), none, some (.int (N 2 + N 1)), some (.int (N 15)), some (.int (N l1))]) (pl' := [some (.int (N (encC 3 x y 15 15))), some (.long (L (pk G))), none, some (.long (L (pk (fun i => sgl x l0 i ||| sgl y l1 i)))), none, some (.int (N 3)), some (.int (N 15)), some (.int (N l1))]) (st' := []) (h' := h) rfl trivial (congrArg (fun zq9 => ([some (.int (N (encC 3 x y 15 15))), some (.long (L (pk G))), none, some (.long (L (pk (fun i => sgl x l0 i ||| sgl y l1 i)))), none, some (.int zq9), some (.int (N 15)), some (.int (N l1))] : PL)) (NA (by omega))) ?_
  refine Runs.go 4 (cs := []) (pc' := bif decide ((N 3) ≤ (N 3)) then 61 else 11) (pl' := [some (.int (N (encC 3 x y 15 15))), some (.long (L (pk G))), none, some (.long (L (pk (fun i => sgl x l0 i ||| sgl y l1 i)))), none, some (.int (N 3)), some (.int (N 15)), some (.int (N l1))]) (st' := []) (h' := h) rfl trivial ?_
  refine Runs.brT (decide_eq_true (by decide)) ?_
  refine Runs.go 1 (cs := []) (pc' := 62) (pl' := [some (.int (N (encC 3 x y 15 15))), some (.long (L (pk G))), none, some (.long (L (pk (fun i => sgl x l0 i ||| sgl y l1 i)))), none, some (.int (N 3)), some (.int (N 15)), some (.int (N l1))]) (st' := [.long (L (pk (fun i => sgl x l0 i ||| sgl y l1 i)))]) (h' := h) rfl trivial ?_
  exact Runs.retE (cs := []) rfl trivial (retJ rfl) rfl
theorem c_ruledOut_4 {G : Nat → Nat} {x p : Nat} {h : PH} (hG : M16 G) (hzz : Z12 G) (hx : x < 12) (hp : p < 4) : Call 2 mX0_ruledOut [.int (N (encC 4 x 15 15 p)), .long (L (pk G))] h (.inl (some (.long (L (pk (sgl x (dif (G x) (2 ^ p)))))))) h 0 := by
  have gx := hG x hx
  have hb0 : dif (G x) (2 ^ p) < 16 := dif_16 gx
  generalize hl0 : dif (G x) (2 ^ p) = l0 at hb0 ⊢
  refine Runs.go 7 (cs := []) (pc' := bif decide ((N 3) ≤ (N 0)) then 61 else 11) (pl' := [some (.int (N (encC 4 x 15 15 p))), some (.long (L (pk G))), none, some (.long (L 0)), none, some (.int (N 0)), none, none]) (st' := []) (h' := h) rfl trivial ?_
  refine Runs.brF (decide_eq_false (by decide)) ?_
  refine Runs.go 2 (cs := []) (pc' := 14) (pl' := [some (.int (N (encC 4 x 15 15 p))), some (.long (L (pk G))), none, some (.long (L 0)), none, some (.int (N 0)), none, none]) (st' := [.int (N 0), .int (N (encC 4 x 15 15 p))]) (h' := h) rfl trivial ?_
  refine Runs.cal (y := mX0_item) (as := [.int (N (encC 4 x 15 15 p)), .int (N 0)]) (rest := []) (pc' := 17) (cs := []) (v := some (.int (N (itC (encC 4 x 15 15 p) 0)))) (h1 := h) rfl trivial (by decide) (c_item (enc_lt (by omega) (by omega) (by omega) (by omega) (by omega)) (by decide)) ?_
  show Runs _ _ 17 _ [.int (N (itC (encC 4 x 15 15 p) 0))] _ _ _ _
  rw [show N (itC (encC 4 x 15 15 p) 0) = N x from congrArg N (enc_x (by omega) (by omega))]
  refine Runs.go 4 (cs := []) (pc' := bif decide ((N x) = (N 15)) then 55 else 26) (pl' := [some (.int (N (encC 4 x 15 15 p))), some (.long (L (pk G))), none, some (.long (L 0)), none, some (.int (N 0)), some (.int (N x)), none]) (st' := []) (h' := h) rfl trivial ?_
  refine Runs.brF (decide_eq_false (fun zq9 => absurd ((N_eq (a := x) (b := 15) (by omega) (by omega)).mp zq9) (by omega))) ?_
  refine Runs.go 2 (cs := []) (pc' := 29) (pl' := [some (.int (N (encC 4 x 15 15 p))), some (.long (L (pk G))), none, some (.long (L 0)), none, some (.int (N 0)), some (.int (N x)), none]) (st' := [.int (N x), .long (L (pk G))]) (h' := h) rfl trivial ?_
  refine Runs.cal (y := mX1_placesOf) (as := [.long (L (pk G)), .int (N x)]) (rest := []) (pc' := 32) (cs := []) (v := some (.int (N (G x)))) (h1 := h) rfl trivial (by decide) (c_placesOf hG hzz (by omega)) ?_
  show Runs _ _ 32 _ [.int (N (G x))] _ _ _ _
  refine Runs.go 3 (cs := []) (pc' := 36) (pl' := [some (.int (N (encC 4 x 15 15 p))), some (.long (L (pk G))), none, some (.long (L 0)), none, some (.int (N 0)), some (.int (N x)), none]) (st' := [.long (L (pk G)), .int (N 0), .int (N (encC 4 x 15 15 p)), .int (N (G x))]) (h' := h) rfl trivial ?_
  refine Runs.cal (y := mX0_choices) (as := [.int (N (encC 4 x 15 15 p)), .int (N 0), .long (L (pk G))]) (rest := [.int (N (G x))]) (pc' := 39) (cs := []) (v := some (.int (N (2 ^ p)))) (h1 := h) rfl trivial (by decide) (c_choices_40 hG hzz hx hp) ?_
  show Runs _ _ 39 _ [.int (N (2 ^ p)), .int (N (G x))] _ _ _ _
  refine Runs.topI 3 (cs := []) (pc' := 42) (pl' := [some (.int (N (encC 4 x 15 15 p))), some (.long (L (pk G))), none, some (.long (L 0)), none, some (.int (N 0)), some (.int (N x)), none]) (v := (N (G x)) &&& ((N (2 ^ p)) ^^^ (-1 : Int32))) (v' := N l0) (st' := []) (h' := h) rfl trivial ((N_dif _ _).trans (congrArg N hl0)) ?_
  refine Runs.topJ 4 (cs := []) (pc' := 48) (pl' := [some (.int (N (encC 4 x 15 15 p))), some (.long (L (pk G))), none, some (.long (L 0)), none, some (.int (N 0)), some (.int (N x)), some (.int (N l0))]) (v := (N l0 : Int32).toInt64) (v' := L l0) (st' := [.long (L 0)]) (h' := h) rfl trivial (N_toL (by omega)) ?_
  refine Runs.topI 3 (cs := []) (pc' := 52) (pl' := [some (.int (N (encC 4 x 15 15 p))), some (.long (L (pk G))), none, some (.long (L 0)), none, some (.int (N 0)), some (.int (N x)), some (.int (N l0))]) (v := (N 4) * (N x)) (v' := N (4 * x)) (st' := [.long (L l0), .long (L 0)]) (h' := h) rfl trivial (NM (by omega)) ?_
  refine Runs.topJ 1 (cs := []) (pc' := 53) (pl' := [some (.int (N (encC 4 x 15 15 p))), some (.long (L (pk G))), none, some (.long (L 0)), none, some (.int (N 0)), some (.int (N x)), some (.int (N l0))]) (v := (L l0) <<< (((N (4 * x)) : Int32).toInt64 &&& 63)) (v' := L (l0 * 2 ^ (4 * x))) (st' := [.long (L 0)]) (h' := h) rfl trivial (L_shl (by omega)) ?_
  refine Runs.topJ 1 (cs := []) (pc' := 54) (pl' := [some (.int (N (encC 4 x 15 15 p))), some (.long (L (pk G))), none, some (.long (L 0)), none, some (.int (N 0)), some (.int (N x)), some (.int (N l0))]) (v := (L 0) ||| (L (l0 * 2 ^ (4 * x)))) (v' := L (pk (sgl x l0))) (st' := []) (h' := h) rfl trivial (sgl_0 hx hb0) ?_
  refine Runs.goL 2 (cs := []) (pc' := 58) (pl1 := [some (.int (N (encC 4 x 15 15 p))), some (.long (L (pk G))), none, some (.long (L (pk (sgl x l0)))), none, some (.int (N 0 + N 1)), some (.int (N x)), some (.int (N l0))]) (pl' := [some (.int (N (encC 4 x 15 15 p))), some (.long (L (pk G))), none, some (.long (L (pk (sgl x l0)))), none, some (.int (N 1)), some (.int (N x)), some (.int (N l0))]) (st' := []) (h' := h) rfl trivial (congrArg (fun zq9 => ([some (.int (N (encC 4 x 15 15 p))), some (.long (L (pk G))), none, some (.long (L (pk (sgl x l0)))), none, some (.int zq9), some (.int (N x)), some (.int (N l0))] : PL)) (NA (by omega))) ?_
  refine Runs.go 4 (cs := []) (pc' := bif decide ((N 3) ≤ (N 1)) then 61 else 11) (pl' := [some (.int (N (encC 4 x 15 15 p))), some (.long (L (pk G))), none, some (.long (L (pk (sgl x l0)))), none, some (.int (N 1)), some (.int (N x)), some (.int (N l0))]) (st' := []) (h' := h) rfl trivial ?_
  refine Runs.brF (decide_eq_false (by decide)) ?_
  refine Runs.go 2 (cs := []) (pc' := 14) (pl' := [some (.int (N (encC 4 x 15 15 p))), some (.long (L (pk G))), none, some (.long (L (pk (sgl x l0)))), none, some (.int (N 1)), some (.int (N x)), some (.int (N l0))]) (st' := [.int (N 1), .int (N (encC 4 x 15 15 p))]) (h' := h) rfl trivial ?_
  refine Runs.cal (y := mX0_item) (as := [.int (N (encC 4 x 15 15 p)), .int (N 1)]) (rest := []) (pc' := 17) (cs := []) (v := some (.int (N (itC (encC 4 x 15 15 p) 1)))) (h1 := h) rfl trivial (by decide) (c_item (enc_lt (by omega) (by omega) (by omega) (by omega) (by omega)) (by decide)) ?_
  show Runs _ _ 17 _ [.int (N (itC (encC 4 x 15 15 p) 1))] _ _ _ _
  rw [show N (itC (encC 4 x 15 15 p) 1) = N 15 from congrArg N (enc_y (by omega) (by omega) (by omega))]
  refine Runs.go 4 (cs := []) (pc' := bif decide ((N 15) = (N 15)) then 55 else 26) (pl' := [some (.int (N (encC 4 x 15 15 p))), some (.long (L (pk G))), none, some (.long (L (pk (sgl x l0)))), none, some (.int (N 1)), some (.int (N 15)), some (.int (N l0))]) (st' := []) (h' := h) rfl trivial ?_
  refine Runs.brT (decide_eq_true (by decide)) ?_
  refine Runs.goL 1 (cs := []) (pc' := 58) (pl1 := [some (.int (N (encC 4 x 15 15 p))), some (.long (L (pk G))), none, some (.long (L (pk (sgl x l0)))), none, some (.int (N 1 + N 1)), some (.int (N 15)), some (.int (N l0))]) (pl' := [some (.int (N (encC 4 x 15 15 p))), some (.long (L (pk G))), none, some (.long (L (pk (sgl x l0)))), none, some (.int (N 2)), some (.int (N 15)), some (.int (N l0))]) (st' := []) (h' := h) rfl trivial (congrArg (fun zq9 => ([some (.int (N (encC 4 x 15 15 p))), some (.long (L (pk G))), none, some (.long (L (pk (sgl x l0)))), none, some (.int zq9), some (.int (N 15)), some (.int (N l0))] : PL)) (NA (by omega))) ?_
  refine Runs.go 4 (cs := []) (pc' := bif decide ((N 3) ≤ (N 2)) then 61 else 11) (pl' := [some (.int (N (encC 4 x 15 15 p))), some (.long (L (pk G))), none, some (.long (L (pk (sgl x l0)))), none, some (.int (N 2)), some (.int (N 15)), some (.int (N l0))]) (st' := []) (h' := h) rfl trivial ?_
  refine Runs.brF (decide_eq_false (by decide)) ?_
  refine Runs.go 2 (cs := []) (pc' := 14) (pl' := [some (.int (N (encC 4 x 15 15 p))), some (.long (L (pk G))), none, some (.long (L (pk (sgl x l0)))), none, some (.int (N 2)), some (.int (N 15)), some (.int (N l0))]) (st' := [.int (N 2), .int (N (encC 4 x 15 15 p))]) (h' := h) rfl trivial ?_
  refine Runs.cal (y := mX0_item) (as := [.int (N (encC 4 x 15 15 p)), .int (N 2)]) (rest := []) (pc' := 17) (cs := []) (v := some (.int (N (itC (encC 4 x 15 15 p) 2)))) (h1 := h) rfl trivial (by decide) (c_item (enc_lt (by omega) (by omega) (by omega) (by omega) (by omega)) (by decide)) ?_
  show Runs _ _ 17 _ [.int (N (itC (encC 4 x 15 15 p) 2))] _ _ _ _
  rw [show N (itC (encC 4 x 15 15 p) 2) = N 15 from congrArg N (enc_z (by omega) (by omega) (by omega) (by omega))]
  refine Runs.go 4 (cs := []) (pc' := bif decide ((N 15) = (N 15)) then 55 else 26) (pl' := [some (.int (N (encC 4 x 15 15 p))), some (.long (L (pk G))), none, some (.long (L (pk (sgl x l0)))), none, some (.int (N 2)), some (.int (N 15)), some (.int (N l0))]) (st' := []) (h' := h) rfl trivial ?_
  refine Runs.brT (decide_eq_true (by decide)) ?_
  refine Runs.goL 1 (cs := []) (pc' := 58) (pl1 := [some (.int (N (encC 4 x 15 15 p))), some (.long (L (pk G))), none, some (.long (L (pk (sgl x l0)))), none, some (.int (N 2 + N 1)), some (.int (N 15)), some (.int (N l0))]) (pl' := [some (.int (N (encC 4 x 15 15 p))), some (.long (L (pk G))), none, some (.long (L (pk (sgl x l0)))), none, some (.int (N 3)), some (.int (N 15)), some (.int (N l0))]) (st' := []) (h' := h) rfl trivial (congrArg (fun zq9 => ([some (.int (N (encC 4 x 15 15 p))), some (.long (L (pk G))), none, some (.long (L (pk (sgl x l0)))), none, some (.int zq9), some (.int (N 15)), some (.int (N l0))] : PL)) (NA (by omega))) ?_
  refine Runs.go 4 (cs := []) (pc' := bif decide ((N 3) ≤ (N 3)) then 61 else 11) (pl' := [some (.int (N (encC 4 x 15 15 p))), some (.long (L (pk G))), none, some (.long (L (pk (sgl x l0)))), none, some (.int (N 3)), some (.int (N 15)), some (.int (N l0))]) (st' := []) (h' := h) rfl trivial ?_
  refine Runs.brT (decide_eq_true (by decide)) ?_
  refine Runs.go 1 (cs := []) (pc' := 62) (pl' := [some (.int (N (encC 4 x 15 15 p))), some (.long (L (pk G))), none, some (.long (L (pk (sgl x l0)))), none, some (.int (N 3)), some (.int (N 15)), some (.int (N l0))]) (st' := [.long (L (pk (sgl x l0)))]) (h' := h) rfl trivial ?_
  exact Runs.retE (cs := []) rfl trivial (retJ rfl) rfl
theorem c_ruledOut_5 {G : Nat → Nat} {x p : Nat} {h : PH} (hG : M16 G) (hzz : Z12 G) (hx : x < 12) (hp : p < 4) : Call 2 mX0_ruledOut [.int (N (encC 5 x 15 15 p)), .long (L (pk G))] h (.inl (some (.long (L (pk (sgl x (dif (G x) (dif 15 (2 ^ p))))))))) h 0 := by
  have gx := hG x hx
  have hb0 : dif (G x) (dif 15 (2 ^ p)) < 16 := dif_16 gx
  generalize hl0 : dif (G x) (dif 15 (2 ^ p)) = l0 at hb0 ⊢
  refine Runs.go 7 (cs := []) (pc' := bif decide ((N 3) ≤ (N 0)) then 61 else 11) (pl' := [some (.int (N (encC 5 x 15 15 p))), some (.long (L (pk G))), none, some (.long (L 0)), none, some (.int (N 0)), none, none]) (st' := []) (h' := h) rfl trivial ?_
  refine Runs.brF (decide_eq_false (by decide)) ?_
  refine Runs.go 2 (cs := []) (pc' := 14) (pl' := [some (.int (N (encC 5 x 15 15 p))), some (.long (L (pk G))), none, some (.long (L 0)), none, some (.int (N 0)), none, none]) (st' := [.int (N 0), .int (N (encC 5 x 15 15 p))]) (h' := h) rfl trivial ?_
  refine Runs.cal (y := mX0_item) (as := [.int (N (encC 5 x 15 15 p)), .int (N 0)]) (rest := []) (pc' := 17) (cs := []) (v := some (.int (N (itC (encC 5 x 15 15 p) 0)))) (h1 := h) rfl trivial (by decide) (c_item (enc_lt (by omega) (by omega) (by omega) (by omega) (by omega)) (by decide)) ?_
  show Runs _ _ 17 _ [.int (N (itC (encC 5 x 15 15 p) 0))] _ _ _ _
  rw [show N (itC (encC 5 x 15 15 p) 0) = N x from congrArg N (enc_x (by omega) (by omega))]
  refine Runs.go 4 (cs := []) (pc' := bif decide ((N x) = (N 15)) then 55 else 26) (pl' := [some (.int (N (encC 5 x 15 15 p))), some (.long (L (pk G))), none, some (.long (L 0)), none, some (.int (N 0)), some (.int (N x)), none]) (st' := []) (h' := h) rfl trivial ?_
  refine Runs.brF (decide_eq_false (fun zq9 => absurd ((N_eq (a := x) (b := 15) (by omega) (by omega)).mp zq9) (by omega))) ?_
  refine Runs.go 2 (cs := []) (pc' := 29) (pl' := [some (.int (N (encC 5 x 15 15 p))), some (.long (L (pk G))), none, some (.long (L 0)), none, some (.int (N 0)), some (.int (N x)), none]) (st' := [.int (N x), .long (L (pk G))]) (h' := h) rfl trivial ?_
  refine Runs.cal (y := mX1_placesOf) (as := [.long (L (pk G)), .int (N x)]) (rest := []) (pc' := 32) (cs := []) (v := some (.int (N (G x)))) (h1 := h) rfl trivial (by decide) (c_placesOf hG hzz (by omega)) ?_
  show Runs _ _ 32 _ [.int (N (G x))] _ _ _ _
  refine Runs.go 3 (cs := []) (pc' := 36) (pl' := [some (.int (N (encC 5 x 15 15 p))), some (.long (L (pk G))), none, some (.long (L 0)), none, some (.int (N 0)), some (.int (N x)), none]) (st' := [.long (L (pk G)), .int (N 0), .int (N (encC 5 x 15 15 p)), .int (N (G x))]) (h' := h) rfl trivial ?_
  refine Runs.cal (y := mX0_choices) (as := [.int (N (encC 5 x 15 15 p)), .int (N 0), .long (L (pk G))]) (rest := [.int (N (G x))]) (pc' := 39) (cs := []) (v := some (.int (N (dif 15 (2 ^ p))))) (h1 := h) rfl trivial (by decide) (c_choices_50 hG hzz hx hp) ?_
  show Runs _ _ 39 _ [.int (N (dif 15 (2 ^ p))), .int (N (G x))] _ _ _ _
  refine Runs.topI 3 (cs := []) (pc' := 42) (pl' := [some (.int (N (encC 5 x 15 15 p))), some (.long (L (pk G))), none, some (.long (L 0)), none, some (.int (N 0)), some (.int (N x)), none]) (v := (N (G x)) &&& ((N (dif 15 (2 ^ p))) ^^^ (-1 : Int32))) (v' := N l0) (st' := []) (h' := h) rfl trivial ((N_dif _ _).trans (congrArg N hl0)) ?_
  refine Runs.topJ 4 (cs := []) (pc' := 48) (pl' := [some (.int (N (encC 5 x 15 15 p))), some (.long (L (pk G))), none, some (.long (L 0)), none, some (.int (N 0)), some (.int (N x)), some (.int (N l0))]) (v := (N l0 : Int32).toInt64) (v' := L l0) (st' := [.long (L 0)]) (h' := h) rfl trivial (N_toL (by omega)) ?_
  refine Runs.topI 3 (cs := []) (pc' := 52) (pl' := [some (.int (N (encC 5 x 15 15 p))), some (.long (L (pk G))), none, some (.long (L 0)), none, some (.int (N 0)), some (.int (N x)), some (.int (N l0))]) (v := (N 4) * (N x)) (v' := N (4 * x)) (st' := [.long (L l0), .long (L 0)]) (h' := h) rfl trivial (NM (by omega)) ?_
  refine Runs.topJ 1 (cs := []) (pc' := 53) (pl' := [some (.int (N (encC 5 x 15 15 p))), some (.long (L (pk G))), none, some (.long (L 0)), none, some (.int (N 0)), some (.int (N x)), some (.int (N l0))]) (v := (L l0) <<< (((N (4 * x)) : Int32).toInt64 &&& 63)) (v' := L (l0 * 2 ^ (4 * x))) (st' := [.long (L 0)]) (h' := h) rfl trivial (L_shl (by omega)) ?_
  refine Runs.topJ 1 (cs := []) (pc' := 54) (pl' := [some (.int (N (encC 5 x 15 15 p))), some (.long (L (pk G))), none, some (.long (L 0)), none, some (.int (N 0)), some (.int (N x)), some (.int (N l0))]) (v := (L 0) ||| (L (l0 * 2 ^ (4 * x)))) (v' := L (pk (sgl x l0))) (st' := []) (h' := h) rfl trivial (sgl_0 hx hb0) ?_
  refine Runs.goL 2 (cs := []) (pc' := 58) (pl1 := [some (.int (N (encC 5 x 15 15 p))), some (.long (L (pk G))), none, some (.long (L (pk (sgl x l0)))), none, some (.int (N 0 + N 1)), some (.int (N x)), some (.int (N l0))]) (pl' := [some (.int (N (encC 5 x 15 15 p))), some (.long (L (pk G))), none, some (.long (L (pk (sgl x l0)))), none, some (.int (N 1)), some (.int (N x)), some (.int (N l0))]) (st' := []) (h' := h) rfl trivial (congrArg (fun zq9 => ([some (.int (N (encC 5 x 15 15 p))), some (.long (L (pk G))), none, some (.long (L (pk (sgl x l0)))), none, some (.int zq9), some (.int (N x)), some (.int (N l0))] : PL)) (NA (by omega))) ?_
  refine Runs.go 4 (cs := []) (pc' := bif decide ((N 3) ≤ (N 1)) then 61 else 11) (pl' := [some (.int (N (encC 5 x 15 15 p))), some (.long (L (pk G))), none, some (.long (L (pk (sgl x l0)))), none, some (.int (N 1)), some (.int (N x)), some (.int (N l0))]) (st' := []) (h' := h) rfl trivial ?_
  refine Runs.brF (decide_eq_false (by decide)) ?_
  refine Runs.go 2 (cs := []) (pc' := 14) (pl' := [some (.int (N (encC 5 x 15 15 p))), some (.long (L (pk G))), none, some (.long (L (pk (sgl x l0)))), none, some (.int (N 1)), some (.int (N x)), some (.int (N l0))]) (st' := [.int (N 1), .int (N (encC 5 x 15 15 p))]) (h' := h) rfl trivial ?_
  refine Runs.cal (y := mX0_item) (as := [.int (N (encC 5 x 15 15 p)), .int (N 1)]) (rest := []) (pc' := 17) (cs := []) (v := some (.int (N (itC (encC 5 x 15 15 p) 1)))) (h1 := h) rfl trivial (by decide) (c_item (enc_lt (by omega) (by omega) (by omega) (by omega) (by omega)) (by decide)) ?_
  show Runs _ _ 17 _ [.int (N (itC (encC 5 x 15 15 p) 1))] _ _ _ _
  rw [show N (itC (encC 5 x 15 15 p) 1) = N 15 from congrArg N (enc_y (by omega) (by omega) (by omega))]
  refine Runs.go 4 (cs := []) (pc' := bif decide ((N 15) = (N 15)) then 55 else 26) (pl' := [some (.int (N (encC 5 x 15 15 p))), some (.long (L (pk G))), none, some (.long (L (pk (sgl x l0)))), none, some (.int (N 1)), some (.int (N 15)), some (.int (N l0))]) (st' := []) (h' := h) rfl trivial ?_
  refine Runs.brT (decide_eq_true (by decide)) ?_
  refine Runs.goL 1 (cs := []) (pc' := 58) (pl1 := [some (.int (N (encC 5 x 15 15 p))), some (.long (L (pk G))), none, some (.long (L (pk (sgl x l0)))), none, some (.int (N 1 + N 1)), some (.int (N 15)), some (.int (N l0))]) (pl' := [some (.int (N (encC 5 x 15 15 p))), some (.long (L (pk G))), none, some (.long (L (pk (sgl x l0)))), none, some (.int (N 2)), some (.int (N 15)), some (.int (N l0))]) (st' := []) (h' := h) rfl trivial (congrArg (fun zq9 => ([some (.int (N (encC 5 x 15 15 p))), some (.long (L (pk G))), none, some (.long (L (pk (sgl x l0)))), none, some (.int zq9), some (.int (N 15)), some (.int (N l0))] : PL)) (NA (by omega))) ?_
  refine Runs.go 4 (cs := []) (pc' := bif decide ((N 3) ≤ (N 2)) then 61 else 11) (pl' := [some (.int (N (encC 5 x 15 15 p))), some (.long (L (pk G))), none, some (.long (L (pk (sgl x l0)))), none, some (.int (N 2)), some (.int (N 15)), some (.int (N l0))]) (st' := []) (h' := h) rfl trivial ?_
  refine Runs.brF (decide_eq_false (by decide)) ?_
  refine Runs.go 2 (cs := []) (pc' := 14) (pl' := [some (.int (N (encC 5 x 15 15 p))), some (.long (L (pk G))), none, some (.long (L (pk (sgl x l0)))), none, some (.int (N 2)), some (.int (N 15)), some (.int (N l0))]) (st' := [.int (N 2), .int (N (encC 5 x 15 15 p))]) (h' := h) rfl trivial ?_
  refine Runs.cal (y := mX0_item) (as := [.int (N (encC 5 x 15 15 p)), .int (N 2)]) (rest := []) (pc' := 17) (cs := []) (v := some (.int (N (itC (encC 5 x 15 15 p) 2)))) (h1 := h) rfl trivial (by decide) (c_item (enc_lt (by omega) (by omega) (by omega) (by omega) (by omega)) (by decide)) ?_
  show Runs _ _ 17 _ [.int (N (itC (encC 5 x 15 15 p) 2))] _ _ _ _
  rw [show N (itC (encC 5 x 15 15 p) 2) = N 15 from congrArg N (enc_z (by omega) (by omega) (by omega) (by omega))]
  refine Runs.go 4 (cs := []) (pc' := bif decide ((N 15) = (N 15)) then 55 else 26) (pl' := [some (.int (N (encC 5 x 15 15 p))), some (.long (L (pk G))), none, some (.long (L (pk (sgl x l0)))), none, some (.int (N 2)), some (.int (N 15)), some (.int (N l0))]) (st' := []) (h' := h) rfl trivial ?_
  refine Runs.brT (decide_eq_true (by decide)) ?_
  refine Runs.goL 1 (cs := []) (pc' := 58) (pl1 := [some (.int (N (encC 5 x 15 15 p))), some (.long (L (pk G))), none, some (.long (L (pk (sgl x l0)))), none, some (.int (N 2 + N 1)), some (.int (N 15)), some (.int (N l0))]) (pl' := [some (.int (N (encC 5 x 15 15 p))), some (.long (L (pk G))), none, some (.long (L (pk (sgl x l0)))), none, some (.int (N 3)), some (.int (N 15)), some (.int (N l0))]) (st' := []) (h' := h) rfl trivial (congrArg (fun zq9 => ([some (.int (N (encC 5 x 15 15 p))), some (.long (L (pk G))), none, some (.long (L (pk (sgl x l0)))), none, some (.int zq9), some (.int (N 15)), some (.int (N l0))] : PL)) (NA (by omega))) ?_
  refine Runs.go 4 (cs := []) (pc' := bif decide ((N 3) ≤ (N 3)) then 61 else 11) (pl' := [some (.int (N (encC 5 x 15 15 p))), some (.long (L (pk G))), none, some (.long (L (pk (sgl x l0)))), none, some (.int (N 3)), some (.int (N 15)), some (.int (N l0))]) (st' := []) (h' := h) rfl trivial ?_
  refine Runs.brT (decide_eq_true (by decide)) ?_
  refine Runs.go 1 (cs := []) (pc' := 62) (pl' := [some (.int (N (encC 5 x 15 15 p))), some (.long (L (pk G))), none, some (.long (L (pk (sgl x l0)))), none, some (.int (N 3)), some (.int (N 15)), some (.int (N l0))]) (st' := [.long (L (pk (sgl x l0)))]) (h' := h) rfl trivial ?_
  exact Runs.retE (cs := []) rfl trivial (retJ rfl) rfl
theorem c_ruledOut_6 {G : Nat → Nat} {x y z : Nat} {h : PH} (hG : M16 G) (hzz : Z12 G) (hx : x < 12) (hy : y < 12) (hz : z < 12) : Call 2 mX0_ruledOut [.int (N (encC 6 x y z 15)), .long (L (pk G))] h (.inl (some (.long (L (pk (fun i => (sgl x (dif (G x) (eitF 0 (G x) (G y) (G z))) i ||| sgl y (dif (G y) (eitF 1 (G x) (G y) (G z))) i) ||| sgl z (dif (G z) (eitF 2 (G x) (G y) (G z))) i)))))) h 0 := by
  have gx := hG x hx
  have gy := hG y hy
  have gz := hG z hz
  have hb0 : dif (G x) (eitF 0 (G x) (G y) (G z)) < 16 := dif_16 gx
  generalize hl0 : dif (G x) (eitF 0 (G x) (G y) (G z)) = l0 at hb0 ⊢
  have hb1 : dif (G y) (eitF 1 (G x) (G y) (G z)) < 16 := dif_16 gy
  generalize hl1 : dif (G y) (eitF 1 (G x) (G y) (G z)) = l1 at hb1 ⊢
  have hb2 : dif (G z) (eitF 2 (G x) (G y) (G z)) < 16 := dif_16 gz
  generalize hl2 : dif (G z) (eitF 2 (G x) (G y) (G z)) = l2 at hb2 ⊢
  refine Runs.go 7 (cs := []) (pc' := bif decide ((N 3) ≤ (N 0)) then 61 else 11) (pl' := [some (.int (N (encC 6 x y z 15))), some (.long (L (pk G))), none, some (.long (L 0)), none, some (.int (N 0)), none, none]) (st' := []) (h' := h) rfl trivial ?_
  refine Runs.brF (decide_eq_false (by decide)) ?_
  refine Runs.go 2 (cs := []) (pc' := 14) (pl' := [some (.int (N (encC 6 x y z 15))), some (.long (L (pk G))), none, some (.long (L 0)), none, some (.int (N 0)), none, none]) (st' := [.int (N 0), .int (N (encC 6 x y z 15))]) (h' := h) rfl trivial ?_
  refine Runs.cal (y := mX0_item) (as := [.int (N (encC 6 x y z 15)), .int (N 0)]) (rest := []) (pc' := 17) (cs := []) (v := some (.int (N (itC (encC 6 x y z 15) 0)))) (h1 := h) rfl trivial (by decide) (c_item (enc_lt (by omega) (by omega) (by omega) (by omega) (by omega)) (by decide)) ?_
  show Runs _ _ 17 _ [.int (N (itC (encC 6 x y z 15) 0))] _ _ _ _
  rw [show N (itC (encC 6 x y z 15) 0) = N x from congrArg N (enc_x (by omega) (by omega))]
  refine Runs.go 4 (cs := []) (pc' := bif decide ((N x) = (N 15)) then 55 else 26) (pl' := [some (.int (N (encC 6 x y z 15))), some (.long (L (pk G))), none, some (.long (L 0)), none, some (.int (N 0)), some (.int (N x)), none]) (st' := []) (h' := h) rfl trivial ?_
  refine Runs.brF (decide_eq_false (fun zq9 => absurd ((N_eq (a := x) (b := 15) (by omega) (by omega)).mp zq9) (by omega))) ?_
  refine Runs.go 2 (cs := []) (pc' := 29) (pl' := [some (.int (N (encC 6 x y z 15))), some (.long (L (pk G))), none, some (.long (L 0)), none, some (.int (N 0)), some (.int (N x)), none]) (st' := [.int (N x), .long (L (pk G))]) (h' := h) rfl trivial ?_
  refine Runs.cal (y := mX1_placesOf) (as := [.long (L (pk G)), .int (N x)]) (rest := []) (pc' := 32) (cs := []) (v := some (.int (N (G x)))) (h1 := h) rfl trivial (by decide) (c_placesOf hG hzz (by omega)) ?_
  show Runs _ _ 32 _ [.int (N (G x))] _ _ _ _
  refine Runs.go 3 (cs := []) (pc' := 36) (pl' := [some (.int (N (encC 6 x y z 15))), some (.long (L (pk G))), none, some (.long (L 0)), none, some (.int (N 0)), some (.int (N x)), none]) (st' := [.long (L (pk G)), .int (N 0), .int (N (encC 6 x y z 15)), .int (N (G x))]) (h' := h) rfl trivial ?_
  refine Runs.cal (y := mX0_choices) (as := [.int (N (encC 6 x y z 15)), .int (N 0), .long (L (pk G))]) (rest := [.int (N (G x))]) (pc' := 39) (cs := []) (v := some (.int (N (eitF 0 (G x) (G y) (G z))))) (h1 := h) rfl trivial (by decide) (c_choices_60 hG hzz hx hy hz) ?_
  show Runs _ _ 39 _ [.int (N (eitF 0 (G x) (G y) (G z))), .int (N (G x))] _ _ _ _
  refine Runs.topI 3 (cs := []) (pc' := 42) (pl' := [some (.int (N (encC 6 x y z 15))), some (.long (L (pk G))), none, some (.long (L 0)), none, some (.int (N 0)), some (.int (N x)), none]) (v := (N (G x)) &&& ((N (eitF 0 (G x) (G y) (G z))) ^^^ (-1 : Int32))) (v' := N l0) (st' := []) (h' := h) rfl trivial ((N_dif _ _).trans (congrArg N hl0)) ?_
  refine Runs.topJ 4 (cs := []) (pc' := 48) (pl' := [some (.int (N (encC 6 x y z 15))), some (.long (L (pk G))), none, some (.long (L 0)), none, some (.int (N 0)), some (.int (N x)), some (.int (N l0))]) (v := (N l0 : Int32).toInt64) (v' := L l0) (st' := [.long (L 0)]) (h' := h) rfl trivial (N_toL (by omega)) ?_
  refine Runs.topI 3 (cs := []) (pc' := 52) (pl' := [some (.int (N (encC 6 x y z 15))), some (.long (L (pk G))), none, some (.long (L 0)), none, some (.int (N 0)), some (.int (N x)), some (.int (N l0))]) (v := (N 4) * (N x)) (v' := N (4 * x)) (st' := [.long (L l0), .long (L 0)]) (h' := h) rfl trivial (NM (by omega)) ?_
  refine Runs.topJ 1 (cs := []) (pc' := 53) (pl' := [some (.int (N (encC 6 x y z 15))), some (.long (L (pk G))), none, some (.long (L 0)), none, some (.int (N 0)), some (.int (N x)), some (.int (N l0))]) (v := (L l0) <<< (((N (4 * x)) : Int32).toInt64 &&& 63)) (v' := L (l0 * 2 ^ (4 * x))) (st' := [.long (L 0)]) (h' := h) rfl trivial (L_shl (by omega)) ?_
  refine Runs.topJ 1 (cs := []) (pc' := 54) (pl' := [some (.int (N (encC 6 x y z 15))), some (.long (L (pk G))), none, some (.long (L 0)), none, some (.int (N 0)), some (.int (N x)), some (.int (N l0))]) (v := (L 0) ||| (L (l0 * 2 ^ (4 * x)))) (v' := L (pk (sgl x l0))) (st' := []) (h' := h) rfl trivial (sgl_0 hx hb0) ?_
  refine Runs.goL 2 (cs := []) (pc' := 58) (pl1 := [some (.int (N (encC 6 x y z 15))), some (.long (L (pk G))), none, some (.long (L (pk (sgl x l0)))), none, some (.int (N 0 + N 1)), some (.int (N x)), some (.int (N l0))]) (pl' := [some (.int (N (encC 6 x y z 15))), some (.long (L (pk G))), none, some (.long (L (pk (sgl x l0)))), none, some (.int (N 1)), some (.int (N x)), some (.int (N l0))]) (st' := []) (h' := h) rfl trivial (congrArg (fun zq9 => ([some (.int (N (encC 6 x y z 15))), some (.long (L (pk G))), none, some (.long (L (pk (sgl x l0)))), none, some (.int zq9), some (.int (N x)), some (.int (N l0))] : PL)) (NA (by omega))) ?_
  refine Runs.go 4 (cs := []) (pc' := bif decide ((N 3) ≤ (N 1)) then 61 else 11) (pl' := [some (.int (N (encC 6 x y z 15))), some (.long (L (pk G))), none, some (.long (L (pk (sgl x l0)))), none, some (.int (N 1)), some (.int (N x)), some (.int (N l0))]) (st' := []) (h' := h) rfl trivial ?_
  refine Runs.brF (decide_eq_false (by decide)) ?_
  refine Runs.go 2 (cs := []) (pc' := 14) (pl' := [some (.int (N (encC 6 x y z 15))), some (.long (L (pk G))), none, some (.long (L (pk (sgl x l0)))), none, some (.int (N 1)), some (.int (N x)), some (.int (N l0))]) (st' := [.int (N 1), .int (N (encC 6 x y z 15))]) (h' := h) rfl trivial ?_
  refine Runs.cal (y := mX0_item) (as := [.int (N (encC 6 x y z 15)), .int (N 1)]) (rest := []) (pc' := 17) (cs := []) (v := some (.int (N (itC (encC 6 x y z 15) 1)))) (h1 := h) rfl trivial (by decide) (c_item (enc_lt (by omega) (by omega) (by omega) (by omega) (by omega)) (by decide)) ?_
  show Runs _ _ 17 _ [.int (N (itC (encC 6 x y z 15) 1))] _ _ _ _
  rw [show N (itC (encC 6 x y z 15) 1) = N y from congrArg N (enc_y (by omega) (by omega) (by omega))]
  refine Runs.go 4 (cs := []) (pc' := bif decide ((N y) = (N 15)) then 55 else 26) (pl' := [some (.int (N (encC 6 x y z 15))), some (.long (L (pk G))), none, some (.long (L (pk (sgl x l0)))), none, some (.int (N 1)), some (.int (N y)), some (.int (N l0))]) (st' := []) (h' := h) rfl trivial ?_
  refine Runs.brF (decide_eq_false (fun zq9 => absurd ((N_eq (a := y) (b := 15) (by omega) (by omega)).mp zq9) (by omega))) ?_
  refine Runs.go 2 (cs := []) (pc' := 29) (pl' := [some (.int (N (encC 6 x y z 15))), some (.long (L (pk G))), none, some (.long (L (pk (sgl x l0)))), none, some (.int (N 1)), some (.int (N y)), some (.int (N l0))]) (st' := [.int (N y), .long (L (pk G))]) (h' := h) rfl trivial ?_
  refine Runs.cal (y := mX1_placesOf) (as := [.long (L (pk G)), .int (N y)]) (rest := []) (pc' := 32) (cs := []) (v := some (.int (N (G y)))) (h1 := h) rfl trivial (by decide) (c_placesOf hG hzz (by omega)) ?_
  show Runs _ _ 32 _ [.int (N (G y))] _ _ _ _
  refine Runs.go 3 (cs := []) (pc' := 36) (pl' := [some (.int (N (encC 6 x y z 15))), some (.long (L (pk G))), none, some (.long (L (pk (sgl x l0)))), none, some (.int (N 1)), some (.int (N y)), some (.int (N l0))]) (st' := [.long (L (pk G)), .int (N 1), .int (N (encC 6 x y z 15)), .int (N (G y))]) (h' := h) rfl trivial ?_
  refine Runs.cal (y := mX0_choices) (as := [.int (N (encC 6 x y z 15)), .int (N 1), .long (L (pk G))]) (rest := [.int (N (G y))]) (pc' := 39) (cs := []) (v := some (.int (N (eitF 1 (G x) (G y) (G z))))) (h1 := h) rfl trivial (by decide) (c_choices_61 hG hzz hx hy hz) ?_
  show Runs _ _ 39 _ [.int (N (eitF 1 (G x) (G y) (G z))), .int (N (G y))] _ _ _ _
  refine Runs.topI 3 (cs := []) (pc' := 42) (pl' := [some (.int (N (encC 6 x y z 15))), some (.long (L (pk G))), none, some (.long (L (pk (sgl x l0)))), none, some (.int (N 1)), some (.int (N y)), some (.int (N l0))]) (v := (N (G y)) &&& ((N (eitF 1 (G x) (G y) (G z))) ^^^ (-1 : Int32))) (v' := N l1) (st' := []) (h' := h) rfl trivial ((N_dif _ _).trans (congrArg N hl1)) ?_
  refine Runs.topJ 4 (cs := []) (pc' := 48) (pl' := [some (.int (N (encC 6 x y z 15))), some (.long (L (pk G))), none, some (.long (L (pk (sgl x l0)))), none, some (.int (N 1)), some (.int (N y)), some (.int (N l1))]) (v := (N l1 : Int32).toInt64) (v' := L l1) (st' := [.long (L (pk (sgl x l0)))]) (h' := h) rfl trivial (N_toL (by omega)) ?_
  refine Runs.topI 3 (cs := []) (pc' := 52) (pl' := [some (.int (N (encC 6 x y z 15))), some (.long (L (pk G))), none, some (.long (L (pk (sgl x l0)))), none, some (.int (N 1)), some (.int (N y)), some (.int (N l1))]) (v := (N 4) * (N y)) (v' := N (4 * y)) (st' := [.long (L l1), .long (L (pk (sgl x l0)))]) (h' := h) rfl trivial (NM (by omega)) ?_
  refine Runs.topJ 1 (cs := []) (pc' := 53) (pl' := [some (.int (N (encC 6 x y z 15))), some (.long (L (pk G))), none, some (.long (L (pk (sgl x l0)))), none, some (.int (N 1)), some (.int (N y)), some (.int (N l1))]) (v := (L l1) <<< (((N (4 * y)) : Int32).toInt64 &&& 63)) (v' := L (l1 * 2 ^ (4 * y))) (st' := [.long (L (pk (sgl x l0)))]) (h' := h) rfl trivial (L_shl (by omega)) ?_
  refine Runs.topJ 1 (cs := []) (pc' := 54) (pl' := [some (.int (N (encC 6 x y z 15))), some (.long (L (pk G))), none, some (.long (L (pk (sgl x l0)))), none, some (.int (N 1)), some (.int (N y)), some (.int (N l1))]) (v := (L (pk (sgl x l0))) ||| (L (l1 * 2 ^ (4 * y)))) (v' := L (pk (fun i => sgl x l0 i ||| sgl y l1 i))) (st' := []) (h' := h) rfl trivial (sgl_s (sgl_16 hb0) hy hb1) ?_
  refine Runs.goL 2 (cs := []) (pc' := 58) (pl1 := [some (.int (N (encC 6 x y z 15))), some (.long (L (pk G))), none, some (.long (L (pk (fun i => sgl x l0 i ||| sgl y l1 i)))), none, some (.int (N 1 + N 1)), some (.int (N y)), some (.int (N l1))]) (pl' := [some (.int (N (encC 6 x y z 15))), some (.long (L (pk G))), none, some (.long (L (pk (fun i => sgl x l0 i ||| sgl y l1 i)))), none, some (.int (N 2)), some (.int (N y)), some (.int (N l1))]) (st' := []) (h' := h) rfl trivial (congrArg (fun zq9 => ([some (.int (N (encC 6 x y z 15))), some (.long (L (pk G))), none, some (.long (L (pk (fun i => sgl x l0 i ||| sgl y l1 i)))), none, some (.int zq9), some (.int (N y)), some (.int (N l1))] : PL)) (NA (by omega))) ?_
  refine Runs.go 4 (cs := []) (pc' := bif decide ((N 3) ≤ (N 2)) then 61 else 11) (pl' := [some (.int (N (encC 6 x y z 15))), some (.long (L (pk G))), none, some (.long (L (pk (fun i => sgl x l0 i ||| sgl y l1 i)))), none, some (.int (N 2)), some (.int (N y)), some (.int (N l1))]) (st' := []) (h' := h) rfl trivial ?_
  refine Runs.brF (decide_eq_false (by decide)) ?_
  refine Runs.go 2 (cs := []) (pc' := 14) (pl' := [some (.int (N (encC 6 x y z 15))), some (.long (L (pk G))), none, some (.long (L (pk (fun i => sgl x l0 i ||| sgl y l1 i)))), none, some (.int (N 2)), some (.int (N y)), some (.int (N l1))]) (st' := [.int (N 2), .int (N (encC 6 x y z 15))]) (h' := h) rfl trivial ?_
  refine Runs.cal (y := mX0_item) (as := [.int (N (encC 6 x y z 15)), .int (N 2)]) (rest := []) (pc' := 17) (cs := []) (v := some (.int (N (itC (encC 6 x y z 15) 2)))) (h1 := h) rfl trivial (by decide) (c_item (enc_lt (by omega) (by omega) (by omega) (by omega) (by omega)) (by decide)) ?_
  show Runs _ _ 17 _ [.int (N (itC (encC 6 x y z 15) 2))] _ _ _ _
  rw [show N (itC (encC 6 x y z 15) 2) = N z from congrArg N (enc_z (by omega) (by omega) (by omega) (by omega))]
  refine Runs.go 4 (cs := []) (pc' := bif decide ((N z) = (N 15)) then 55 else 26) (pl' := [some (.int (N (encC 6 x y z 15))), some (.long (L (pk G))), none, some (.long (L (pk (fun i => sgl x l0 i ||| sgl y l1 i)))), none, some (.int (N 2)), some (.int (N z)), some (.int (N l1))]) (st' := []) (h' := h) rfl trivial ?_
  refine Runs.brF (decide_eq_false (fun zq9 => absurd ((N_eq (a := z) (b := 15) (by omega) (by omega)).mp zq9) (by omega))) ?_
  refine Runs.go 2 (cs := []) (pc' := 29) (pl' := [some (.int (N (encC 6 x y z 15))), some (.long (L (pk G))), none, some (.long (L (pk (fun i => sgl x l0 i ||| sgl y l1 i)))), none, some (.int (N 2)), some (.int (N z)), some (.int (N l1))]) (st' := [.int (N z), .long (L (pk G))]) (h' := h) rfl trivial ?_
  refine Runs.cal (y := mX1_placesOf) (as := [.long (L (pk G)), .int (N z)]) (rest := []) (pc' := 32) (cs := []) (v := some (.int (N (G z)))) (h1 := h) rfl trivial (by decide) (c_placesOf hG hzz (by omega)) ?_
  show Runs _ _ 32 _ [.int (N (G z))] _ _ _ _
  refine Runs.go 3 (cs := []) (pc' := 36) (pl' := [some (.int (N (encC 6 x y z 15))), some (.long (L (pk G))), none, some (.long (L (pk (fun i => sgl x l0 i ||| sgl y l1 i)))), none, some (.int (N 2)), some (.int (N z)), some (.int (N l1))]) (st' := [.long (L (pk G)), .int (N 2), .int (N (encC 6 x y z 15)), .int (N (G z))]) (h' := h) rfl trivial ?_
  refine Runs.cal (y := mX0_choices) (as := [.int (N (encC 6 x y z 15)), .int (N 2), .long (L (pk G))]) (rest := [.int (N (G z))]) (pc' := 39) (cs := []) (v := some (.int (N (eitF 2 (G x) (G y) (G z))))) (h1 := h) rfl trivial (by decide) (c_choices_62 hG hzz hx hy hz) ?_
  show Runs _ _ 39 _ [.int (N (eitF 2 (G x) (G y) (G z))), .int (N (G z))] _ _ _ _
  refine Runs.topI 3 (cs := []) (pc' := 42) (pl' := [some (.int (N (encC 6 x y z 15))), some (.long (L (pk G))), none, some (.long (L (pk (fun i => sgl x l0 i ||| sgl y l1 i)))), none, some (.int (N 2)), some (.int (N z)), some (.int (N l1))]) (v := (N (G z)) &&& ((N (eitF 2 (G x) (G y) (G z))) ^^^ (-1 : Int32))) (v' := N l2) (st' := []) (h' := h) rfl trivial ((N_dif _ _).trans (congrArg N hl2)) ?_
  refine Runs.topJ 4 (cs := []) (pc' := 48) (pl' := [some (.int (N (encC 6 x y z 15))), some (.long (L (pk G))), none, some (.long (L (pk (fun i => sgl x l0 i ||| sgl y l1 i)))), none, some (.int (N 2)), some (.int (N z)), some (.int (N l2))]) (v := (N l2 : Int32).toInt64) (v' := L l2) (st' := [.long (L (pk (fun i => sgl x l0 i ||| sgl y l1 i)))]) (h' := h) rfl trivial (N_toL (by omega)) ?_
  refine Runs.topI 3 (cs := []) (pc' := 52) (pl' := [some (.int (N (encC 6 x y z 15))), some (.long (L (pk G))), none, some (.long (L (pk (fun i => sgl x l0 i ||| sgl y l1 i)))), none, some (.int (N 2)), some (.int (N z)), some (.int (N l2))]) (v := (N 4) * (N z)) (v' := N (4 * z)) (st' := [.long (L l2), .long (L (pk (fun i => sgl x l0 i ||| sgl y l1 i)))]) (h' := h) rfl trivial (NM (by omega)) ?_
  refine Runs.topJ 1 (cs := []) (pc' := 53) (pl' := [some (.int (N (encC 6 x y z 15))), some (.long (L (pk G))), none, some (.long (L (pk (fun i => sgl x l0 i ||| sgl y l1 i)))), none, some (.int (N 2)), some (.int (N z)), some (.int (N l2))]) (v := (L l2) <<< (((N (4 * z)) : Int32).toInt64 &&& 63)) (v' := L (l2 * 2 ^ (4 * z))) (st' := [.long (L (pk (fun i => sgl x l0 i ||| sgl y l1 i)))]) (h' := h) rfl trivial (L_shl (by omega)) ?_
  refine Runs.topJ 1 (cs := []) (pc' := 54) (pl' := [some (.int (N (encC 6 x y z 15))), some (.long (L (pk G))), none, some (.long (L (pk (fun i => sgl x l0 i ||| sgl y l1 i)))), none, some (.int (N 2)), some (.int (N z)), some (.int (N l2))]) (v := (L (pk (fun i => sgl x l0 i ||| sgl y l1 i))) ||| (L (l2 * 2 ^ (4 * z)))) (v' := L (pk (fun i => (sgl x l0 i ||| sgl y l1 i) ||| sgl z l2 i))) (st' := []) (h' := h) rfl trivial (sgl_s (fun j hj => or_16 (sgl_16 hb0 j hj) (sgl_16 hb1 j hj)) hz hb2) ?_
  refine Runs.goL 2 (cs := []) (pc' := 58) (pl1 := [some (.int (N (encC 6 x y z 15))), some (.long (L (pk G))), none, some (.long (L (pk (fun i => (sgl x l0 i ||| sgl y l1 i) ||| sgl z l2 i)))), none, some (.int (N 2 + N 1)), some (.int (N z)), some (.int (N l2))]) (pl' := [some (.int (N (encC 6 x y z 15))), some (.long (L (pk G))), none, some (.long (L (pk (fun i => (sgl x l0 i ||| sgl y l1 i) ||| sgl z l2 i)))), none, some (.int (N 3)), some (.int (N z)), some (.int (N l2))]) (st' := []) (h' := h) rfl trivial (congrArg (fun zq9 => ([some (.int (N (encC 6 x y z 15))), some (.long (L (pk G))), none, some (.long (L (pk (fun i => (sgl x l0 i ||| sgl y l1 i) ||| sgl z l2 i)))), none, some (.int zq9), some (.int (N z)), some (.int (N l2))] : PL)) (NA (by omega))) ?_
  refine Runs.go 4 (cs := []) (pc' := bif decide ((N 3) ≤ (N 3)) then 61 else 11) (pl' := [some (.int (N (encC 6 x y z 15))), some (.long (L (pk G))), none, some (.long (L (pk (fun i => (sgl x l0 i ||| sgl y l1 i) ||| sgl z l2 i)))), none, some (.int (N 3)), some (.int (N z)), some (.int (N l2))]) (st' := []) (h' := h) rfl trivial ?_
  refine Runs.brT (decide_eq_true (by decide)) ?_
  refine Runs.go 1 (cs := []) (pc' := 62) (pl' := [some (.int (N (encC 6 x y z 15))), some (.long (L (pk G))), none, some (.long (L (pk (fun i => (sgl x l0 i ||| sgl y l1 i) ||| sgl z l2 i)))), none, some (.int (N 3)), some (.int (N z)), some (.int (N l2))]) (st' := [.long (L (pk (fun i => (sgl x l0 i ||| sgl y l1 i) ||| sgl z l2 i)))]) (h' := h) rfl trivial ?_
  exact Runs.retE (cs := []) rfl trivial (retJ rfl) rfl
