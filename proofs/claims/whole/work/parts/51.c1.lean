/-! THE CLASS: methods of its grids (gen_c1.py) -/
theorem L_and1 (a : Nat) : L a &&& L 1 = L (a % 2) := by rw [L_and, and_1]
theorem L_or0 (a b : Nat) : L a ||| L b = L (a ||| b) := L_or a b
theorem LA {a b c : Nat} (h : a + b = c) : L a + L b = L c := by rw [L_add, h]
theorem zLS {a b c : Nat} (h : c + b = a) : L a - L b = L c := by
  rw [L_sub (by omega)]
  congr 1
  omega
theorem LM {a b c : Nat} (h : a * b = c) : L a * L b = L c := by rw [L_mul, h]
theorem LHL {a k c : Nat} (hk : k < 64) (h : a * 2 ^ k = c) : L a <<< ((N k).toInt64 &&& 63) = L c := by rw [L_shl hk, h]
theorem LHR {a k c : Nat} (ha : a < 9223372036854775808) (hk : k < 64) (h : a / 2 ^ k = c) : L a >>> ((N k).toInt64 &&& 63) = L c := by rw [L_shr ha hk, h]
theorem c_spot {i p : Nat} {h : PH} (hi : i < 12) (hp : p < 4) : Call 0 mX1_spot [.int (N i), .int (N p)] h (.inl (some (.long (L (2 ^ (4 * i + p)))))) h 0 := by
  refine Runs.topI 4 (cs := []) (pc' := 4) (pl' := [some (.int (N i)), some (.int (N p))]) (v := (N 4) * (N i)) (v' := N (4 * i)) (st' := [.long (L 1)]) (h' := h) rfl trivial (NM (by omega)) ?_
  refine Runs.topI 2 (cs := []) (pc' := 6) (pl' := [some (.int (N i)), some (.int (N p))]) (v := (N (4 * i)) + (N p)) (v' := N (4 * i + p)) (st' := [.long (L 1)]) (h' := h) rfl trivial (NA (by omega)) ?_
  refine Runs.topJ 1 (cs := []) (pc' := 7) (pl' := [some (.int (N i)), some (.int (N p))]) (v := (L 1) <<< (((N (4 * i + p)) : Int32).toInt64 &&& 63)) (v' := L (2 ^ (4 * i + p))) (st' := []) (h' := h) rfl trivial (LHL (by omega) (Nat.one_mul _)) ?_
  exact Runs.retE (cs := []) rfl trivial (retJ rfl) rfl
theorem and_spot {g k : Nat} : (g &&& 2 ^ k = 0) ↔ bt g k = false := by
  constructor
  · intro z
    have e : (g &&& 2 ^ k).testBit k = false := by rw [z, Nat.zero_testBit]
    rw [Nat.testBit_and, Nat.testBit_two_pow_self, Bool.and_true] at e
    rw [bt_tb, e]
  · intro z
    refine Nat.eq_of_testBit_eq (fun i => ?_)
    rw [Nat.testBit_and, Nat.zero_testBit, Nat.testBit_two_pow]
    by_cases hi : k = i
    · subst hi
      rw [← bt_tb, z, Bool.false_and]
    · rw [decide_eq_false hi, Bool.and_false]
theorem zk_bt {G : Nat → Nat} (hG : M16 G) {i p : Nat} (hi : i < 12) (hp : p < 4) : bt (pk G) (4 * i + p) = bt (G i) p := by rw [bt_tb, zk_at hG hi hp]
theorem two48 {k : Nat} (h : k < 48) : 2 ^ k < 281474976710656 := Nat.pow_lt_pow_right (by decide) h
theorem c_has {g i p : Nat} {h : PH} (hg : g < 281474976710656) (hi : i < 12) (hp : p < 4) : Call 1 mX1_has [.long (L g), .int (N i), .int (N p)] h (.inl (some (.int (bI (bt g (4 * i + p)))))) h 0 := by
  have hle : g &&& 2 ^ (4 * i + p) ≤ g := Nat.and_le_left
  refine Runs.go 3 (cs := []) (pc' := 3) (pl' := [some (.long (L g)), none, some (.int (N i)), some (.int (N p))]) (st' := [.int (N p), .int (N i), .long (L g)]) (h' := h) rfl trivial ?_
  refine Runs.cal (y := mX1_spot) (as := [.int (N i), .int (N p)]) (rest := [.long (L g)]) (pc' := 6) (cs := []) (v := some (.long (L (2 ^ (4 * i + p))))) (h1 := h) rfl trivial (by decide) (c_spot (by omega) (by omega)) ?_
  show Runs _ _ 6 _ [.long (L (2 ^ (4 * i + p))), .long (L g)] _ _ _ _
  refine Runs.topJ 1 (cs := []) (pc' := 7) (pl' := [some (.long (L g)), none, some (.int (N i)), some (.int (N p))]) (v := (L g) &&& (L (2 ^ (4 * i + p)))) (v' := L (g &&& (2 ^ (4 * i + p)))) (st' := []) (h' := h) rfl trivial (L_and _ _) ?_
  refine Runs.go 3 (cs := []) (pc' := bif decide ((lg_cmp (L (g &&& (2 ^ (4 * i + p)))) (L 0)) = 0) then 16 else 12) (pl' := [some (.long (L g)), none, some (.int (N i)), some (.int (N p))]) (st' := []) (h' := h) rfl trivial ?_
  refine Runs.br (fun z1 => ?_) (fun z1 => ?_)
  · replace z1 : (g &&& (2 ^ (4 * i + p))) = 0 := (L_cmp0 (by omega) (by omega)).mp (of_decide_eq_true z1)
    refine Runs.go 1 (cs := []) (pc' := 17) (pl' := [some (.long (L g)), none, some (.int (N i)), some (.int (N p))]) (st' := [.int (N 0)]) (h' := h) rfl trivial ?_
    refine Runs.retE (cs := [(N 0 : Int32) = 0 ∨ (N 0 : Int32) = 1]) rfl ⟨Or.inl rfl, trivial⟩ (retI (bIF ?_)) rfl
    exact and_spot.mp z1
  · replace z1 : ¬ ((g &&& (2 ^ (4 * i + p))) = 0) := mt (L_cmp0 (by omega) (by omega)).mpr (of_decide_eq_false z1)
    refine Runs.go 2 (cs := []) (pc' := 17) (pl' := [some (.long (L g)), none, some (.int (N i)), some (.int (N p))]) (st' := [.int (N 1)]) (h' := h) rfl trivial ?_
    refine Runs.retE (cs := [(N 1 : Int32) = 0 ∨ (N 1 : Int32) = 1]) rfl ⟨Or.inr rfl, trivial⟩ (retI (bIT ?_)) rfl
    exact bT (mt and_spot.mpr z1)
theorem c_hasBit {g k : Nat} {h : PH} (hg : g < 281474976710656) (hk : k < 48) : Call 0 mX1_hasBit [.long (L g), .int (N k)] h (.inl (some (.int (bI (bt g k))))) h 0 := by
  have hle : g / 2 ^ k ≤ g := Nat.div_le_self _ _
  refine Runs.topJ 3 (cs := []) (pc' := 3) (pl' := [some (.long (L g)), none, some (.int (N k))]) (v := (L g) >>> (((N k) : Int32).toInt64 &&& 63)) (v' := L (g / 2 ^ k)) (st' := []) (h' := h) rfl trivial (L_shr (by omega) (by omega)) ?_
  refine Runs.topJ 2 (cs := []) (pc' := 5) (pl' := [some (.long (L g)), none, some (.int (N k))]) (v := (L (g / 2 ^ k)) &&& (L 1)) (v' := L ((g / 2 ^ k) % 2)) (st' := []) (h' := h) rfl trivial (L_and1 _) ?_
  refine Runs.go 3 (cs := []) (pc' := bif decide ((lg_cmp (L ((g / 2 ^ k) % 2)) (L 0)) = 0) then 14 else 10) (pl' := [some (.long (L g)), none, some (.int (N k))]) (st' := []) (h' := h) rfl trivial ?_
  refine Runs.br (fun z1 => ?_) (fun z1 => ?_)
  · replace z1 : ((g / 2 ^ k) % 2) = 0 := (L_cmp0 (by omega) (by omega)).mp (of_decide_eq_true z1)
    refine Runs.go 1 (cs := []) (pc' := 15) (pl' := [some (.long (L g)), none, some (.int (N k))]) (st' := [.int (N 0)]) (h' := h) rfl trivial ?_
    refine Runs.retE (cs := [(N 0 : Int32) = 0 ∨ (N 0 : Int32) = 1]) rfl ⟨Or.inl rfl, trivial⟩ (retI (bIF ?_)) rfl
    exact decide_eq_false (by omega)
  · replace z1 : ¬ (((g / 2 ^ k) % 2) = 0) := mt (L_cmp0 (by omega) (by omega)).mpr (of_decide_eq_false z1)
    refine Runs.go 2 (cs := []) (pc' := 15) (pl' := [some (.long (L g)), none, some (.int (N k))]) (st' := [.int (N 1)]) (h' := h) rfl trivial ?_
    refine Runs.retE (cs := [(N 1 : Int32) = 0 ∨ (N 1 : Int32) = 1]) rfl ⟨Or.inr rfl, trivial⟩ (retI (bIT ?_)) rfl
    exact decide_eq_true (by omega)
theorem get_pk {G : Nat → Nat} (hG : M16 G) (hz : Z12 G) {i : Nat} (hi : i < 16) : N (pk G / 2 ^ (4 * i)) &&& N 15 = N (G i) := by rw [N_and15, zk_get hG hz hi]
theorem c_placesOf {G : Nat → Nat} {i : Nat} {h : PH} (hG : M16 G) (hz : Z12 G) (hi : i < 16) : Call 0 mX1_placesOf [.long (L (pk G)), .int (N i)] h (.inl (some (.int (N (G i))))) h 0 := by
  have hlt := zk_lt hG
  refine Runs.topI 4 (cs := []) (pc' := 4) (pl' := [some (.long (L (pk G))), none, some (.int (N i))]) (v := (N 4) * (N i)) (v' := N (4 * i)) (st' := [.long (L (pk G))]) (h' := h) rfl trivial (NM (by omega)) ?_
  refine Runs.topJ 1 (cs := []) (pc' := 5) (pl' := [some (.long (L (pk G))), none, some (.int (N i))]) (v := (L (pk G)) >>> (((N (4 * i)) : Int32).toInt64 &&& 63)) (v' := L ((pk G) / 2 ^ (4 * i))) (st' := []) (h' := h) rfl trivial (L_shr (by omega) (by omega)) ?_
  refine Runs.topI 1 (cs := []) (pc' := 6) (pl' := [some (.long (L (pk G))), none, some (.int (N i))]) (v := (L ((pk G) / 2 ^ (4 * i)) : Int64).toInt32) (v' := N ((pk G) / 2 ^ (4 * i))) (st' := []) (h' := h) rfl trivial (L_toN _) ?_
  refine Runs.topI 2 (cs := []) (pc' := 9) (pl' := [some (.long (L (pk G))), none, some (.int (N i))]) (v := (N ((pk G) / 2 ^ (4 * i))) &&& (N 15)) (v' := N (G i)) (st' := []) (h' := h) rfl trivial (get_pk hG hz hi) ?_
  exact Runs.retE (cs := []) rfl trivial (retI rfl) rfl
/-- a grid with an item fixed -/
def woF (G : Nat → Nat) (i p : Nat) : Nat → Nat := upn G i (2 ^ p)
theorem wo_16 {G : Nat → Nat} (hG : M16 G) {i p : Nat} (hp : p < 4) : M16 (woF G i p) := fun j hj => by
  unfold woF upn
  split
  · exact p2_lt hp
  · exact hG j hj
theorem tb_15 {k : Nat} : Nat.testBit 15 k = decide (k < 4) := Nat.testBit_two_pow_sub_one 4 k
theorem wo_pk {G : Nat → Nat} (hG : M16 G) {i p : Nat} (hi : i < 12) (hp : p < 4) : (dif (pk G) (15 * 2 ^ (4 * i)) ||| 2 ^ (4 * i + p)) = pk (woF G i p) := by
  refine zk_ext (wo_16 hG hp) (lt48_or (lt48_dif (zk_lt hG)) (two48 (by omega))) (fun j q hj hq => ?_)
  rw [Nat.testBit_or, dif_bit, zk_at hG hj hq, tb_mul, tb_15, Nat.testBit_two_pow]
  unfold woF upn
  by_cases e : j = i
  · subst e
    rw [if_pos rfl, bt_pow, decide_eq_true (by omega : 4 * j ≤ 4 * j + q), decide_eq_true (by omega : 4 * j + q - 4 * j < 4)]
    rw [show decide (4 * j + p = 4 * j + q) = decide (p = q) from decide_eq_decide.mpr (by omega)]
    simp
  · rw [if_neg e, decide_eq_false (show ¬ 4 * i + p = 4 * j + q by omega), Bool.or_false]
    by_cases h2 : 4 * i ≤ 4 * j + q
    · rw [decide_eq_false (show ¬ 4 * j + q - 4 * i < 4 by omega)]
      simp
    · rw [decide_eq_false h2]
      simp
theorem c_withOnly {G : Nat → Nat} {i p : Nat} {h : PH} (hG : M16 G) (hi : i < 12) (hp : p < 4) : Call 1 mX1_withOnly [.long (L (pk G)), .int (N i), .int (N p)] h (.inl (some (.long (L (pk (woF G i p)))))) h 0 := by
  refine Runs.topI 5 (cs := []) (pc' := 7) (pl' := [some (.long (L (pk G))), none, some (.int (N i)), some (.int (N p))]) (v := (N 4) * (N i)) (v' := N (4 * i)) (st' := [.long (L 15), .long (L (pk G))]) (h' := h) rfl trivial (NM (by omega)) ?_
  refine Runs.topJ 1 (cs := []) (pc' := 8) (pl' := [some (.long (L (pk G))), none, some (.int (N i)), some (.int (N p))]) (v := (L 15) <<< (((N (4 * i)) : Int32).toInt64 &&& 63)) (v' := L (15 * (2 ^ (4 * i)))) (st' := [.long (L (pk G))]) (h' := h) rfl trivial (L_shl (by omega)) ?_
  refine Runs.topJ 3 (cs := []) (pc' := 13) (pl' := [some (.long (L (pk G))), none, some (.int (N i)), some (.int (N p))]) (v := (L (pk G)) &&& ((L (15 * (2 ^ (4 * i)))) ^^^ (-1 : Int64))) (v' := L (dif (pk G) (15 * (2 ^ (4 * i))))) (st' := []) (h' := h) rfl trivial (L_dif _ _) ?_
  refine Runs.go 2 (cs := []) (pc' := 15) (pl' := [some (.long (L (pk G))), none, some (.int (N i)), some (.int (N p))]) (st' := [.int (N p), .int (N i), .long (L (dif (pk G) (15 * (2 ^ (4 * i)))))]) (h' := h) rfl trivial ?_
  refine Runs.cal (y := mX1_spot) (as := [.int (N i), .int (N p)]) (rest := [.long (L (dif (pk G) (15 * (2 ^ (4 * i)))))]) (pc' := 18) (cs := []) (v := some (.long (L (2 ^ (4 * i + p))))) (h1 := h) rfl trivial (by decide) (c_spot (by omega) (by omega)) ?_
  show Runs _ _ 18 _ [.long (L (2 ^ (4 * i + p))), .long (L (dif (pk G) (15 * (2 ^ (4 * i)))))] _ _ _ _
  refine Runs.topJ 1 (cs := []) (pc' := 19) (pl' := [some (.long (L (pk G))), none, some (.int (N i)), some (.int (N p))]) (v := (L (dif (pk G) (15 * (2 ^ (4 * i))))) ||| (L (2 ^ (4 * i + p)))) (v' := L (pk (woF G i p))) (st' := []) (h' := h) rfl trivial ((L_or _ _).trans (congrArg L (wo_pk hG hi hp))) ?_
  exact Runs.retE (cs := []) rfl trivial (retJ rfl) rfl
theorem c_itemsWithSome {G : Nat → Nat} {h : PH} (hG : M16 G) : Call 0 mX1_itemsWithSome [.long (L (pk G))] h (.inl (some (.long (L (pk (fun i => someF (G i))))))) h 0 := by
  have hlt := zk_lt hG
  refine Runs.topJ 4 (cs := []) (pc' := 4) (pl' := [some (.long (L (pk G))), none]) (v := (L (pk G)) >>> (((N 1) : Int32).toInt64 &&& 63)) (v' := L ((pk G) / 2)) (st' := [.long (L (pk G))]) (h' := h) rfl trivial (LHR (by omega) (by omega) rfl) ?_
  refine Runs.topJ 1 (cs := []) (pc' := 5) (pl' := [some (.long (L (pk G))), none]) (v := (L (pk G)) ||| (L ((pk G) / 2))) (v' := L ((pk G) ||| ((pk G) / 2))) (st' := []) (h' := h) rfl trivial (L_or _ _) ?_
  refine Runs.topJ 3 (cs := []) (pc' := 8) (pl' := [some (.long (L (pk G))), none]) (v := (L (pk G)) >>> (((N 2) : Int32).toInt64 &&& 63)) (v' := L ((pk G) / 4)) (st' := [.long (L ((pk G) ||| ((pk G) / 2)))]) (h' := h) rfl trivial (LHR (by omega) (by omega) rfl) ?_
  refine Runs.topJ 1 (cs := []) (pc' := 9) (pl' := [some (.long (L (pk G))), none]) (v := (L ((pk G) ||| ((pk G) / 2))) ||| (L ((pk G) / 4))) (v' := L (((pk G) ||| ((pk G) / 2)) ||| ((pk G) / 4))) (st' := []) (h' := h) rfl trivial (L_or _ _) ?_
  refine Runs.topJ 3 (cs := []) (pc' := 12) (pl' := [some (.long (L (pk G))), none]) (v := (L (pk G)) >>> (((N 3) : Int32).toInt64 &&& 63)) (v' := L ((pk G) / 8)) (st' := [.long (L (((pk G) ||| ((pk G) / 2)) ||| ((pk G) / 4)))]) (h' := h) rfl trivial (LHR (by omega) (by omega) rfl) ?_
  refine Runs.topJ 1 (cs := []) (pc' := 13) (pl' := [some (.long (L (pk G))), none]) (v := (L (((pk G) ||| ((pk G) / 2)) ||| ((pk G) / 4))) ||| (L ((pk G) / 8))) (v' := L ((((pk G) ||| ((pk G) / 2)) ||| ((pk G) / 4)) ||| ((pk G) / 8))) (st' := []) (h' := h) rfl trivial (L_or _ _) ?_
  refine Runs.topJ 2 (cs := []) (pc' := 17) (pl' := [some (.long (L (pk G))), none]) (v := (L ((((pk G) ||| ((pk G) / 2)) ||| ((pk G) / 4)) ||| ((pk G) / 8))) &&& (L 18764998447377)) (v' := L (((((pk G) ||| ((pk G) / 2)) ||| ((pk G) / 4)) ||| ((pk G) / 8)) &&& 18764998447377)) (st' := []) (h' := h) rfl trivial (L_and _ _) ?_
  refine Runs.topJ 2 (cs := []) (pc' := 21) (pl' := [some (.long (L (pk G))), none]) (v := (L (((((pk G) ||| ((pk G) / 2)) ||| ((pk G) / 4)) ||| ((pk G) / 8)) &&& 18764998447377)) * (L 15)) (v' := L (pk (fun i => someF (G i)))) (st' := []) (h' := h) rfl trivial ((L_mul _ _).trans (congrArg L (some_pk hG))) ?_
  exact Runs.retE (cs := []) rfl trivial (retJ rfl) rfl
theorem c_itemsWithMore {G : Nat → Nat} {h : PH} (hG : M16 G) : Call 0 mX1_itemsWithMore [.long (L (pk G))] h (.inl (some (.long (L (pk (fun i => moreF (G i))))))) h 0 := by
  have hlt := zk_lt hG
  refine Runs.topJ 4 (cs := []) (pc' := 4) (pl' := [some (.long (L (pk G))), none, none, none, none, none]) (v := (L (pk G)) >>> (((N 1) : Int32).toInt64 &&& 63)) (v' := L ((pk G) / 2)) (st' := [.long (L (pk G))]) (h' := h) rfl trivial (LHR (by omega) (by omega) rfl) ?_
  refine Runs.topJ 1 (cs := []) (pc' := 5) (pl' := [some (.long (L (pk G))), none, none, none, none, none]) (v := (L (pk G)) &&& (L ((pk G) / 2))) (v' := L ((pk G) &&& ((pk G) / 2))) (st' := []) (h' := h) rfl trivial (L_and _ _) ?_
  refine Runs.topJ 3 (cs := []) (pc' := 8) (pl' := [some (.long (L (pk G))), none, none, none, none, none]) (v := (L (pk G)) >>> (((N 2) : Int32).toInt64 &&& 63)) (v' := L ((pk G) / 4)) (st' := [.long (L ((pk G) &&& ((pk G) / 2)))]) (h' := h) rfl trivial (LHR (by omega) (by omega) rfl) ?_
  refine Runs.topJ 3 (cs := []) (pc' := 11) (pl' := [some (.long (L (pk G))), none, none, none, none, none]) (v := (L (pk G)) >>> (((N 3) : Int32).toInt64 &&& 63)) (v' := L ((pk G) / 8)) (st' := [.long (L ((pk G) / 4)), .long (L ((pk G) &&& ((pk G) / 2)))]) (h' := h) rfl trivial (LHR (by omega) (by omega) rfl) ?_
  refine Runs.topJ 1 (cs := []) (pc' := 12) (pl' := [some (.long (L (pk G))), none, none, none, none, none]) (v := (L ((pk G) / 4)) &&& (L ((pk G) / 8))) (v' := L (((pk G) / 4) &&& ((pk G) / 8))) (st' := [.long (L ((pk G) &&& ((pk G) / 2)))]) (h' := h) rfl trivial (L_and _ _) ?_
  refine Runs.topJ 1 (cs := []) (pc' := 13) (pl' := [some (.long (L (pk G))), none, none, none, none, none]) (v := (L ((pk G) &&& ((pk G) / 2))) ||| (L (((pk G) / 4) &&& ((pk G) / 8)))) (v' := L (((pk G) &&& ((pk G) / 2)) ||| (((pk G) / 4) &&& ((pk G) / 8)))) (st' := []) (h' := h) rfl trivial (L_or _ _) ?_
  refine Runs.topJ 5 (cs := []) (pc' := 18) (pl' := [some (.long (L (pk G))), none, some (.long (L (((pk G) &&& ((pk G) / 2)) ||| (((pk G) / 4) &&& ((pk G) / 8))))), none, none, none]) (v := (L (pk G)) >>> (((N 1) : Int32).toInt64 &&& 63)) (v' := L ((pk G) / 2)) (st' := [.long (L (pk G))]) (h' := h) rfl trivial (LHR (by omega) (by omega) rfl) ?_
  refine Runs.topJ 1 (cs := []) (pc' := 19) (pl' := [some (.long (L (pk G))), none, some (.long (L (((pk G) &&& ((pk G) / 2)) ||| (((pk G) / 4) &&& ((pk G) / 8))))), none, none, none]) (v := (L (pk G)) ||| (L ((pk G) / 2))) (v' := L ((pk G) ||| ((pk G) / 2))) (st' := []) (h' := h) rfl trivial (L_or _ _) ?_
  refine Runs.topJ 3 (cs := []) (pc' := 22) (pl' := [some (.long (L (pk G))), none, some (.long (L (((pk G) &&& ((pk G) / 2)) ||| (((pk G) / 4) &&& ((pk G) / 8))))), none, none, none]) (v := (L (pk G)) >>> (((N 2) : Int32).toInt64 &&& 63)) (v' := L ((pk G) / 4)) (st' := [.long (L ((pk G) ||| ((pk G) / 2)))]) (h' := h) rfl trivial (LHR (by omega) (by omega) rfl) ?_
  refine Runs.topJ 3 (cs := []) (pc' := 25) (pl' := [some (.long (L (pk G))), none, some (.long (L (((pk G) &&& ((pk G) / 2)) ||| (((pk G) / 4) &&& ((pk G) / 8))))), none, none, none]) (v := (L (pk G)) >>> (((N 3) : Int32).toInt64 &&& 63)) (v' := L ((pk G) / 8)) (st' := [.long (L ((pk G) / 4)), .long (L ((pk G) ||| ((pk G) / 2)))]) (h' := h) rfl trivial (LHR (by omega) (by omega) rfl) ?_
  refine Runs.topJ 1 (cs := []) (pc' := 26) (pl' := [some (.long (L (pk G))), none, some (.long (L (((pk G) &&& ((pk G) / 2)) ||| (((pk G) / 4) &&& ((pk G) / 8))))), none, none, none]) (v := (L ((pk G) / 4)) ||| (L ((pk G) / 8))) (v' := L (((pk G) / 4) ||| ((pk G) / 8))) (st' := [.long (L ((pk G) ||| ((pk G) / 2)))]) (h' := h) rfl trivial (L_or _ _) ?_
  refine Runs.topJ 1 (cs := []) (pc' := 27) (pl' := [some (.long (L (pk G))), none, some (.long (L (((pk G) &&& ((pk G) / 2)) ||| (((pk G) / 4) &&& ((pk G) / 8))))), none, none, none]) (v := (L ((pk G) ||| ((pk G) / 2))) &&& (L (((pk G) / 4) ||| ((pk G) / 8)))) (v' := L (((pk G) ||| ((pk G) / 2)) &&& (((pk G) / 4) ||| ((pk G) / 8)))) (st' := []) (h' := h) rfl trivial (L_and _ _) ?_
  refine Runs.topJ 4 (cs := []) (pc' := 33) (pl' := [some (.long (L (pk G))), none, some (.long (L (((pk G) &&& ((pk G) / 2)) ||| (((pk G) / 4) &&& ((pk G) / 8))))), none, some (.long (L (((pk G) ||| ((pk G) / 2)) &&& (((pk G) / 4) ||| ((pk G) / 8))))), none]) (v := (L (((pk G) &&& ((pk G) / 2)) ||| (((pk G) / 4) &&& ((pk G) / 8)))) ||| (L (((pk G) ||| ((pk G) / 2)) &&& (((pk G) / 4) ||| ((pk G) / 8))))) (v' := L ((((pk G) &&& ((pk G) / 2)) ||| (((pk G) / 4) &&& ((pk G) / 8))) ||| (((pk G) ||| ((pk G) / 2)) &&& (((pk G) / 4) ||| ((pk G) / 8))))) (st' := []) (h' := h) rfl trivial (L_or _ _) ?_
  refine Runs.topJ 2 (cs := []) (pc' := 37) (pl' := [some (.long (L (pk G))), none, some (.long (L (((pk G) &&& ((pk G) / 2)) ||| (((pk G) / 4) &&& ((pk G) / 8))))), none, some (.long (L (((pk G) ||| ((pk G) / 2)) &&& (((pk G) / 4) ||| ((pk G) / 8))))), none]) (v := (L ((((pk G) &&& ((pk G) / 2)) ||| (((pk G) / 4) &&& ((pk G) / 8))) ||| (((pk G) ||| ((pk G) / 2)) &&& (((pk G) / 4) ||| ((pk G) / 8))))) &&& (L 18764998447377)) (v' := L (((((pk G) &&& ((pk G) / 2)) ||| (((pk G) / 4) &&& ((pk G) / 8))) ||| (((pk G) ||| ((pk G) / 2)) &&& (((pk G) / 4) ||| ((pk G) / 8)))) &&& 18764998447377)) (st' := []) (h' := h) rfl trivial (L_and _ _) ?_
  refine Runs.topJ 2 (cs := []) (pc' := 41) (pl' := [some (.long (L (pk G))), none, some (.long (L (((pk G) &&& ((pk G) / 2)) ||| (((pk G) / 4) &&& ((pk G) / 8))))), none, some (.long (L (((pk G) ||| ((pk G) / 2)) &&& (((pk G) / 4) ||| ((pk G) / 8))))), none]) (v := (L (((((pk G) &&& ((pk G) / 2)) ||| (((pk G) / 4) &&& ((pk G) / 8))) ||| (((pk G) ||| ((pk G) / 2)) &&& (((pk G) / 4) ||| ((pk G) / 8)))) &&& 18764998447377)) * (L 15)) (v' := L (pk (fun i => moreF (G i)))) (st' := []) (h' := h) rfl trivial ((L_mul _ _).trans (congrArg L (more_pk hG))) ?_
  exact Runs.retE (cs := []) rfl trivial (retJ rfl) rfl
theorem c_itemsWithOne {G : Nat → Nat} {h : PH} (hG : M16 G) : Call 1 mX1_itemsWithOne [.long (L (pk G))] h (.inl (some (.long (L (pk (fun i => oneF (G i))))))) h 0 := by
  refine Runs.go 1 (cs := []) (pc' := 1) (pl' := [some (.long (L (pk G))), none]) (st' := [.long (L (pk G))]) (h' := h) rfl trivial ?_
  refine Runs.cal (y := mX1_itemsWithSome) (as := [.long (L (pk G))]) (rest := []) (pc' := 4) (cs := []) (v := some (.long (L (pk (fun i => someF (G i)))))) (h1 := h) rfl trivial (by decide) (c_itemsWithSome hG) ?_
  show Runs _ _ 4 _ [.long (L (pk (fun i => someF (G i))))] _ _ _ _
  refine Runs.go 1 (cs := []) (pc' := 5) (pl' := [some (.long (L (pk G))), none]) (st' := [.long (L (pk G)), .long (L (pk (fun i => someF (G i))))]) (h' := h) rfl trivial ?_
  refine Runs.cal (y := mX1_itemsWithMore) (as := [.long (L (pk G))]) (rest := [.long (L (pk (fun i => someF (G i))))]) (pc' := 8) (cs := []) (v := some (.long (L (pk (fun i => moreF (G i)))))) (h1 := h) rfl trivial (by decide) (c_itemsWithMore hG) ?_
  show Runs _ _ 8 _ [.long (L (pk (fun i => moreF (G i)))), .long (L (pk (fun i => someF (G i))))] _ _ _ _
  refine Runs.topJ 3 (cs := []) (pc' := 13) (pl' := [some (.long (L (pk G))), none]) (v := (L (pk (fun i => someF (G i)))) &&& ((L (pk (fun i => moreF (G i)))) ^^^ (-1 : Int64))) (v' := L (pk (fun i => oneF (G i)))) (st' := []) (h' := h) rfl trivial ((L_dif _ _).trans (congrArg L (one_pk hG))) ?_
  exact Runs.retE (cs := []) rfl trivial (retJ rfl) rfl
theorem c_ofOthers {G : Nat → Nat} {h : PH} (hG : M16 G) : Call 0 mX1_ofOthers [.long (L (pk G))] h (.inl (some (.long (L (pk (othF G)))))) h 0 := by
  have hlt := zk_lt hG
  refine Runs.topJ 3 (cs := []) (pc' := 3) (pl' := [some (.long (L (pk G))), none, none, none, none, none, none, none]) (v := (L (pk G)) <<< (((N 4) : Int32).toInt64 &&& 63)) (v' := L (16 * (pk G))) (st' := []) (h' := h) rfl trivial (LHL (by omega) (by omega)) ?_
  refine Runs.topJ 2 (cs := []) (pc' := 7) (pl' := [some (.long (L (pk G))), none, none, none, none, none, none, none]) (v := (L (16 * (pk G))) &&& (L 281410551218160)) (v' := L ((16 * (pk G)) &&& 281410551218160)) (st' := []) (h' := h) rfl trivial (L_and _ _) ?_
  refine Runs.topJ 3 (cs := []) (pc' := 11) (pl' := [some (.long (L (pk G))), none, none, none, none, none, none, none]) (v := (L (pk G)) >>> (((N 12) : Int32).toInt64 &&& 63)) (v' := L ((pk G) / 4096)) (st' := [.long (L ((16 * (pk G)) &&& 281410551218160))]) (h' := h) rfl trivial (LHR (by omega) (by omega) rfl) ?_
  refine Runs.topJ 2 (cs := []) (pc' := 15) (pl' := [some (.long (L (pk G))), none, none, none, none, none, none, none]) (v := (L ((pk G) / 4096)) &&& (L 64425492495)) (v' := L (((pk G) / 4096) &&& 64425492495)) (st' := [.long (L ((16 * (pk G)) &&& 281410551218160))]) (h' := h) rfl trivial (L_and _ _) ?_
  refine Runs.topJ 1 (cs := []) (pc' := 16) (pl' := [some (.long (L (pk G))), none, none, none, none, none, none, none]) (v := (L ((16 * (pk G)) &&& 281410551218160)) ||| (L (((pk G) / 4096) &&& 64425492495))) (v' := L (((16 * (pk G)) &&& 281410551218160) ||| (((pk G) / 4096) &&& 64425492495))) (st' := []) (h' := h) rfl trivial (L_or _ _) ?_
  refine Runs.topJ 4 (cs := []) (pc' := 21) (pl' := [some (.long (L (pk G))), none, some (.long (L (((16 * (pk G)) &&& 281410551218160) ||| (((pk G) / 4096) &&& 64425492495)))), none, none, none, none, none]) (v := (L (pk G)) <<< (((N 8) : Int32).toInt64 &&& 63)) (v' := L (256 * (pk G))) (st' := []) (h' := h) rfl trivial (LHL (by omega) (by omega)) ?_
  refine Runs.topJ 2 (cs := []) (pc' := 25) (pl' := [some (.long (L (pk G))), none, some (.long (L (((16 * (pk G)) &&& 281410551218160) ||| (((pk G) / 4096) &&& 64425492495)))), none, none, none, none, none]) (v := (L (256 * (pk G))) &&& (L 280379743338240)) (v' := L ((256 * (pk G)) &&& 280379743338240)) (st' := []) (h' := h) rfl trivial (L_and _ _) ?_
  refine Runs.topJ 3 (cs := []) (pc' := 29) (pl' := [some (.long (L (pk G))), none, some (.long (L (((16 * (pk G)) &&& 281410551218160) ||| (((pk G) / 4096) &&& 64425492495)))), none, none, none, none, none]) (v := (L (pk G)) >>> (((N 8) : Int32).toInt64 &&& 63)) (v' := L ((pk G) / 256)) (st' := [.long (L ((256 * (pk G)) &&& 280379743338240))]) (h' := h) rfl trivial (LHR (by omega) (by omega) rfl) ?_
  refine Runs.topJ 2 (cs := []) (pc' := 33) (pl' := [some (.long (L (pk G))), none, some (.long (L (((16 * (pk G)) &&& 281410551218160) ||| (((pk G) / 4096) &&& 64425492495)))), none, none, none, none, none]) (v := (L ((pk G) / 256)) &&& (L 1095233372415)) (v' := L (((pk G) / 256) &&& 1095233372415)) (st' := [.long (L ((256 * (pk G)) &&& 280379743338240))]) (h' := h) rfl trivial (L_and _ _) ?_
  refine Runs.topJ 1 (cs := []) (pc' := 34) (pl' := [some (.long (L (pk G))), none, some (.long (L (((16 * (pk G)) &&& 281410551218160) ||| (((pk G) / 4096) &&& 64425492495)))), none, none, none, none, none]) (v := (L ((256 * (pk G)) &&& 280379743338240)) ||| (L (((pk G) / 256) &&& 1095233372415))) (v' := L (((256 * (pk G)) &&& 280379743338240) ||| (((pk G) / 256) &&& 1095233372415))) (st' := []) (h' := h) rfl trivial (L_or _ _) ?_
  refine Runs.topJ 4 (cs := []) (pc' := 40) (pl' := [some (.long (L (pk G))), none, some (.long (L (((16 * (pk G)) &&& 281410551218160) ||| (((pk G) / 4096) &&& 64425492495)))), none, some (.long (L (((256 * (pk G)) &&& 280379743338240) ||| (((pk G) / 256) &&& 1095233372415)))), none, none, none]) (v := (L (pk G)) <<< (((N 12) : Int32).toInt64 &&& 63)) (v' := L (4096 * (pk G))) (st' := []) (h' := h) rfl trivial (LHL (by omega) (by omega)) ?_
  refine Runs.topJ 2 (cs := []) (pc' := 44) (pl' := [some (.long (L (pk G))), none, some (.long (L (((16 * (pk G)) &&& 281410551218160) ||| (((pk G) / 4096) &&& 64425492495)))), none, some (.long (L (((256 * (pk G)) &&& 280379743338240) ||| (((pk G) / 256) &&& 1095233372415)))), none, none, none]) (v := (L (4096 * (pk G))) &&& (L 263886817259520)) (v' := L ((4096 * (pk G)) &&& 263886817259520)) (st' := []) (h' := h) rfl trivial (L_and _ _) ?_
  refine Runs.topJ 3 (cs := []) (pc' := 47) (pl' := [some (.long (L (pk G))), none, some (.long (L (((16 * (pk G)) &&& 281410551218160) ||| (((pk G) / 4096) &&& 64425492495)))), none, some (.long (L (((256 * (pk G)) &&& 280379743338240) ||| (((pk G) / 256) &&& 1095233372415)))), none, none, none]) (v := (L (pk G)) >>> (((N 4) : Int32).toInt64 &&& 63)) (v' := L ((pk G) / 16)) (st' := [.long (L ((4096 * (pk G)) &&& 263886817259520))]) (h' := h) rfl trivial (LHR (by omega) (by omega) rfl) ?_
  refine Runs.topJ 2 (cs := []) (pc' := 51) (pl' := [some (.long (L (pk G))), none, some (.long (L (((16 * (pk G)) &&& 281410551218160) ||| (((pk G) / 4096) &&& 64425492495)))), none, some (.long (L (((256 * (pk G)) &&& 280379743338240) ||| (((pk G) / 256) &&& 1095233372415)))), none, none, none]) (v := (L ((pk G) / 16)) &&& (L 17588159451135)) (v' := L (((pk G) / 16) &&& 17588159451135)) (st' := [.long (L ((4096 * (pk G)) &&& 263886817259520))]) (h' := h) rfl trivial (L_and _ _) ?_
  refine Runs.topJ 1 (cs := []) (pc' := 52) (pl' := [some (.long (L (pk G))), none, some (.long (L (((16 * (pk G)) &&& 281410551218160) ||| (((pk G) / 4096) &&& 64425492495)))), none, some (.long (L (((256 * (pk G)) &&& 280379743338240) ||| (((pk G) / 256) &&& 1095233372415)))), none, none, none]) (v := (L ((4096 * (pk G)) &&& 263886817259520)) ||| (L (((pk G) / 16) &&& 17588159451135))) (v' := L (((4096 * (pk G)) &&& 263886817259520) ||| (((pk G) / 16) &&& 17588159451135))) (st' := []) (h' := h) rfl trivial (L_or _ _) ?_
  refine Runs.topJ 4 (cs := []) (pc' := 58) (pl' := [some (.long (L (pk G))), none, some (.long (L (((16 * (pk G)) &&& 281410551218160) ||| (((pk G) / 4096) &&& 64425492495)))), none, some (.long (L (((256 * (pk G)) &&& 280379743338240) ||| (((pk G) / 256) &&& 1095233372415)))), none, some (.long (L (((4096 * (pk G)) &&& 263886817259520) ||| (((pk G) / 16) &&& 17588159451135)))), none]) (v := (L (((16 * (pk G)) &&& 281410551218160) ||| (((pk G) / 4096) &&& 64425492495))) ||| (L (((256 * (pk G)) &&& 280379743338240) ||| (((pk G) / 256) &&& 1095233372415)))) (v' := L ((((16 * (pk G)) &&& 281410551218160) ||| (((pk G) / 4096) &&& 64425492495)) ||| (((256 * (pk G)) &&& 280379743338240) ||| (((pk G) / 256) &&& 1095233372415)))) (st' := []) (h' := h) rfl trivial (L_or _ _) ?_
  refine Runs.topJ 2 (cs := []) (pc' := 61) (pl' := [some (.long (L (pk G))), none, some (.long (L (((16 * (pk G)) &&& 281410551218160) ||| (((pk G) / 4096) &&& 64425492495)))), none, some (.long (L (((256 * (pk G)) &&& 280379743338240) ||| (((pk G) / 256) &&& 1095233372415)))), none, some (.long (L (((4096 * (pk G)) &&& 263886817259520) ||| (((pk G) / 16) &&& 17588159451135)))), none]) (v := (L ((((16 * (pk G)) &&& 281410551218160) ||| (((pk G) / 4096) &&& 64425492495)) ||| (((256 * (pk G)) &&& 280379743338240) ||| (((pk G) / 256) &&& 1095233372415)))) ||| (L (((4096 * (pk G)) &&& 263886817259520) ||| (((pk G) / 16) &&& 17588159451135)))) (v' := L (pk (othF G))) (st' := []) (h' := h) rfl trivial ((L_or _ _).trans (congrArg L (oth_pk hG))) ?_
  exact Runs.retE (cs := []) rfl trivial (retJ rfl) rfl
theorem c_takenByAnother {G : Nat → Nat} {h : PH} (hG : M16 G) : Call 2 mX1_takenByAnother [.long (L (pk G))] h (.inl (some (.long (L (pk (takF G)))))) h 0 := by
  refine Runs.go 3 (cs := []) (pc' := 3) (pl' := [some (.long (L (pk G))), none]) (st' := [.long (L (pk G)), .long (L (pk G)), .long (L (pk G))]) (h' := h) rfl trivial ?_
  refine Runs.cal (y := mX1_itemsWithOne) (as := [.long (L (pk G))]) (rest := [.long (L (pk G)), .long (L (pk G))]) (pc' := 6) (cs := []) (v := some (.long (L (pk (fun i => oneF (G i)))))) (h1 := h) rfl trivial (by decide) (c_itemsWithOne hG) ?_
  show Runs _ _ 6 _ [.long (L (pk (fun i => oneF (G i)))), .long (L (pk G)), .long (L (pk G))] _ _ _ _
  refine Runs.topJ 1 (cs := []) (pc' := 7) (pl' := [some (.long (L (pk G))), none]) (v := (L (pk G)) &&& (L (pk (fun i => oneF (G i))))) (v' := L (pk (fun j => G j &&& oneF (G j)))) (st' := [.long (L (pk G))]) (h' := h) rfl trivial ((L_and _ _).trans (congrArg L (zk_and hG (one_16 G)))) ?_
  refine Runs.cal (y := mX1_ofOthers) (as := [.long (L (pk (fun j => G j &&& oneF (G j))))]) (rest := [.long (L (pk G))]) (pc' := 10) (cs := []) (v := some (.long (L (pk (othF (fun j => G j &&& oneF (G j))))))) (h1 := h) rfl trivial (by decide) (c_ofOthers (gone_16 hG)) ?_
  show Runs _ _ 10 _ [.long (L (pk (othF (fun j => G j &&& oneF (G j))))), .long (L (pk G))] _ _ _ _
  refine Runs.topJ 1 (cs := []) (pc' := 11) (pl' := [some (.long (L (pk G))), none]) (v := (L (pk G)) &&& (L (pk (othF (fun j => G j &&& oneF (G j)))))) (v' := L (pk (takF G))) (st' := []) (h' := h) rfl trivial ((L_and _ _).trans (congrArg L (zk_and hG (oth_16 (gone_16 hG))))) ?_
  exact Runs.retE (cs := []) rfl trivial (retJ rfl) rfl
theorem c_neededElsewhere {G : Nat → Nat} {h : PH} (hG : M16 G) : Call 2 mX1_neededElsewhere [.long (L (pk G))] h (.inl (some (.long (L (pk (neeF G)))))) h 0 := by
  refine Runs.go 2 (cs := []) (pc' := 2) (pl' := [some (.long (L (pk G))), none, none, none]) (st' := [.long (L (pk G)), .long (L (pk G))]) (h' := h) rfl trivial ?_
  refine Runs.cal (y := mX1_ofOthers) (as := [.long (L (pk G))]) (rest := [.long (L (pk G))]) (pc' := 5) (cs := []) (v := some (.long (L (pk (othF G))))) (h1 := h) rfl trivial (by decide) (c_ofOthers hG) ?_
  show Runs _ _ 5 _ [.long (L (pk (othF G))), .long (L (pk G))] _ _ _ _
  refine Runs.topJ 3 (cs := []) (pc' := 10) (pl' := [some (.long (L (pk G))), none, none, none]) (v := (L (pk G)) &&& ((L (pk (othF G))) ^^^ (-1 : Int64))) (v' := L (pk (aloF G))) (st' := []) (h' := h) rfl trivial ((L_dif _ _).trans (congrArg L (zk_dif hG (oth_16 hG)))) ?_
  refine Runs.go 3 (cs := []) (pc' := 13) (pl' := [some (.long (L (pk G))), none, some (.long (L (pk (aloF G)))), none]) (st' := [.long (L (pk (aloF G))), .long (L (pk G))]) (h' := h) rfl trivial ?_
  refine Runs.cal (y := mX1_itemsWithOne) (as := [.long (L (pk (aloF G)))]) (rest := [.long (L (pk G))]) (pc' := 16) (cs := []) (v := some (.long (L (pk (fun i => oneF ((aloF G) i)))))) (h1 := h) rfl trivial (by decide) (c_itemsWithOne (alo_16 hG)) ?_
  show Runs _ _ 16 _ [.long (L (pk (fun i => oneF ((aloF G) i)))), .long (L (pk G))] _ _ _ _
  refine Runs.topJ 4 (cs := []) (pc' := 22) (pl' := [some (.long (L (pk G))), none, some (.long (L (pk (aloF G)))), none]) (v := (L (pk (fun i => oneF ((aloF G) i)))) &&& ((L (pk (aloF G))) ^^^ (-1 : Int64))) (v' := L (pk (fun j => dif (oneF (aloF G j)) (aloF G j)))) (st' := [.long (L (pk G))]) (h' := h) rfl trivial ((L_dif _ _).trans (congrArg L (zk_dif (one_16 (aloF G)) (alo_16 hG)))) ?_
  refine Runs.go 1 (cs := []) (pc' := 23) (pl' := [some (.long (L (pk G))), none, some (.long (L (pk (aloF G)))), none]) (st' := [.long (L (pk (aloF G))), .long (L (pk (fun j => dif (oneF (aloF G j)) (aloF G j)))), .long (L (pk G))]) (h' := h) rfl trivial ?_
  refine Runs.cal (y := mX1_itemsWithMore) (as := [.long (L (pk (aloF G)))]) (rest := [.long (L (pk (fun j => dif (oneF (aloF G j)) (aloF G j)))), .long (L (pk G))]) (pc' := 26) (cs := []) (v := some (.long (L (pk (fun i => moreF ((aloF G) i)))))) (h1 := h) rfl trivial (by decide) (c_itemsWithMore (alo_16 hG)) ?_
  show Runs _ _ 26 _ [.long (L (pk (fun i => moreF ((aloF G) i)))), .long (L (pk (fun j => dif (oneF (aloF G j)) (aloF G j)))), .long (L (pk G))] _ _ _ _
  refine Runs.topJ 1 (cs := []) (pc' := 27) (pl' := [some (.long (L (pk G))), none, some (.long (L (pk (aloF G)))), none]) (v := (L (pk (fun j => dif (oneF (aloF G j)) (aloF G j)))) ||| (L (pk (fun i => moreF ((aloF G) i))))) (v' := L (pk (fun j => dif (oneF (aloF G j)) (aloF G j) ||| moreF (aloF G j)))) (st' := [.long (L (pk G))]) (h' := h) rfl trivial ((L_or _ _).trans (congrArg L (zk_or (fun j hj => dif_16 (one_16 (aloF G) j hj)) (more_16 (aloF G))))) ?_
  refine Runs.topJ 1 (cs := []) (pc' := 28) (pl' := [some (.long (L (pk G))), none, some (.long (L (pk (aloF G)))), none]) (v := (L (pk G)) &&& (L (pk (fun j => dif (oneF (aloF G j)) (aloF G j) ||| moreF (aloF G j))))) (v' := L (pk (neeF G))) (st' := []) (h' := h) rfl trivial ((L_and _ _).trans (congrArg L (zk_and hG (fun j hj => or_16 (dif_16 (one_16 (aloF G) j hj)) (more_16 (aloF G) j hj))))) ?_
  exact Runs.retE (cs := []) rfl trivial (retJ rfl) rfl
theorem some_15 (m : Nat) : someF m = 15 ↔ ¬ m = 0 := by
  unfold someF
  by_cases h : m = 0
  · rw [if_pos h]
    simp [h]
  · rw [if_neg h]
    simp [h]
theorem anyN_iff {f : Nat → Bool} {n : Nat} : anyN f n = true ↔ ∃ k, k < n ∧ f k = true := by
  induction n with
  | zero =>
    constructor
    · intro h
      cases (show false = true from h)
    · rintro ⟨k, hk, -⟩
      exact absurd hk (by omega)
  | succ n ih =>
    rw [anyN_succ, Bool.or_eq_true, ih]
    constructor
    · rintro (⟨k, hk, e⟩ | e)
      · exact ⟨k, by omega, e⟩
      · exact ⟨n, by omega, e⟩
    · rintro ⟨k, hk, e⟩
      by_cases h : k = n
      · subst h
        exact Or.inr e
      · exact Or.inl ⟨k, by omega, e⟩
theorem anyN_not {f : Nat → Bool} {n : Nat} : anyN f n = false ↔ ∀ k, k < n → f k = false := by
  constructor
  · exact anyN_false
  · intro h
    cases e : anyN f n with
    | false => rfl
    | true =>
      obtain ⟨k, hk, e1⟩ := anyN_iff.mp e
      rw [h k hk] at e1
      cases e1
theorem con_some {G : Nat → Nat} (h : ¬ pk (fun i => someF (G i)) = 281474976710655) : conF G = true := by
  rw [zk_eqF (some_16 G)] at h
  refine bT (fun z => h (fun j hj => ?_))
  have := anyN_not.mp z j hj
  simp only [Bool.or_eq_false_iff, decide_eq_false_iff_not] at this
  exact (some_15 _).mpr this.1
theorem goth_16 {G : Nat → Nat} (hG : M16 G) : M16 (fun i => G i ||| othF G i) := fun j hj => or_16 (hG j hj) (oth_16 hG j hj)
theorem con_all {G : Nat → Nat} (hG : M16 G) (h : ¬ pk (fun i => G i ||| othF G i) = 281474976710655) : conF G = true := by
  rw [zk_eqF (goth_16 hG)] at h
  refine bT (fun z => h (fun j hj => ?_))
  have := anyN_not.mp z j hj
  simp only [Bool.or_eq_false_iff, Bool.not_eq_false', decide_eq_true_eq] at this
  exact this.2
theorem con_no {G : Nat → Nat} (hG : M16 G) (h1 : pk (fun i => someF (G i)) = 281474976710655) (h2 : pk (fun i => G i ||| othF G i) = 281474976710655) : conF G = false := by
  rw [zk_eqF (some_16 G)] at h1
  rw [zk_eqF (goth_16 hG)] at h2
  refine anyN_not.mpr (fun j hj => ?_)
  rw [decide_eq_false ((some_15 _).mp (h1 j hj)), decide_eq_true (h2 j hj)]
  rfl
theorem c_isContradictory {G : Nat → Nat} {h : PH} (hG : M16 G) : Call 1 mX1_isContradictory [.long (L (pk G))] h (.inl (some (.int (bI (conF G))))) h 0 := by
  have hl1 := zk_lt (some_16 G)
  have hl2 := zk_lt (goth_16 hG)
  refine Runs.go 1 (cs := []) (pc' := 1) (pl' := [some (.long (L (pk G))), none]) (st' := [.long (L (pk G))]) (h' := h) rfl trivial ?_
  refine Runs.cal (y := mX1_itemsWithSome) (as := [.long (L (pk G))]) (rest := []) (pc' := 4) (cs := []) (v := some (.long (L (pk (fun i => someF (G i)))))) (h1 := h) rfl trivial (by decide) (c_itemsWithSome hG) ?_
  show Runs _ _ 4 _ [.long (L (pk (fun i => someF (G i))))] _ _ _ _
  refine Runs.go 3 (cs := []) (pc' := bif decide (¬ (lg_cmp (L (pk (fun i => someF (G i)))) (L 281474976710655)) = 0) then 24 else 11) (pl' := [some (.long (L (pk G))), none]) (st' := []) (h' := h) rfl trivial ?_
  refine Runs.br (fun z1 => ?_) (fun z1 => ?_)
  · replace z1 : ¬ (pk (fun i => someF (G i)) = 281474976710655) := mt (L_cmp0 (by omega) (by omega)).mpr (of_decide_eq_true z1)
    refine Runs.go 2 (cs := []) (pc' := 29) (pl' := [some (.long (L (pk G))), none]) (st' := [.int (N 1)]) (h' := h) rfl trivial ?_
    exact Runs.retE (cs := [(N 1 : Int32) = 0 ∨ (N 1 : Int32) = 1]) rfl ⟨Or.inr rfl, trivial⟩ (retI (bIT (con_some z1))) rfl
  · replace z1 : pk (fun i => someF (G i)) = 281474976710655 := (L_cmp0 (by omega) (by omega)).mp (Classical.not_not.mp (of_decide_eq_false z1))
    refine Runs.go 2 (cs := []) (pc' := 13) (pl' := [some (.long (L (pk G))), none]) (st' := [.long (L (pk G)), .long (L (pk G))]) (h' := h) rfl trivial ?_
    refine Runs.cal (y := mX1_ofOthers) (as := [.long (L (pk G))]) (rest := [.long (L (pk G))]) (pc' := 16) (cs := []) (v := some (.long (L (pk (othF G))))) (h1 := h) rfl trivial (by decide) (c_ofOthers hG) ?_
    show Runs _ _ 16 _ [.long (L (pk (othF G))), .long (L (pk G))] _ _ _ _
    refine Runs.topJ 1 (cs := []) (pc' := 17) (pl' := [some (.long (L (pk G))), none]) (v := (L (pk G)) ||| (L (pk (othF G)))) (v' := L (pk (fun i => G i ||| othF G i))) (st' := []) (h' := h) rfl trivial ((L_or _ _).trans (congrArg L (zk_or hG (oth_16 hG)))) ?_
    refine Runs.go 3 (cs := []) (pc' := bif decide ((lg_cmp (L (pk (fun i => G i ||| othF G i))) (L 281474976710655)) = 0) then 28 else 24) (pl' := [some (.long (L (pk G))), none]) (st' := []) (h' := h) rfl trivial ?_
    refine Runs.br (fun z2 => ?_) (fun z2 => ?_)
    · replace z2 : pk (fun i => G i ||| othF G i) = 281474976710655 := (L_cmp0 (by omega) (by omega)).mp (of_decide_eq_true z2)
      refine Runs.go 1 (cs := []) (pc' := 29) (pl' := [some (.long (L (pk G))), none]) (st' := [.int (N 0)]) (h' := h) rfl trivial ?_
      exact Runs.retE (cs := [(N 0 : Int32) = 0 ∨ (N 0 : Int32) = 1]) rfl ⟨Or.inl rfl, trivial⟩ (retI (bIF (con_no hG z1 z2))) rfl
    · replace z2 : ¬ (pk (fun i => G i ||| othF G i) = 281474976710655) := mt (L_cmp0 (by omega) (by omega)).mpr (of_decide_eq_false z2)
      refine Runs.go 2 (cs := []) (pc' := 29) (pl' := [some (.long (L (pk G))), none]) (st' := [.int (N 1)]) (h' := h) rfl trivial ?_
      exact Runs.retE (cs := [(N 1 : Int32) = 0 ∨ (N 1 : Int32) = 1]) rfl ⟨Or.inr rfl, trivial⟩ (retI (bIT (con_all hG z2))) rfl
theorem c_onlyPlaceOf {G : Nat → Nat} {i : Nat} {h : PH} (hG : M16 G) (hz : Z12 G) (hi : i < 12) : Call 1 mX1_onlyPlaceOf [.long (L (pk G)), .int (N i)] h (.inl (some (.int (fxI (G i))))) h 0 := by
  have h16 := hG i hi
  refine Runs.go 2 (cs := []) (pc' := 2) (pl' := [some (.long (L (pk G))), none, some (.int (N i)), none, none]) (st' := [.int (N i), .long (L (pk G))]) (h' := h) rfl trivial ?_
  refine Runs.cal (y := mX1_placesOf) (as := [.long (L (pk G)), .int (N i)]) (rest := []) (pc' := 5) (cs := []) (v := some (.int (N (G i)))) (h1 := h) rfl trivial (by decide) (c_placesOf hG hz (by omega)) ?_
  show Runs _ _ 5 _ [.int (N (G i))] _ _ _ _
  refine Runs.go 6 (cs := []) (pc' := bif decide ((N 4) ≤ (N 0)) then 32 else 15) (pl' := [some (.long (L (pk G))), none, some (.int (N i)), some (.int (N (G i))), some (.int (N 0))]) (st' := []) (h' := h) rfl trivial ?_
  refine Runs.brF (decide_eq_false (by decide)) ?_
  refine Runs.topI 4 (cs := []) (pc' := 20) (pl' := [some (.long (L (pk G))), none, some (.int (N i)), some (.int (N (G i))), some (.int (N 0))]) (v := (N 1) <<< (N 0 &&& 31)) (v' := N 1) (st' := [.int (N (G i))]) (h' := h) rfl trivial (NHL (by omega) (by omega)) ?_
  refine Runs.go 1 (cs := []) (pc' := bif decide (¬ (N (G i)) = (N 1)) then 26 else 23) (pl' := [some (.long (L (pk G))), none, some (.int (N i)), some (.int (N (G i))), some (.int (N 0))]) (st' := []) (h' := h) rfl trivial ?_
  refine Runs.br (fun z1 => ?_) (fun z1 => ?_)
  · replace z1 : ¬ (G i = 1) := mt (N_eq (a := G i) (b := 1) (by omega) (by omega)).mpr (of_decide_eq_true z1)
    refine Runs.goL 1 (cs := []) (pc' := 29) (pl1 := [some (.long (L (pk G))), none, some (.int (N i)), some (.int (N (G i))), some (.int (N 0 + N 1))]) (pl' := [some (.long (L (pk G))), none, some (.int (N i)), some (.int (N (G i))), some (.int (N 1))]) (st' := []) (h' := h) rfl trivial (congrArg (fun zq9 => ([some (.long (L (pk G))), none, some (.int (N i)), some (.int (N (G i))), some (.int zq9)] : PL)) (NA (by omega))) ?_
    refine Runs.go 4 (cs := []) (pc' := bif decide ((N 4) ≤ (N 1)) then 32 else 15) (pl' := [some (.long (L (pk G))), none, some (.int (N i)), some (.int (N (G i))), some (.int (N 1))]) (st' := []) (h' := h) rfl trivial ?_
    refine Runs.brF (decide_eq_false (by decide)) ?_
    refine Runs.topI 4 (cs := []) (pc' := 20) (pl' := [some (.long (L (pk G))), none, some (.int (N i)), some (.int (N (G i))), some (.int (N 1))]) (v := (N 1) <<< (N 1 &&& 31)) (v' := N 2) (st' := [.int (N (G i))]) (h' := h) rfl trivial (NHL (by omega) (by omega)) ?_
    refine Runs.go 1 (cs := []) (pc' := bif decide (¬ (N (G i)) = (N 2)) then 26 else 23) (pl' := [some (.long (L (pk G))), none, some (.int (N i)), some (.int (N (G i))), some (.int (N 1))]) (st' := []) (h' := h) rfl trivial ?_
    refine Runs.br (fun z2 => ?_) (fun z2 => ?_)
    · replace z2 : ¬ (G i = 2) := mt (N_eq (a := G i) (b := 2) (by omega) (by omega)).mpr (of_decide_eq_true z2)
      refine Runs.goL 1 (cs := []) (pc' := 29) (pl1 := [some (.long (L (pk G))), none, some (.int (N i)), some (.int (N (G i))), some (.int (N 1 + N 1))]) (pl' := [some (.long (L (pk G))), none, some (.int (N i)), some (.int (N (G i))), some (.int (N 2))]) (st' := []) (h' := h) rfl trivial (congrArg (fun zq9 => ([some (.long (L (pk G))), none, some (.int (N i)), some (.int (N (G i))), some (.int zq9)] : PL)) (NA (by omega))) ?_
      refine Runs.go 4 (cs := []) (pc' := bif decide ((N 4) ≤ (N 2)) then 32 else 15) (pl' := [some (.long (L (pk G))), none, some (.int (N i)), some (.int (N (G i))), some (.int (N 2))]) (st' := []) (h' := h) rfl trivial ?_
      refine Runs.brF (decide_eq_false (by decide)) ?_
      refine Runs.topI 4 (cs := []) (pc' := 20) (pl' := [some (.long (L (pk G))), none, some (.int (N i)), some (.int (N (G i))), some (.int (N 2))]) (v := (N 1) <<< (N 2 &&& 31)) (v' := N 4) (st' := [.int (N (G i))]) (h' := h) rfl trivial (NHL (by omega) (by omega)) ?_
      refine Runs.go 1 (cs := []) (pc' := bif decide (¬ (N (G i)) = (N 4)) then 26 else 23) (pl' := [some (.long (L (pk G))), none, some (.int (N i)), some (.int (N (G i))), some (.int (N 2))]) (st' := []) (h' := h) rfl trivial ?_
      refine Runs.br (fun z3 => ?_) (fun z3 => ?_)
      · replace z3 : ¬ (G i = 4) := mt (N_eq (a := G i) (b := 4) (by omega) (by omega)).mpr (of_decide_eq_true z3)
        refine Runs.goL 1 (cs := []) (pc' := 29) (pl1 := [some (.long (L (pk G))), none, some (.int (N i)), some (.int (N (G i))), some (.int (N 2 + N 1))]) (pl' := [some (.long (L (pk G))), none, some (.int (N i)), some (.int (N (G i))), some (.int (N 3))]) (st' := []) (h' := h) rfl trivial (congrArg (fun zq9 => ([some (.long (L (pk G))), none, some (.int (N i)), some (.int (N (G i))), some (.int zq9)] : PL)) (NA (by omega))) ?_
        refine Runs.go 4 (cs := []) (pc' := bif decide ((N 4) ≤ (N 3)) then 32 else 15) (pl' := [some (.long (L (pk G))), none, some (.int (N i)), some (.int (N (G i))), some (.int (N 3))]) (st' := []) (h' := h) rfl trivial ?_
        refine Runs.brF (decide_eq_false (by decide)) ?_
        refine Runs.topI 4 (cs := []) (pc' := 20) (pl' := [some (.long (L (pk G))), none, some (.int (N i)), some (.int (N (G i))), some (.int (N 3))]) (v := (N 1) <<< (N 3 &&& 31)) (v' := N 8) (st' := [.int (N (G i))]) (h' := h) rfl trivial (NHL (by omega) (by omega)) ?_
        refine Runs.go 1 (cs := []) (pc' := bif decide (¬ (N (G i)) = (N 8)) then 26 else 23) (pl' := [some (.long (L (pk G))), none, some (.int (N i)), some (.int (N (G i))), some (.int (N 3))]) (st' := []) (h' := h) rfl trivial ?_
        refine Runs.br (fun z4 => ?_) (fun z4 => ?_)
        · replace z4 : ¬ (G i = 8) := mt (N_eq (a := G i) (b := 8) (by omega) (by omega)).mpr (of_decide_eq_true z4)
          refine Runs.goL 1 (cs := []) (pc' := 29) (pl1 := [some (.long (L (pk G))), none, some (.int (N i)), some (.int (N (G i))), some (.int (N 3 + N 1))]) (pl' := [some (.long (L (pk G))), none, some (.int (N i)), some (.int (N (G i))), some (.int (N 4))]) (st' := []) (h' := h) rfl trivial (congrArg (fun zq9 => ([some (.long (L (pk G))), none, some (.int (N i)), some (.int (N (G i))), some (.int zq9)] : PL)) (NA (by omega))) ?_
          refine Runs.go 4 (cs := []) (pc' := bif decide ((N 4) ≤ (N 4)) then 32 else 15) (pl' := [some (.long (L (pk G))), none, some (.int (N i)), some (.int (N (G i))), some (.int (N 4))]) (st' := []) (h' := h) rfl trivial ?_
          refine Runs.brT (decide_eq_true (by decide)) ?_
          refine Runs.go 1 (cs := []) (pc' := 33) (pl' := [some (.long (L (pk G))), none, some (.int (N i)), some (.int (N (G i))), some (.int (N 4))]) (st' := [.int (-1 : Int32)]) (h' := h) rfl trivial ?_
          refine Runs.retE (cs := []) rfl trivial (retI ?_) rfl
          simp [fxI, z1, z2, z3, z4]
        · replace z4 : G i = 8 := (N_eq (a := G i) (b := 8) (by omega) (by omega)).mp (Classical.not_not.mp (of_decide_eq_false z4))
          refine Runs.go 1 (cs := []) (pc' := 25) (pl' := [some (.long (L (pk G))), none, some (.int (N i)), some (.int (N (G i))), some (.int (N 3))]) (st' := [.int (N 3)]) (h' := h) rfl trivial ?_
          refine Runs.retE (cs := []) rfl trivial (retI ?_) rfl
          simp [fxI, z1, z2, z3, z4]
      · replace z3 : G i = 4 := (N_eq (a := G i) (b := 4) (by omega) (by omega)).mp (Classical.not_not.mp (of_decide_eq_false z3))
        refine Runs.go 1 (cs := []) (pc' := 25) (pl' := [some (.long (L (pk G))), none, some (.int (N i)), some (.int (N (G i))), some (.int (N 2))]) (st' := [.int (N 2)]) (h' := h) rfl trivial ?_
        refine Runs.retE (cs := []) rfl trivial (retI ?_) rfl
        simp [fxI, z1, z2, z3]
    · replace z2 : G i = 2 := (N_eq (a := G i) (b := 2) (by omega) (by omega)).mp (Classical.not_not.mp (of_decide_eq_false z2))
      refine Runs.go 1 (cs := []) (pc' := 25) (pl' := [some (.long (L (pk G))), none, some (.int (N i)), some (.int (N (G i))), some (.int (N 1))]) (st' := [.int (N 1)]) (h' := h) rfl trivial ?_
      refine Runs.retE (cs := []) rfl trivial (retI ?_) rfl
      simp [fxI, z1, z2]
  · replace z1 : G i = 1 := (N_eq (a := G i) (b := 1) (by omega) (by omega)).mp (Classical.not_not.mp (of_decide_eq_false z1))
    refine Runs.go 1 (cs := []) (pc' := 25) (pl' := [some (.long (L (pk G))), none, some (.int (N i)), some (.int (N (G i))), some (.int (N 0))]) (st' := [.int (N 0)]) (h' := h) rfl trivial ?_
    refine Runs.retE (cs := []) rfl trivial (retI ?_) rfl
    simp [fxI, z1]
theorem c_leastBit {g : Nat} {h : PH} (hg : g < 281474976710656) : Call 1 mX1_leastBit [.long (L g)] h (.inl (some (.int (optI (fs (bt g) 0 48))))) h 0 := by
  refine Runs.go 2 (cs := []) (pc' := 2) (pl' := [some (.long (L g)), none, some (.int (N 0))]) (st' := []) (h' := h) rfl trivial ?_
  refine Runs.wk (pl' := [some (.long (L g)), none, some (.int (N 0))]) (st' := []) (h' := h) ⟨Or.inr rfl, Or.inl rfl, Or.inr rfl, trivial⟩ rfl rfl ?_
  refine Runs.loopN (fun k => [some (.long (L g)), none, some (.int (N k))]) (fun k => h) (fun k => fs (bt g) 0 48 = fs (bt g) k (48 - k)) 48 rfl (fun k hk I1 K1 => ?_) (fun I1 => ?_)
  · show Runs _ _ 2 [some (.long (L g)), none, some (.int (N k))] [] h _ _ _
    refine Runs.go 3 (cs := []) (pc' := bif decide ((N 48) ≤ (N k)) then 24 else 8) (pl' := [some (.long (L g)), none, some (.int (N k))]) (st' := []) (h' := h) rfl trivial ?_
    refine Runs.brF (decide_eq_false (fun zq9 => absurd ((N_le (a := 48) (b := k) (by omega) (by omega)).mp zq9) (by omega))) ?_
    refine Runs.go 2 (cs := []) (pc' := 10) (pl' := [some (.long (L g)), none, some (.int (N k))]) (st' := [.int (N k), .long (L g)]) (h' := h) rfl trivial ?_
    refine Runs.cal (y := mX1_hasBit) (as := [.long (L g), .int (N k)]) (rest := []) (pc' := 13) (cs := []) (v := some (.int (bI (bt (g) k)))) (h1 := h) rfl trivial (by decide) (c_hasBit hg (by omega)) ?_
    show Runs _ _ 13 _ [.int (bI (bt (g) k))] _ _ _ _
    refine Runs.go 1 (cs := []) (pc' := bif decide ((bI (bt (g) k)) = 0) then 18 else 16) (pl' := [some (.long (L g)), none, some (.int (N k))]) (st' := []) (h' := h) rfl trivial ?_
    refine Runs.br (fun z1 => ?_) (fun z1 => ?_)
    · replace z1 : (bt (g) k) = false := (bI_0 _).mp (of_decide_eq_true z1)
      refine Runs.goL 1 (cs := []) (pc' := 21) (pl1 := [some (.long (L g)), none, some (.int (N k + N 1))]) (pl' := [some (.long (L g)), none, some (.int (N (k + 1)))]) (st' := []) (h' := h) rfl trivial (congrArg (fun zq9 => ([some (.long (L g)), none, some (.int zq9)] : PL)) (NA (by omega))) ?_
      refine Runs.go 1 (cs := []) (pc' := 2) (pl' := [some (.long (L g)), none, some (.int (N (k + 1)))]) (st' := []) (h' := h) rfl trivial ?_
      exact Runs.wk (pl' := [some (.long (L g)), none, some (.int (N (k + 1)))]) (st' := []) (h' := h) ⟨Or.inr rfl, Or.inl rfl, Or.inr rfl, trivial⟩ rfl rfl (K1 (I1.trans ((fs_step hk).trans (if_neg (by rw [z1]; decide)))))
    · replace z1 : ¬ ((bt (g) k) = false) := mt (bI_0 _).mpr (of_decide_eq_false z1)
      refine Runs.go 1 (cs := []) (pc' := 17) (pl' := [some (.long (L g)), none, some (.int (N k))]) (st' := [.int (N k)]) (h' := h) rfl trivial ?_
      refine Runs.retE (cs := []) rfl trivial (retI ?_) rfl
      rw [I1.trans ((fs_step hk).trans (if_pos (bT z1)))]; rfl
  · show Runs _ _ 2 _ [] _ _ _ _
    show Runs _ _ 2 [some (.long (L g)), none, some (.int (N 48))] [] h _ _ _
    refine Runs.go 3 (cs := []) (pc' := bif decide ((N 48) ≤ (N 48)) then 24 else 8) (pl' := [some (.long (L g)), none, some (.int (N 48))]) (st' := []) (h' := h) rfl trivial ?_
    refine Runs.brT (decide_eq_true (by decide)) ?_
    refine Runs.go 1 (cs := []) (pc' := 25) (pl' := [some (.long (L g)), none, some (.int (N 48))]) (st' := [.int (-1 : Int32)]) (h' := h) rfl trivial ?_
    refine Runs.retE (cs := []) rfl trivial (retI ?_) rfl
    rw [I1.trans fs_end]; rfl
