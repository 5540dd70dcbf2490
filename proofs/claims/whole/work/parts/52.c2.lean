/-! THE CLASS: counting bits; the first item with more places (gen_c2.py) -/
theorem alt_bit5 (k : Nat) (h : k < 48) : Nat.testBit 6148914691236517205 k = Nat.testBit 5 (k % 4) := by
  revert h
  revert k
  decide +kernel
theorem alt_bit3 (k : Nat) (h : k < 48) : Nat.testBit 3689348814741910323 k = Nat.testBit 3 (k % 4) := by
  revert h
  revert k
  decide +kernel
theorem and_lt48 {x y : Nat} (h : x < 281474976710656) : x &&& y < 281474976710656 := Nat.lt_of_le_of_lt Nat.and_le_left h
theorem bt_nz {a p : Nat} (ha : a < 16) (hp : ¬ p < 4) : bt a p = false := by
  rw [bt_tb]
  exact Nat.testBit_lt_two_pow (Nat.lt_of_lt_of_le ha (show 2 ^ 4 ≤ 2 ^ p from Nat.pow_le_pow_right (by decide) (by omega)))
theorem half5_pk {G : Nat → Nat} (hG : M16 G) : pk G / 2 &&& 6148914691236517205 = pk (fun i => G i / 2 &&& 5) := by
  refine zk_ext (fun j hj => Nat.lt_of_le_of_lt Nat.and_le_right (by decide)) (and_lt48 (Nat.lt_of_le_of_lt (Nat.div_le_self _ _) (zk_lt hG))) (fun i p hi hp => ?_)
  rw [Nat.testBit_and, alt_bit5 _ (by omega), show (4 * i + p) % 4 = p by omega, bt_and, bt_tb, bt_tb, show pk G / 2 = pk G / 2 ^ 1 from rfl, show G i / 2 = G i / 2 ^ 1 from rfl, tb_div, tb_div]
  by_cases h : p = 3
  · subst h
    rw [show Nat.testBit 5 3 = false by decide, Bool.and_false, Bool.and_false]
  · rw [show 4 * i + p + 1 = 4 * i + (p + 1) by omega, zk_at hG hi (by omega), bt_tb]
theorem half5_le (m : Nat) (h : m < 16) : (m / 2 &&& 5) ≤ m := Nat.le_trans Nat.and_le_left (Nat.div_le_self _ _)
def b1F (m : Nat) : Nat := m - (m / 2 &&& 5)
theorem b1_16 {G : Nat → Nat} (hG : M16 G) : M16 (fun i => b1F (G i)) := fun j hj => Nat.lt_of_le_of_lt (Nat.sub_le _ _) (hG j hj)
theorem b1_pk {G : Nat → Nat} (hG : M16 G) : L (pk G) - L (pk (fun i => G i / 2 &&& 5)) = L (pk (fun i => b1F (G i))) := by
  have e : pk G - pk (fun i => G i / 2 &&& 5) = pk (fun i => b1F (G i)) := zk_sub (fun j hj => half5_le (G j) (hG j hj))
  have e2 : pk (fun i => b1F (G i)) + pk (fun i => G i / 2 &&& 5) = pk G := by
    rw [zk_add]
    exact zk_congr (fun j hj => Nat.sub_add_cancel (half5_le (G j) (hG j hj)))
  rw [L_sub (by omega), e]
theorem and3_pk {G : Nat → Nat} (hG : M16 G) : pk G &&& 3689348814741910323 = pk (fun i => G i &&& 3) := by
  refine zk_ext (fun j hj => and_16 (hG j hj)) (and_lt48 (zk_lt hG)) (fun i p hi hp => ?_)
  rw [Nat.testBit_and, alt_bit3 _ (by omega), show (4 * i + p) % 4 = p by omega, bt_and, zk_at hG hi hp, bt_tb 3]
theorem quart3_pk {G : Nat → Nat} (hG : M16 G) : pk G / 4 &&& 3689348814741910323 = pk (fun i => G i / 4 &&& 3) := by
  refine zk_ext (fun j hj => Nat.lt_of_le_of_lt Nat.and_le_right (by decide)) (and_lt48 (Nat.lt_of_le_of_lt (Nat.div_le_self _ _) (zk_lt hG))) (fun i p hi hp => ?_)
  rw [Nat.testBit_and, alt_bit3 _ (by omega), show (4 * i + p) % 4 = p by omega, bt_and, bt_tb, bt_tb, show pk G / 4 = pk G / 2 ^ 2 from rfl, show G i / 4 = G i / 2 ^ 2 from rfl, tb_div, tb_div]
  by_cases h : p < 2
  · rw [show 4 * i + p + 2 = 4 * i + (p + 2) by omega, zk_at hG hi (by omega), bt_tb]
  · rw [show Nat.testBit 3 p = false from Nat.testBit_lt_two_pow (Nat.lt_of_lt_of_le (show 3 < 2 ^ 2 by decide) (Nat.pow_le_pow_right (by decide) (by omega))), Bool.and_false, Bool.and_false]
theorem b2_pt : ∀ m, m < 16 → (b1F m &&& 3) + (b1F m / 4 &&& 3) = pc4 m := by decide
theorem b2_pk {G : Nat → Nat} (hG : M16 G) : pk (fun i => b1F (G i) &&& 3) + pk (fun i => b1F (G i) / 4 &&& 3) = pk (fun i => pc4 (G i)) := by
  rw [zk_add]
  exact zk_congr (fun j hj => b2_pt (G j) (hG j hj))
theorem pc_16 {G : Nat → Nat} : M16 (fun i => pc4 (G i)) := fun j hj => Nat.lt_of_le_of_lt (pc4_le _) (by decide)
/-- six bytes as a number -/
def by6 (a b c d e f : Nat) : Nat := a + 256 * b + 65536 * c + 16777216 * d + 4294967296 * e + 1099511627776 * f
theorem zk_ex (G : Nat → Nat) : pk G = G 0 + 16 * G 1 + 256 * G 2 + 4096 * G 3 + 65536 * G 4 + 1048576 * G 5 + 16777216 * G 6 + 268435456 * G 7 + 4294967296 * G 8 + 68719476736 * G 9 + 1099511627776 * G 10 + 17592186044416 * G 11 := by
  show 0 + G 0 * 16 ^ 0 + G 1 * 16 ^ 1 + G 2 * 16 ^ 2 + G 3 * 16 ^ 3 + G 4 * 16 ^ 4 + G 5 * 16 ^ 5 + G 6 * 16 ^ 6 + G 7 * 16 ^ 7 + G 8 * 16 ^ 8 + G 9 * 16 ^ 9 + G 10 * 16 ^ 10 + G 11 * 16 ^ 11 = _
  omega
theorem nib_bit (k : Nat) (h : k < 48) : Nat.testBit 1085102592571150095 k = decide (k / 4 % 2 = 0) := by
  revert h
  revert k
  decide +kernel
/-- the sums of two, without the odd ones -/
theorem evn_pk {C : Nat → Nat} (hC : M16 C) : pk C &&& 1085102592571150095 = pk (fun i => if i % 2 = 0 then C i else 0) := by
  have h2 : M16 (fun i => if i % 2 = 0 then C i else 0) := fun j hj => by
    show (if j % 2 = 0 then C j else 0) < 16
    split
    · exact hC j hj
    · decide
  refine zk_ext h2 (and_lt48 (zk_lt hC)) (fun i p hi hp => ?_)
  rw [Nat.testBit_and, nib_bit _ (by omega), show (4 * i + p) / 4 % 2 = i % 2 by omega, zk_at hC hi hp]
  by_cases h : i % 2 = 0
  · rw [decide_eq_true h, Bool.and_true, if_pos h]
  · rw [decide_eq_false h, Bool.and_false, if_neg h, bt_zero]
def shC (C : Nat → Nat) (i : Nat) : Nat := if i < 11 then C i + C (i + 1) else C i
theorem sh_pk {C : Nat → Nat} (hC : ∀ j, C j ≤ 4) : pk C + pk C / 16 = pk (shC C) := by
  rw [zk_ex, zk_ex]
  show _ = C 0 + C 1 + 16 * (C 1 + C 2) + 256 * (C 2 + C 3) + 4096 * (C 3 + C 4) + 65536 * (C 4 + C 5) + 1048576 * (C 5 + C 6) + 16777216 * (C 6 + C 7) + 268435456 * (C 7 + C 8) + 4294967296 * (C 8 + C 9) + 68719476736 * (C 9 + C 10) + 1099511627776 * (C 10 + C 11) + 17592186044416 * C 11
  have h0 := hC 0
  have e : (C 0 + 16 * C 1 + 256 * C 2 + 4096 * C 3 + 65536 * C 4 + 1048576 * C 5 + 16777216 * C 6 + 268435456 * C 7 + 4294967296 * C 8 + 68719476736 * C 9 + 1099511627776 * C 10 + 17592186044416 * C 11) / 16 = C 1 + 16 * C 2 + 256 * C 3 + 4096 * C 4 + 65536 * C 5 + 1048576 * C 6 + 16777216 * C 7 + 268435456 * C 8 + 4294967296 * C 9 + 68719476736 * C 10 + 1099511627776 * C 11 := by omega
  rw [e]
  omega
theorem bc_4 {C : Nat → Nat} (hC : ∀ j, C j ≤ 4) : (pk C + pk C / 16) &&& 1085102592571150095 = by6 (C 0 + C 1) (C 2 + C 3) (C 4 + C 5) (C 6 + C 7) (C 8 + C 9) (C 10 + C 11) := by
  have h16 : M16 (shC C) := fun j hj => by
    have := hC j
    have := hC (j + 1)
    unfold shC
    split <;> omega
  rw [sh_pk hC, evn_pk h16, zk_ex]
  unfold by6
  simp [shC]
theorem bc_end {a b c d e f : Nat} (ha : a ≤ 8) (hb : b ≤ 8) (hc : c ≤ 8) (hd : d ≤ 8) (he : e ≤ 8) (hf : f ≤ 8) {x y z w : Nat} (hx : x = by6 a b c d e f) (hy : y = x + x / 256) (hz : z = y + y / 65536) (hw : w = z + z / 4294967296) : w % 128 = a + b + c + d + e + f ∧ w < 281474976710656 := by
  unfold by6 at hx
  have e1 : x / 256 = b + 256 * c + 65536 * d + 16777216 * e + 4294967296 * f := by omega
  have e2 : y = (a + b) + 256 * (b + c) + 65536 * (c + d) + 16777216 * (d + e) + 4294967296 * (e + f) + 1099511627776 * f := by omega
  have e3 : y / 65536 = (c + d) + 256 * (d + e) + 65536 * (e + f) + 16777216 * f := by omega
  have e4 : z = (a + b + c + d) + 256 * (b + c + d + e) + 65536 * (c + d + e + f) + 16777216 * (d + e + f) + 4294967296 * (e + f) + 1099511627776 * f := by omega
  have e5 : z / 4294967296 = (e + f) + 256 * f := by omega
  have e6 : w = (a + b + c + d + e + f) + 256 * ((b + c + d + e + f) + 256 * (c + d + e + f) + 65536 * (d + e + f) + 16777216 * (e + f) + 4294967296 * f) := by omega
  exact ⟨by omega, by omega⟩
def cntF (G : Nat → Nat) : Nat := pc4 (G 0) + pc4 (G 1) + pc4 (G 2) + pc4 (G 3) + pc4 (G 4) + pc4 (G 5) + pc4 (G 6) + pc4 (G 7) + pc4 (G 8) + pc4 (G 9) + pc4 (G 10) + pc4 (G 11)
theorem and127 (a : Nat) : N a &&& N 127 = N (a % 128) := by
  rw [N_and]
  congr 1
  exact Nat.and_two_pow_sub_one_eq_mod a 7
theorem c_lbc {G : Nat → Nat} {h : PH} (hG : M16 G) : Call 0 mJ13_bitCount_95d88 [.long (L (pk G))] h (.inl (some (.int (N (cntF G))))) h 0 := by
  have l1 := zk_lt hG
  have l2 := zk_lt (b1_16 hG)
  have l3 := zk_lt (pc_16 (G := G))
  obtain ⟨x4, hx4⟩ : ∃ x, pk (fun i => pc4 (G i)) / 16 = x := ⟨_, rfl⟩
  have hC : ∀ j, (fun i => pc4 (G i)) j ≤ 4 := fun j => pc4_le (G j)
  obtain ⟨x5, hx6⟩ : ∃ x, x = by6 (pc4 (G 0) + pc4 (G 1)) (pc4 (G 2) + pc4 (G 3)) (pc4 (G 4) + pc4 (G 5)) (pc4 (G 6) + pc4 (G 7)) (pc4 (G 8) + pc4 (G 9)) (pc4 (G 10) + pc4 (G 11)) := ⟨_, rfl⟩
  have hx5 : (pk (fun i => pc4 (G i)) + x4) &&& 1085102592571150095 = x5 := by rw [← hx4, bc_4 hC, hx6]
  obtain ⟨y5, hy5⟩ : ∃ y, y = x5 + x5 / 256 := ⟨_, rfl⟩
  obtain ⟨z5, hz5⟩ : ∃ z, z = y5 + y5 / 65536 := ⟨_, rfl⟩
  obtain ⟨w5, hw5⟩ : ∃ w, w = z5 + z5 / 4294967296 := ⟨_, rfl⟩
  have p0 := pc4_le (G 0)
  have p1 := pc4_le (G 1)
  have p2 := pc4_le (G 2)
  have p3 := pc4_le (G 3)
  have p4 := pc4_le (G 4)
  have p5 := pc4_le (G 5)
  have p6 := pc4_le (G 6)
  have p7 := pc4_le (G 7)
  have p8 := pc4_le (G 8)
  have p9 := pc4_le (G 9)
  have p10 := pc4_le (G 10)
  have p11 := pc4_le (G 11)
  obtain ⟨e8, e7⟩ := bc_end (by omega) (by omega) (by omega) (by omega) (by omega) (by omega) hx6 hy5 hz5 hw5
  have e9 : w5 % 128 = cntF G := by
    rw [e8]
    unfold cntF
    omega
  refine Runs.topJ 4 (cs := []) (pc' := 4) (pl' := [some (.long (L (pk G))), none]) (v := ((L (pk G)).toUInt64 >>> ((N 1 : Int32).toInt64.toUInt64 &&& Int64.toUInt64 63)).toInt64) (v' := L ((pk G) / 2)) (st' := [.long (L (pk G))]) (h' := h) rfl trivial (L_ushr (by omega) (by omega)) ?_
  refine Runs.topJ 2 (cs := []) (pc' := 8) (pl' := [some (.long (L (pk G))), none]) (v := (L ((pk G) / 2)) &&& (L 6148914691236517205)) (v' := L (pk (fun i => G i / 2 &&& 5))) (st' := [.long (L (pk G))]) (h' := h) rfl trivial ((L_and _ _).trans (congrArg L (half5_pk hG))) ?_
  refine Runs.topJ 1 (cs := []) (pc' := 9) (pl' := [some (.long (L (pk G))), none]) (v := (L (pk G)) - (L (pk (fun i => G i / 2 &&& 5)))) (v' := L (pk (fun i => b1F (G i)))) (st' := []) (h' := h) rfl trivial (b1_pk hG) ?_
  refine Runs.topJ 4 (cs := []) (pc' := 15) (pl' := [some (.long (L (pk (fun i => b1F (G i))))), none]) (v := (L (pk (fun i => b1F (G i)))) &&& (L 3689348814741910323)) (v' := L (pk (fun i => b1F (G i) &&& 3))) (st' := []) (h' := h) rfl trivial ((L_and _ _).trans (congrArg L (and3_pk (b1_16 hG)))) ?_
  refine Runs.topJ 3 (cs := []) (pc' := 18) (pl' := [some (.long (L (pk (fun i => b1F (G i))))), none]) (v := ((L (pk (fun i => b1F (G i)))).toUInt64 >>> ((N 2 : Int32).toInt64.toUInt64 &&& Int64.toUInt64 63)).toInt64) (v' := L ((pk (fun i => b1F (G i))) / 4)) (st' := [.long (L (pk (fun i => b1F (G i) &&& 3)))]) (h' := h) rfl trivial (L_ushr (by omega) (by omega)) ?_
  refine Runs.topJ 2 (cs := []) (pc' := 22) (pl' := [some (.long (L (pk (fun i => b1F (G i))))), none]) (v := (L ((pk (fun i => b1F (G i))) / 4)) &&& (L 3689348814741910323)) (v' := L (pk (fun i => b1F (G i) / 4 &&& 3))) (st' := [.long (L (pk (fun i => b1F (G i) &&& 3)))]) (h' := h) rfl trivial ((L_and _ _).trans (congrArg L (quart3_pk (b1_16 hG)))) ?_
  refine Runs.topJ 1 (cs := []) (pc' := 23) (pl' := [some (.long (L (pk (fun i => b1F (G i))))), none]) (v := (L (pk (fun i => b1F (G i) &&& 3))) + (L (pk (fun i => b1F (G i) / 4 &&& 3)))) (v' := L (pk (fun i => pc4 (G i)))) (st' := []) (h' := h) rfl trivial ((L_add _ _).trans (congrArg L (b2_pk hG))) ?_
  refine Runs.topJ 5 (cs := []) (pc' := 28) (pl' := [some (.long (L (pk (fun i => pc4 (G i))))), none]) (v := ((L (pk (fun i => pc4 (G i)))).toUInt64 >>> ((N 4 : Int32).toInt64.toUInt64 &&& Int64.toUInt64 63)).toInt64) (v' := L x4) (st' := [.long (L (pk (fun i => pc4 (G i))))]) (h' := h) rfl trivial ((L_ushr (by omega) (by omega)).trans (congrArg L hx4)) ?_
  refine Runs.topJ 1 (cs := []) (pc' := 29) (pl' := [some (.long (L (pk (fun i => pc4 (G i))))), none]) (v := (L (pk (fun i => pc4 (G i)))) + (L x4)) (v' := L (pk (fun i => pc4 (G i)) + x4)) (st' := []) (h' := h) rfl trivial (L_add _ _) ?_
  refine Runs.topJ 2 (cs := []) (pc' := 33) (pl' := [some (.long (L (pk (fun i => pc4 (G i))))), none]) (v := (L (pk (fun i => pc4 (G i)) + x4)) &&& (L 1085102592571150095)) (v' := L x5) (st' := []) (h' := h) rfl trivial ((L_and _ _).trans (congrArg L hx5)) ?_
  refine Runs.topJ 5 (cs := []) (pc' := 39) (pl' := [some (.long (L x5)), none]) (v := ((L x5).toUInt64 >>> ((N 8 : Int32).toInt64.toUInt64 &&& Int64.toUInt64 63)).toInt64) (v' := L (x5 / 256)) (st' := [.long (L x5)]) (h' := h) rfl trivial (L_ushr (by omega) (by omega)) ?_
  refine Runs.topJ 1 (cs := []) (pc' := 40) (pl' := [some (.long (L x5)), none]) (v := (L x5) + (L (x5 / 256))) (v' := L y5) (st' := []) (h' := h) rfl trivial ((L_add _ _).trans (congrArg L hy5.symm)) ?_
  refine Runs.topJ 5 (cs := []) (pc' := 46) (pl' := [some (.long (L y5)), none]) (v := ((L y5).toUInt64 >>> ((N 16 : Int32).toInt64.toUInt64 &&& Int64.toUInt64 63)).toInt64) (v' := L (y5 / 65536)) (st' := [.long (L y5)]) (h' := h) rfl trivial (L_ushr (by omega) (by omega)) ?_
  refine Runs.topJ 1 (cs := []) (pc' := 47) (pl' := [some (.long (L y5)), none]) (v := (L y5) + (L (y5 / 65536))) (v' := L z5) (st' := []) (h' := h) rfl trivial ((L_add _ _).trans (congrArg L hz5.symm)) ?_
  refine Runs.topJ 5 (cs := []) (pc' := 53) (pl' := [some (.long (L z5)), none]) (v := ((L z5).toUInt64 >>> ((N 32 : Int32).toInt64.toUInt64 &&& Int64.toUInt64 63)).toInt64) (v' := L (z5 / 4294967296)) (st' := [.long (L z5)]) (h' := h) rfl trivial (L_ushr (by omega) (by omega)) ?_
  refine Runs.topJ 1 (cs := []) (pc' := 54) (pl' := [some (.long (L z5)), none]) (v := (L z5) + (L (z5 / 4294967296))) (v' := L w5) (st' := []) (h' := h) rfl trivial ((L_add _ _).trans (congrArg L hw5.symm)) ?_
  refine Runs.topI 3 (cs := []) (pc' := 57) (pl' := [some (.long (L w5)), none]) (v := (L w5 : Int64).toInt32) (v' := N w5) (st' := []) (h' := h) rfl trivial (L_toN _) ?_
  refine Runs.topI 2 (cs := []) (pc' := 60) (pl' := [some (.long (L w5)), none]) (v := (N w5) &&& (N 127)) (v' := N (cntF G)) (st' := []) (h' := h) rfl trivial ((and127 _).trans (congrArg N e9)) ?_
  exact Runs.retE (cs := []) rfl trivial (retI rfl) rfl
theorem ib_3 : ∀ m, m < 16 → ((N m).toUInt32 >>> ((N 1).toUInt32 &&& Int32.toUInt32 31)).toInt32 = N (m / 2) := by decide +kernel
theorem ib_7 : ∀ m, m < 16 → (N (m / 2)) &&& (N 1431655765) = N (m / 2 &&& 5) := by decide +kernel
theorem ib_8 : ∀ m, m < 16 → (N m) - (N (m / 2 &&& 5)) = N (b1F m) := by decide +kernel
theorem ib_14 : ∀ m, m < 16 → (N (b1F m)) &&& (N 858993459) = N (b1F m &&& 3) := by decide +kernel
theorem ib_17 : ∀ m, m < 16 → ((N (b1F m)).toUInt32 >>> ((N 2).toUInt32 &&& Int32.toUInt32 31)).toInt32 = N (b1F m / 4) := by decide +kernel
theorem ib_21 : ∀ m, m < 16 → (N (b1F m / 4)) &&& (N 858993459) = N (b1F m / 4 &&& 3) := by decide +kernel
theorem ib_22 : ∀ m, m < 16 → (N (b1F m &&& 3)) + (N (b1F m / 4 &&& 3)) = N (pc4 m) := by decide +kernel
theorem ib_27 : ∀ m, m < 16 → ((N (pc4 m)).toUInt32 >>> ((N 4).toUInt32 &&& Int32.toUInt32 31)).toInt32 = N (0) := by decide +kernel
theorem ib_28 : ∀ m, m < 16 → (N (pc4 m)) + (N 0) = N (pc4 m) := by decide +kernel
theorem ib_32 : ∀ m, m < 16 → (N (pc4 m)) &&& (N 252645135) = N (pc4 m) := by decide +kernel
theorem ib_38 : ∀ m, m < 16 → ((N (pc4 m)).toUInt32 >>> ((N 8).toUInt32 &&& Int32.toUInt32 31)).toInt32 = N (0) := by decide +kernel
theorem ib_39 : ∀ m, m < 16 → (N (pc4 m)) + (N 0) = N (pc4 m) := by decide +kernel
theorem ib_45 : ∀ m, m < 16 → ((N (pc4 m)).toUInt32 >>> ((N 16).toUInt32 &&& Int32.toUInt32 31)).toInt32 = N (0) := by decide +kernel
theorem ib_46 : ∀ m, m < 16 → (N (pc4 m)) + (N 0) = N (pc4 m) := by decide +kernel
theorem ib_51 : ∀ m, m < 16 → (N (pc4 m)) &&& (N 63) = N (pc4 m) := by decide +kernel
theorem c_ibc {m : Nat} {h : PH} (hm : m < 16) : Call 0 mJ6_bitCount_0f7a4 [.int (N m)] h (.inl (some (.int (N (pc4 m))))) h 0 := by
  refine Runs.topI 4 (cs := []) (pc' := 4) (pl' := [some (.int (N m))]) (v := ((N m).toUInt32 >>> ((N 1).toUInt32 &&& Int32.toUInt32 31)).toInt32) (v' := N (m / 2)) (st' := [.int (N m)]) (h' := h) rfl trivial (ib_3 m hm) ?_
  refine Runs.topI 2 (cs := []) (pc' := 8) (pl' := [some (.int (N m))]) (v := (N (m / 2)) &&& (N 1431655765)) (v' := N (m / 2 &&& 5)) (st' := [.int (N m)]) (h' := h) rfl trivial (ib_7 m hm) ?_
  refine Runs.topI 1 (cs := []) (pc' := 9) (pl' := [some (.int (N m))]) (v := (N m) - (N (m / 2 &&& 5))) (v' := N (b1F m)) (st' := []) (h' := h) rfl trivial (ib_8 m hm) ?_
  refine Runs.topI 4 (cs := []) (pc' := 15) (pl' := [some (.int (N (b1F m)))]) (v := (N (b1F m)) &&& (N 858993459)) (v' := N (b1F m &&& 3)) (st' := []) (h' := h) rfl trivial (ib_14 m hm) ?_
  refine Runs.topI 3 (cs := []) (pc' := 18) (pl' := [some (.int (N (b1F m)))]) (v := ((N (b1F m)).toUInt32 >>> ((N 2).toUInt32 &&& Int32.toUInt32 31)).toInt32) (v' := N (b1F m / 4)) (st' := [.int (N (b1F m &&& 3))]) (h' := h) rfl trivial (ib_17 m hm) ?_
  refine Runs.topI 2 (cs := []) (pc' := 22) (pl' := [some (.int (N (b1F m)))]) (v := (N (b1F m / 4)) &&& (N 858993459)) (v' := N (b1F m / 4 &&& 3)) (st' := [.int (N (b1F m &&& 3))]) (h' := h) rfl trivial (ib_21 m hm) ?_
  refine Runs.topI 1 (cs := []) (pc' := 23) (pl' := [some (.int (N (b1F m)))]) (v := (N (b1F m &&& 3)) + (N (b1F m / 4 &&& 3))) (v' := N (pc4 m)) (st' := []) (h' := h) rfl trivial (ib_22 m hm) ?_
  refine Runs.topI 5 (cs := []) (pc' := 28) (pl' := [some (.int (N (pc4 m)))]) (v := ((N (pc4 m)).toUInt32 >>> ((N 4).toUInt32 &&& Int32.toUInt32 31)).toInt32) (v' := N 0) (st' := [.int (N (pc4 m))]) (h' := h) rfl trivial (ib_27 m hm) ?_
  refine Runs.topI 1 (cs := []) (pc' := 29) (pl' := [some (.int (N (pc4 m)))]) (v := (N (pc4 m)) + (N 0)) (v' := N (pc4 m)) (st' := []) (h' := h) rfl trivial (ib_28 m hm) ?_
  refine Runs.topI 2 (cs := []) (pc' := 33) (pl' := [some (.int (N (pc4 m)))]) (v := (N (pc4 m)) &&& (N 252645135)) (v' := N (pc4 m)) (st' := []) (h' := h) rfl trivial (ib_32 m hm) ?_
  refine Runs.topI 5 (cs := []) (pc' := 39) (pl' := [some (.int (N (pc4 m)))]) (v := ((N (pc4 m)).toUInt32 >>> ((N 8).toUInt32 &&& Int32.toUInt32 31)).toInt32) (v' := N 0) (st' := [.int (N (pc4 m))]) (h' := h) rfl trivial (ib_38 m hm) ?_
  refine Runs.topI 1 (cs := []) (pc' := 40) (pl' := [some (.int (N (pc4 m)))]) (v := (N (pc4 m)) + (N 0)) (v' := N (pc4 m)) (st' := []) (h' := h) rfl trivial (ib_39 m hm) ?_
  refine Runs.topI 5 (cs := []) (pc' := 46) (pl' := [some (.int (N (pc4 m)))]) (v := ((N (pc4 m)).toUInt32 >>> ((N 16).toUInt32 &&& Int32.toUInt32 31)).toInt32) (v' := N 0) (st' := [.int (N (pc4 m))]) (h' := h) rfl trivial (ib_45 m hm) ?_
  refine Runs.topI 1 (cs := []) (pc' := 47) (pl' := [some (.int (N (pc4 m)))]) (v := (N (pc4 m)) + (N 0)) (v' := N (pc4 m)) (st' := []) (h' := h) rfl trivial (ib_46 m hm) ?_
  refine Runs.topI 4 (cs := []) (pc' := 52) (pl' := [some (.int (N (pc4 m)))]) (v := (N (pc4 m)) &&& (N 63)) (v' := N (pc4 m)) (st' := []) (h' := h) rfl trivial (ib_51 m hm) ?_
  exact Runs.retE (cs := []) rfl trivial (retI rfl) rfl
theorem each_pk {G : Nat → Nat} : pk (fun i => oneF (G i)) &&& 18764998447377 = pk (fun i => (decide (pc4 (G i) = 1)).toNat) := by
  refine zk_ext (fun j hj => ?_) (and_lt48 (zk_lt (one_16 G))) (fun i p hi hp => ?_)
  · show (decide (pc4 (G j) = 1)).toNat < 16
    cases decide (pc4 (G j) = 1) <;> decide
  · rw [Nat.testBit_and, zk_at (one_16 G) hi hp, each_bit, decide_eq_true (show 4 * i + p < 48 by omega), Bool.true_and, show (4 * i + p) % 4 = p by omega]
    unfold oneF
    by_cases h : pc4 (G i) = 1
    · rw [if_pos h, decide_eq_true h, bt_15 hp, Bool.true_and]
      show _ = bt (2 ^ 0) p
      rw [bt_pow]
      exact decide_eq_decide.mpr ⟨fun z => z.symm, fun z => z.symm⟩
    · rw [if_neg h, decide_eq_false h, bt_zero, Bool.false_and]
      exact (bt_zero p).symm
theorem one_each (G : Nat → Nat) : M16 (fun i => (decide (pc4 (G i) = 1)).toNat) := fun j hj => by
  show (decide (pc4 (G j) = 1)).toNat < 16
  cases decide (pc4 (G j) = 1) <;> decide
/-- how many items have one place -/
def onesF (G : Nat → Nat) : Nat := cntF (fun i => (decide (pc4 (G i) = 1)).toNat)
theorem c_countWithOne {G : Nat → Nat} {h : PH} (hG : M16 G) : Call 2 mX1_countWithOne [.long (L (pk G))] h (.inl (some (.int (N (onesF G))))) h 0 := by
  refine Runs.go 1 (cs := []) (pc' := 1) (pl' := [some (.long (L (pk G))), none]) (st' := [.long (L (pk G))]) (h' := h) rfl trivial ?_
  refine Runs.cal (y := mX1_itemsWithOne) (as := [.long (L (pk G))]) (rest := []) (pc' := 4) (cs := []) (v := some (.long (L (pk (fun i => oneF (G i)))))) (h1 := h) rfl trivial (by decide) (c_itemsWithOne hG) ?_
  show Runs _ _ 4 _ [.long (L (pk (fun i => oneF (G i))))] _ _ _ _
  refine Runs.topJ 2 (cs := []) (pc' := 8) (pl' := [some (.long (L (pk G))), none]) (v := (L (pk (fun i => oneF (G i)))) &&& (L 18764998447377)) (v' := L (pk (fun i => (decide (pc4 (G i) = 1)).toNat))) (st' := []) (h' := h) rfl trivial ((L_and _ _).trans (congrArg L each_pk)) ?_
  refine Runs.cal (y := mJ13_bitCount_95d88) (as := [.long (L (pk (fun i => (decide (pc4 (G i) = 1)).toNat)))]) (rest := []) (pc' := 11) (cs := []) (v := some (.int (N (cntF (fun i => (decide (pc4 (G i) = 1)).toNat))))) (h1 := h) rfl trivial (by decide) (c_lbc (one_each G)) ?_
  show Runs _ _ 11 _ [.int (N (cntF (fun i => (decide (pc4 (G i) = 1)).toNat)))] _ _ _ _
  exact Runs.retE (cs := []) rfl trivial (retI rfl) rfl
theorem fs_some {f : Nat → Bool} {j : Nat} : ∀ {n i : Nat}, fs f i n = some j ↔ i ≤ j ∧ j < i + n ∧ f j = true ∧ ∀ t, i ≤ t → t < j → f t = false := by
  intro n
  induction n with
  | zero =>
    intro i
    constructor
    · intro h
      cases h
    · rintro ⟨h1, h2, -⟩
      omega
  | succ n ih =>
    intro i
    rw [fs]
    by_cases h : f i = true
    · rw [if_pos h]
      constructor
      · intro e
        obtain rfl := Option.some.inj e
        exact ⟨Nat.le_refl _, by omega, h, fun t h1 h2 => by omega⟩
      · rintro ⟨h1, h2, h3, h4⟩
        by_cases e : i = j
        · rw [e]
        · have := h4 i (Nat.le_refl _) (by omega)
          rw [h] at this
          cases this
    · rw [if_neg h, ih]
      constructor
      · rintro ⟨h1, h2, h3, h4⟩
        refine ⟨by omega, by omega, h3, fun t h5 h6 => ?_⟩
        by_cases e : t = i
        · rw [e]
          exact bF h
        · exact h4 t (by omega) h6
      · rintro ⟨h1, h2, h3, h4⟩
        have hne : i ≠ j := fun e => h (by rw [e]; exact h3)
        exact ⟨by omega, by omega, h3, fun t h5 h6 => h4 t (by omega) h6⟩
theorem fs_none {f : Nat → Bool} : ∀ {n i : Nat}, fs f i n = none ↔ ∀ t, i ≤ t → t < i + n → f t = false := by
  intro n
  induction n with
  | zero =>
    intro i
    constructor
    · intro _ t h1 h2
      omega
    · intro _
      rfl
  | succ n ih =>
    intro i
    rw [fs]
    by_cases h : f i = true
    · rw [if_pos h]
      constructor
      · intro e
        cases e
      · intro e
        have := e i (Nat.le_refl _) (by omega)
        rw [h] at this
        cases this
    · rw [if_neg h, ih]
      constructor
      · intro e t h1 h2
        by_cases z : t = i
        · rw [z]
          exact bF h
        · exact e t (by omega) (by omega)
      · intro e t h1 h2
        exact e t (by omega) (by omega)
/-- the first item that has more places than one -/
def fmO (G : Nat → Nat) : Option Nat := fs (fun i => decide (2 ≤ pc4 (G i))) 0 12
theorem more_bt {G : Nat → Nat} {i p : Nat} (hi : i < 12) (hp : p < 4) : bt (pk (fun i => moreF (G i))) (4 * i + p) = decide (2 ≤ pc4 (G i)) := by
  rw [zk_bt (more_16 G) hi hp]
  unfold moreF
  by_cases h : 2 ≤ pc4 (G i)
  · rw [if_pos h, decide_eq_true h, bt_15 hp]
  · rw [if_neg h, decide_eq_false h, bt_zero]
theorem more_bt' {G : Nat → Nat} {k : Nat} (hk : k < 48) : bt (pk (fun i => moreF (G i))) k = decide (2 ≤ pc4 (G (k / 4))) := by
  have := more_bt (G := G) (i := k / 4) (p := k % 4) (by omega) (by omega)
  rw [Nat.div_add_mod] at this
  exact this
theorem fs_more {G : Nat → Nat} : fs (bt (pk (fun i => moreF (G i)))) 0 48 = (fmO G).map (fun i => 4 * i) := by
  unfold fmO
  cases h : fs (fun i => decide (2 ≤ pc4 (G i))) 0 12 with
  | none =>
    rw [fs_none] at h
    show _ = none
    rw [fs_none]
    intro t _ ht
    rw [more_bt' (by omega)]
    exact h (t / 4) (by omega) (by omega)
  | some i =>
    rw [fs_some] at h
    obtain ⟨-, h2, h3, h4⟩ := h
    show _ = some (4 * i)
    rw [fs_some]
    refine ⟨by omega, by omega, ?_, fun t _ ht => ?_⟩
    · rw [more_bt' (by omega), show 4 * i / 4 = i by omega]
      exact h3
    · rw [more_bt' (by omega)]
      exact h4 (t / 4) (by omega) (by omega)
theorem N_nm1 {k : Nat} (hk : k < 100) : ¬ N k = (-1 : Int32) := by
  intro z
  have h := congrArg Int32.toInt z
  rw [N_toInt (by omega)] at h
  have : (-1 : Int32).toInt = -1 := by decide
  omega
theorem c_firstWithMore0 {G : Nat → Nat} {h : PH} (hG : M16 G) (hf : fmO G = none) : Call 2 mX1_firstWithMore [.long (L (pk G))] h (.inl (some (.int (-1 : Int32)))) h 0 := by
  refine Runs.go 1 (cs := []) (pc' := 1) (pl' := [some (.long (L (pk G))), none, none]) (st' := [.long (L (pk G))]) (h' := h) rfl trivial ?_
  refine Runs.cal (y := mX1_itemsWithMore) (as := [.long (L (pk G))]) (rest := []) (pc' := 4) (cs := []) (v := some (.long (L (pk (fun i => moreF (G i)))))) (h1 := h) rfl trivial (by decide) (c_itemsWithMore hG) ?_
  show Runs _ _ 4 _ [.long (L (pk (fun i => moreF (G i))))] _ _ _ _
  refine Runs.cal (y := mX1_leastBit) (as := [.long (L (pk (fun i => moreF (G i))))]) (rest := []) (pc' := 7) (cs := []) (v := some (.int (optI (fs (bt (pk (fun i => moreF (G i)))) 0 48)))) (h1 := h) rfl trivial (by decide) (c_leastBit (zk_lt (more_16 G))) ?_
  show Runs _ _ 7 _ [.int (optI (fs (bt (pk (fun i => moreF (G i)))) 0 48))] _ _ _ _
  rw [show optI (fs (bt (pk (fun i => moreF (G i)))) 0 48) = (-1 : Int32) by rw [fs_more, hf]; rfl]
  refine Runs.go 4 (cs := []) (pc' := bif decide (¬ (-1 : Int32) = (-1 : Int32)) then 17 else 13) (pl' := [some (.long (L (pk G))), none, some (.int (-1 : Int32))]) (st' := []) (h' := h) rfl trivial ?_
  refine Runs.brF (decide_eq_false (by decide)) ?_
  refine Runs.go 2 (cs := []) (pc' := 20) (pl' := [some (.long (L (pk G))), none, some (.int (-1 : Int32))]) (st' := [.int (-1 : Int32)]) (h' := h) rfl trivial ?_
  exact Runs.retE (cs := []) rfl trivial (retI rfl) rfl
theorem c_firstWithMore1 {G : Nat → Nat} {i : Nat} {h : PH} (hG : M16 G) (hf : fmO G = some i) (hi : i < 12) : Call 2 mX1_firstWithMore [.long (L (pk G))] h (.inl (some (.int (N i)))) h 0 := by
  refine Runs.go 1 (cs := []) (pc' := 1) (pl' := [some (.long (L (pk G))), none, none]) (st' := [.long (L (pk G))]) (h' := h) rfl trivial ?_
  refine Runs.cal (y := mX1_itemsWithMore) (as := [.long (L (pk G))]) (rest := []) (pc' := 4) (cs := []) (v := some (.long (L (pk (fun i => moreF (G i)))))) (h1 := h) rfl trivial (by decide) (c_itemsWithMore hG) ?_
  show Runs _ _ 4 _ [.long (L (pk (fun i => moreF (G i))))] _ _ _ _
  refine Runs.cal (y := mX1_leastBit) (as := [.long (L (pk (fun i => moreF (G i))))]) (rest := []) (pc' := 7) (cs := []) (v := some (.int (optI (fs (bt (pk (fun i => moreF (G i)))) 0 48)))) (h1 := h) rfl trivial (by decide) (c_leastBit (zk_lt (more_16 G))) ?_
  show Runs _ _ 7 _ [.int (optI (fs (bt (pk (fun i => moreF (G i)))) 0 48))] _ _ _ _
  rw [show optI (fs (bt (pk (fun i => moreF (G i)))) 0 48) = N (4 * i) by rw [fs_more, hf]; rfl]
  refine Runs.go 4 (cs := []) (pc' := bif decide (¬ (N (4 * i)) = (-1 : Int32)) then 17 else 13) (pl' := [some (.long (L (pk G))), none, some (.int (N (4 * i)))]) (st' := []) (h' := h) rfl trivial ?_
  refine Runs.brT (decide_eq_true (fun zq9 => absurd (Iff.rfl.mp zq9) (N_nm1 (by omega)))) ?_
  refine Runs.topI 3 (cs := [¬ (N 4) = 0]) (pc' := 20) (pl' := [some (.long (L (pk G))), none, some (.int (N (4 * i)))]) (v := (N (4 * i)) / (N 4)) (v' := N ((4 * i) / 4)) (st' := []) (h' := h) rfl ⟨(by decide), trivial⟩ (N_div (by omega) (by omega)) ?_
  exact Runs.retE (cs := []) rfl trivial (retI (congrArg N (by omega))) rfl
