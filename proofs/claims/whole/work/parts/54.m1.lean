/-! THE CLASS: its clues against those of the reference (gen_m1.py) -/
/-- four bits as a mask -/
def msk4 (b : Nat → Bool) : Nat := (b 0).toNat + 2 * (b 1).toNat + 4 * (b 2).toNat + 8 * (b 3).toNat
theorem msk4_16 (b : Nat → Bool) : msk4 b < 16 := by
  unfold msk4
  generalize b 0 = c0
  generalize b 1 = c1
  generalize b 2 = c2
  generalize b 3 = c3
  revert c0 c1 c2 c3
  decide
theorem msk4_bt {b : Nat → Bool} {p : Nat} (hp : p < 4) : bt (msk4 b) p = b p := by
  have e : p = 0 ∨ p = 1 ∨ p = 2 ∨ p = 3 := by omega
  unfold bt msk4
  rcases e with rfl | rfl | rfl | rfl
  all_goals
    generalize b 0 = c0
    generalize b 1 = c1
    generalize b 2 = c2
    generalize b 3 = c3
    revert c0 c1 c2 c3
    decide
/-- a clue of the reference as the class holds it -/
def ecl (S : Nat → Nat) (k : Nat) : Nat := if S (4 * k + 1) = 4 ∨ S (4 * k + 1) = 5 then encC (S (4 * k + 1)) (S (4 * k + 2)) 15 15 (S (4 * k + 3)) else encC (S (4 * k + 1)) (S (4 * k + 2)) (S (4 * k + 3)) (if S (4 * k + 1) = 6 then S (4 * k + 4) else 15) 15
/-- what a clue rules out of a grid -/
def ruC (S f : Nat → Nat) (k : Nat) : Nat → Nat := fun i => if i < 12 then msk4 (fun p => bt (f i) p && rul S f i p k) else 0
theorem ruC_16 (S f : Nat → Nat) (k : Nat) : M16 (ruC S f k) := fun j hj => by
  rw [ruC, if_pos hj]
  exact msk4_16 _
theorem ruC_z (S f : Nat → Nat) (k : Nat) : Z12 (ruC S f k) := fun j hj => if_neg (by omega)
theorem ruC_bt {S f : Nat → Nat} {k i p : Nat} (hi : i < 12) (hp : p < 4) : bt (ruC S f k i) p = (bt (f i) p && rul S f i p k) := by
  rw [ruC, if_pos hi, msk4_bt hp]
theorem N_eqd {a b : Nat} (ha : a < 100) (hb : b < 100) : decide (N a = N b) = decide (b = a) := decide_eq_decide.mpr ((N_eq (by omega) (by omega)).trans ⟨fun z => z.symm, fun z => z.symm⟩)
theorem nm1d {a : Nat} (ha : a < 100) : decide ((-1 : Int32) = N a) = false := decide_eq_false (fun z => N_nm1 ha z.symm)
theorem ofB_1 {S : Nat → Nat} {k i : Nat} (hs : S (4 * k + 1) = 4 ∨ S (4 * k + 1) = 5) (hi : i < 12) (hx : S (4 * k + 2) < 12) : ofB S k i = decide (i = S (4 * k + 2)) := by
  have e0 : itmI S k 0 = N (S (4 * k + 2)) := rfl
  have e1 : itmI S k 1 = -1 := by
    unfold itmI hasP
    rcases hs with h | h <;> rw [h] <;> rfl
  have e2 : itmI S k 2 = -1 := by
    unfold itmI hasP
    rcases hs with h | h <;> rw [h] <;> rfl
  unfold ofB
  rw [e0, e1, e2, N_eqd (by omega) (by omega), nm1d (by omega), Bool.or_false, Bool.or_false]
theorem ofB_2 {S : Nat → Nat} {k i : Nat} (hs : S (4 * k + 1) < 4) (hi : i < 12) (hx : S (4 * k + 2) < 12) (hy : S (4 * k + 3) < 12) : ofB S k i = (decide (i = S (4 * k + 2)) || decide (i = S (4 * k + 3))) := by
  have e0 : itmI S k 0 = N (S (4 * k + 2)) := rfl
  have e1 : itmI S k 1 = N (S (4 * k + 3)) := by
    unfold itmI hasP
    rw [decide_eq_false (show ¬ S (4 * k + 1) = 4 by omega), decide_eq_false (show ¬ S (4 * k + 1) = 5 by omega)]
    rfl
  have e2 : itmI S k 2 = -1 := by
    unfold itmI hasP
    rw [decide_eq_false (show ¬ S (4 * k + 1) = 6 by omega)]
    rfl
  unfold ofB
  rw [e0, e1, e2, N_eqd (by omega) (by omega), N_eqd (by omega) (by omega), nm1d (by omega), Bool.or_false]
theorem ofB_3 {S : Nat → Nat} {k i : Nat} (hs : S (4 * k + 1) = 6) (hi : i < 12) (hx : S (4 * k + 2) < 12) (hy : S (4 * k + 3) < 12) (hz : S (4 * k + 4) < 12) : ofB S k i = (decide (i = S (4 * k + 2)) || decide (i = S (4 * k + 3)) || decide (i = S (4 * k + 4))) := by
  have e0 : itmI S k 0 = N (S (4 * k + 2)) := rfl
  have e1 : itmI S k 1 = N (S (4 * k + 3)) := by
    unfold itmI hasP
    rw [hs]
    rfl
  have e2 : itmI S k 2 = N (S (4 * k + 4)) := by
    unfold itmI hasP
    rw [hs]
    rfl
  unfold ofB
  rw [e0, e1, e2, N_eqd (by omega) (by omega), N_eqd (by omega) (by omega), N_eqd (by omega) (by omega)]
/-- a clue of two items holds, by the other's places -/
def hl0 (so m pl : Nat) : Bool := anyN (fun p => decide (p = pl) && anyN (fun q => bt m q && fitB so p q) 4) 4
def hl1 (so m pl : Nat) : Bool := anyN (fun p => bt m p && anyN (fun q => decide (q = pl) && fitB so p q) 4) 4
def hl6a (m n pl : Nat) : Bool := anyN (fun p => decide (p = pl) && anyN (fun q => bt m q && anyN (fun r => bt n r && (decide (p = q) || decide (p = r))) 4) 4) 4
def hl6b (m n pl : Nat) : Bool := anyN (fun p => bt m p && anyN (fun q => decide (q = pl) && anyN (fun r => bt n r && (decide (p = q) || decide (p = r))) 4) 4) 4
def hl6c (m n pl : Nat) : Bool := anyN (fun p => bt m p && anyN (fun q => bt n q && anyN (fun r => decide (r = pl) && (decide (p = q) || decide (p = r))) 4) 4) 4
theorem hld_0 {S f : Nat → Nat} {k pl : Nat} (hs : S (4 * k + 1) < 4) (hxy : ¬ S (4 * k + 3) = S (4 * k + 2)) : hld S f k (S (4 * k + 2)) pl = hl0 (S (4 * k + 1)) (f (S (4 * k + 3))) pl := by
  unfold hld hl0
  rw [if_neg (by omega), if_neg (by omega)]
  congr 1
  funext p
  unfold hP
  rw [oneB, if_pos rfl]
  congr 2
  funext q
  unfold hQ
  rw [oneB, if_neg (fun z => hxy z.symm), if_neg (by omega)]
theorem hld_1 {S f : Nat → Nat} {k pl : Nat} (hs : S (4 * k + 1) < 4) (hxy : ¬ S (4 * k + 3) = S (4 * k + 2)) : hld S f k (S (4 * k + 3)) pl = hl1 (S (4 * k + 1)) (f (S (4 * k + 2))) pl := by
  unfold hld hl1
  rw [if_neg (by omega), if_neg (by omega)]
  congr 1
  funext p
  unfold hP
  rw [oneB, if_neg hxy]
  congr 2
  funext q
  unfold hQ
  rw [oneB, if_pos rfl, if_neg (by omega)]
theorem hld_6a {S f : Nat → Nat} {k pl : Nat} (hs : S (4 * k + 1) = 6) (hxy : ¬ S (4 * k + 3) = S (4 * k + 2)) (hxz : ¬ S (4 * k + 4) = S (4 * k + 2)) : hld S f k (S (4 * k + 2)) pl = hl6a (f (S (4 * k + 3))) (f (S (4 * k + 4))) pl := by
  unfold hld hl6a
  rw [if_neg (by omega), if_neg (by omega)]
  congr 1
  funext p
  unfold hP
  rw [oneB, if_pos rfl]
  congr 2
  funext q
  unfold hQ
  rw [oneB, if_neg (fun z => hxy z.symm), if_pos hs]
  congr 2
  funext r
  unfold hR
  rw [oneB, if_neg (fun z => hxz z.symm)]
theorem hld_6b {S f : Nat → Nat} {k pl : Nat} (hs : S (4 * k + 1) = 6) (hxy : ¬ S (4 * k + 3) = S (4 * k + 2)) (hyz : ¬ S (4 * k + 4) = S (4 * k + 3)) : hld S f k (S (4 * k + 3)) pl = hl6b (f (S (4 * k + 2))) (f (S (4 * k + 4))) pl := by
  unfold hld hl6b
  rw [if_neg (by omega), if_neg (by omega)]
  congr 1
  funext p
  unfold hP
  rw [oneB, if_neg hxy]
  congr 2
  funext q
  unfold hQ
  rw [oneB, if_pos rfl, if_pos hs]
  congr 2
  funext r
  unfold hR
  rw [oneB, if_neg (fun z => hyz z.symm)]
theorem hld_6c {S f : Nat → Nat} {k pl : Nat} (hs : S (4 * k + 1) = 6) (hxz : ¬ S (4 * k + 4) = S (4 * k + 2)) (hyz : ¬ S (4 * k + 4) = S (4 * k + 3)) : hld S f k (S (4 * k + 4)) pl = hl6c (f (S (4 * k + 2))) (f (S (4 * k + 3))) pl := by
  unfold hld hl6c
  rw [if_neg (by omega), if_neg (by omega)]
  congr 1
  funext p
  unfold hP
  rw [oneB, if_neg hxz]
  congr 2
  funext q
  unfold hQ
  rw [oneB, if_neg hyz, if_pos hs]
  congr 2
  funext r
  unfold hR
  rw [oneB, if_pos rfl]
theorem cho_00 : ∀ m, m < 16 → ∀ p, p < 4 → bt (m) p = hl0 0 m p := by decide +kernel
theorem cho_01 : ∀ m, m < 16 → ∀ p, p < 4 → bt (m) p = hl1 0 m p := by decide +kernel
theorem cho_10 : ∀ m, m < 16 → ∀ p, p < 4 → bt (elsF m) p = hl0 1 m p := by decide +kernel
theorem cho_11 : ∀ m, m < 16 → ∀ p, p < 4 → bt (elsF m) p = hl1 1 m p := by decide +kernel
theorem cho_20 : ∀ m, m < 16 → ∀ p, p < 4 → bt (((m / 2 ||| m / 4) ||| m / 8)) p = hl0 2 m p := by decide +kernel
theorem cho_21 : ∀ m, m < 16 → ∀ p, p < 4 → bt (((2 * m ||| 4 * m) ||| 8 * m) % 16) p = hl1 2 m p := by decide +kernel
theorem cho_30 : ∀ m, m < 16 → ∀ p, p < 4 → bt ((2 * m ||| m / 2) % 16) p = hl0 3 m p := by decide +kernel
theorem cho_31 : ∀ m, m < 16 → ∀ p, p < 4 → bt ((2 * m ||| m / 2) % 16) p = hl1 3 m p := by decide +kernel
theorem cho_60 : ∀ m, m < 16 → ∀ n, n < 16 → ∀ p, p < 4 → bt (eitF 0 0 m n) p = hl6a m n p := by decide +kernel
theorem cho_61 : ∀ m, m < 16 → ∀ n, n < 16 → ∀ p, p < 4 → bt (eitF 1 m 0 n) p = hl6b m n p := by decide +kernel
theorem cho_62 : ∀ m, m < 16 → ∀ n, n < 16 → ∀ p, p < 4 → bt (eitF 2 m n 0) p = hl6c m n p := by decide +kernel
theorem cho_6a {w m n p : Nat} (hm : m < 16) (hn : n < 16) (hp : p < 4) : bt (eitF 0 w m n) p = hl6a m n p := cho_60 m hm n hn p hp
theorem cho_6b {w m n p : Nat} (hm : m < 16) (hn : n < 16) (hp : p < 4) : bt (eitF 1 m w n) p = hl6b m n p := cho_61 m hm n hn p hp
theorem cho_6c {w m n p : Nat} (hm : m < 16) (hn : n < 16) (hp : p < 4) : bt (eitF 2 m n w) p = hl6c m n p := cho_62 m hm n hn p hp
theorem rul_of {S f : Nat → Nat} {i p k c : Nat} (ho : ofB S k i = true) (hc : bt c p = hld S f k i p) : bt (dif (f i) c) p = (bt (f i) p && rul S f i p k) := by
  rw [bt_dif, rul, ho, Bool.true_and, hc]
theorem pt1 {S f : Nat → Nat} {k x l0 : Nat} (h0 : l0 < 16) (hl0 : ∀ p, p < 4 → bt l0 p = (bt (f x) p && rul S f x p k)) (hno : ∀ i, i < 12 → ¬ i = x → ofB S k i = false) : ∀ i, i < 12 → sgl x l0 i = ruC S f k i := fun i hi => by
  unfold sgl
  by_cases e : i = x
  · subst e
    rw [if_pos rfl]
    exact m16_ext h0 (ruC_16 S f k i hi) (fun p hp => by rw [ruC_bt hi hp, hl0 p hp])
  · rw [if_neg e]
    exact m16_ext (by decide) (ruC_16 S f k i hi) (fun p hp => by rw [ruC_bt hi hp, rul, hno i hi e, bt_zero, Bool.false_and, Bool.and_false])
theorem pt2 {S f : Nat → Nat} {k x y l0 l1 : Nat} (hxy : ¬ y = x) (h0 : l0 < 16) (h1 : l1 < 16) (hl0 : ∀ p, p < 4 → bt l0 p = (bt (f x) p && rul S f x p k)) (hl1 : ∀ p, p < 4 → bt l1 p = (bt (f y) p && rul S f y p k)) (hno : ∀ i, i < 12 → ¬ i = x → ¬ i = y → ofB S k i = false) : ∀ i, i < 12 → sgl x l0 i ||| sgl y l1 i = ruC S f k i := fun i hi => by
  unfold sgl
  by_cases e : i = x
  · subst e
    rw [if_pos rfl, if_neg (fun z => hxy z.symm), Nat.or_zero]
    exact m16_ext h0 (ruC_16 S f k i hi) (fun p hp => by rw [ruC_bt hi hp, hl0 p hp])
  · by_cases e2 : i = y
    · subst e2
      rw [if_pos rfl, if_neg e, Nat.zero_or]
      exact m16_ext h1 (ruC_16 S f k i hi) (fun p hp => by rw [ruC_bt hi hp, hl1 p hp])
    · rw [if_neg e, if_neg e2]
      exact m16_ext (by decide) (ruC_16 S f k i hi) (fun p hp => by rw [ruC_bt hi hp, rul, hno i hi e e2, Nat.or_zero, bt_zero, Bool.false_and, Bool.and_false])
theorem pt3 {S f : Nat → Nat} {k x y z l0 l1 l2 : Nat} (hxy : ¬ y = x) (hxz : ¬ z = x) (hyz : ¬ z = y) (h0 : l0 < 16) (h1 : l1 < 16) (h2 : l2 < 16) (hl0 : ∀ p, p < 4 → bt l0 p = (bt (f x) p && rul S f x p k)) (hl1 : ∀ p, p < 4 → bt l1 p = (bt (f y) p && rul S f y p k)) (hl2 : ∀ p, p < 4 → bt l2 p = (bt (f z) p && rul S f z p k)) (hno : ∀ i, i < 12 → ¬ i = x → ¬ i = y → ¬ i = z → ofB S k i = false) : ∀ i, i < 12 → (sgl x l0 i ||| sgl y l1 i) ||| sgl z l2 i = ruC S f k i := fun i hi => by
  unfold sgl
  by_cases e : i = x
  · subst e
    rw [if_pos rfl, if_neg (fun z => hxy z.symm), if_neg (fun z => hxz z.symm), Nat.or_zero, Nat.or_zero]
    exact m16_ext h0 (ruC_16 S f k i hi) (fun p hp => by rw [ruC_bt hi hp, hl0 p hp])
  · by_cases e2 : i = y
    · subst e2
      rw [if_pos rfl, if_neg e, if_neg (fun z => hyz z.symm), Nat.zero_or, Nat.or_zero]
      exact m16_ext h1 (ruC_16 S f k i hi) (fun p hp => by rw [ruC_bt hi hp, hl1 p hp])
    · by_cases e3 : i = z
      · subst e3
        rw [if_pos rfl, if_neg e, if_neg e2, Nat.zero_or, Nat.zero_or]
        exact m16_ext h2 (ruC_16 S f k i hi) (fun p hp => by rw [ruC_bt hi hp, hl2 p hp])
      · rw [if_neg e, if_neg e2, if_neg e3]
        exact m16_ext (by decide) (ruC_16 S f k i hi) (fun p hp => by rw [ruC_bt hi hp, rul, hno i hi e e2 e3, Nat.or_zero, Nat.or_zero, bt_zero, Bool.false_and, Bool.and_false])
theorem c_ruledOut {S f : Nat → Nat} {k : Nat} {h : PH} (hV : VC S) (hk : k < S 0) (hf : M16 f) (hz : Z12 f) : Call 2 mX0_ruledOut [.int (N (ecl S k)), .long (L (pk f))] h (.inl (some (.long (L (pk (ruC S f k)))))) h 0 := by
  obtain ⟨c1, hx, c3, c4, c5⟩ := hV.2.2 k hk
  rcases (show S (4 * k + 1) = 0 ∨ S (4 * k + 1) = 1 ∨ S (4 * k + 1) = 2 ∨ S (4 * k + 1) = 3 ∨ S (4 * k + 1) = 4 ∨ S (4 * k + 1) = 5 ∨ S (4 * k + 1) = 6 by omega) with hs | hs | hs | hs | hs | hs | hs
  · have e : ecl S k = encC 0 (S (4 * k + 2)) (S (4 * k + 3)) 15 15 := by
      unfold ecl
      rw [hs]
      rfl
    rw [e]
    obtain ⟨hy, hxy⟩ := c4 (by omega) (by omega)
    have hs4 : S (4 * k + 1) < 4 := by omega
    have ho : ∀ i, i < 12 → ofB S k i = (decide (i = S (4 * k + 2)) || decide (i = S (4 * k + 3))) := fun i hi => ofB_2 hs4 hi hx hy
    have gx := hf _ hx
    have gy := hf _ hy
    have w := c_ruledOut_0 (h := h) hf hz hx hy
    rw [zk_congr (pt2 hxy (dif_16 gx) (dif_16 gy) (fun p hp => rul_of (by rw [ho _ hx]; simp) (by rw [hld_0 hs4 hxy, hs]; exact cho_00 _ gy p hp)) (fun p hp => rul_of (by rw [ho _ hy]; simp) (by rw [hld_1 hs4 hxy, hs]; exact cho_01 _ gx p hp)) (fun i hi n1 n2 => by rw [ho i hi, decide_eq_false n1, decide_eq_false n2]; rfl))] at w
    exact w
  · have e : ecl S k = encC 1 (S (4 * k + 2)) (S (4 * k + 3)) 15 15 := by
      unfold ecl
      rw [hs]
      rfl
    rw [e]
    obtain ⟨hy, hxy⟩ := c4 (by omega) (by omega)
    have hs4 : S (4 * k + 1) < 4 := by omega
    have ho : ∀ i, i < 12 → ofB S k i = (decide (i = S (4 * k + 2)) || decide (i = S (4 * k + 3))) := fun i hi => ofB_2 hs4 hi hx hy
    have gx := hf _ hx
    have gy := hf _ hy
    have w := c_ruledOut_1 (h := h) hf hz hx hy
    rw [zk_congr (pt2 hxy (dif_16 gx) (dif_16 gy) (fun p hp => rul_of (by rw [ho _ hx]; simp) (by rw [hld_0 hs4 hxy, hs]; exact cho_10 _ gy p hp)) (fun p hp => rul_of (by rw [ho _ hy]; simp) (by rw [hld_1 hs4 hxy, hs]; exact cho_11 _ gx p hp)) (fun i hi n1 n2 => by rw [ho i hi, decide_eq_false n1, decide_eq_false n2]; rfl))] at w
    exact w
  · have e : ecl S k = encC 2 (S (4 * k + 2)) (S (4 * k + 3)) 15 15 := by
      unfold ecl
      rw [hs]
      rfl
    rw [e]
    obtain ⟨hy, hxy⟩ := c4 (by omega) (by omega)
    have hs4 : S (4 * k + 1) < 4 := by omega
    have ho : ∀ i, i < 12 → ofB S k i = (decide (i = S (4 * k + 2)) || decide (i = S (4 * k + 3))) := fun i hi => ofB_2 hs4 hi hx hy
    have gx := hf _ hx
    have gy := hf _ hy
    have w := c_ruledOut_2 (h := h) hf hz hx hy
    rw [zk_congr (pt2 hxy (dif_16 gx) (dif_16 gy) (fun p hp => rul_of (by rw [ho _ hx]; simp) (by rw [hld_0 hs4 hxy, hs]; exact cho_20 _ gy p hp)) (fun p hp => rul_of (by rw [ho _ hy]; simp) (by rw [hld_1 hs4 hxy, hs]; exact cho_21 _ gx p hp)) (fun i hi n1 n2 => by rw [ho i hi, decide_eq_false n1, decide_eq_false n2]; rfl))] at w
    exact w
  · have e : ecl S k = encC 3 (S (4 * k + 2)) (S (4 * k + 3)) 15 15 := by
      unfold ecl
      rw [hs]
      rfl
    rw [e]
    obtain ⟨hy, hxy⟩ := c4 (by omega) (by omega)
    have hs4 : S (4 * k + 1) < 4 := by omega
    have ho : ∀ i, i < 12 → ofB S k i = (decide (i = S (4 * k + 2)) || decide (i = S (4 * k + 3))) := fun i hi => ofB_2 hs4 hi hx hy
    have gx := hf _ hx
    have gy := hf _ hy
    have w := c_ruledOut_3 (h := h) hf hz hx hy
    rw [zk_congr (pt2 hxy (dif_16 gx) (dif_16 gy) (fun p hp => rul_of (by rw [ho _ hx]; simp) (by rw [hld_0 hs4 hxy, hs]; exact cho_30 _ gy p hp)) (fun p hp => rul_of (by rw [ho _ hy]; simp) (by rw [hld_1 hs4 hxy, hs]; exact cho_31 _ gx p hp)) (fun i hi n1 n2 => by rw [ho i hi, decide_eq_false n1, decide_eq_false n2]; rfl))] at w
    exact w
  · have e : ecl S k = encC 4 (S (4 * k + 2)) 15 15 (S (4 * k + 3)) := by
      unfold ecl
      rw [hs]
      rfl
    rw [e]
    have hp4 := c3 (by omega)
    have hs4 : S (4 * k + 1) = 4 ∨ S (4 * k + 1) = 5 := by omega
    have gx := hf _ hx
    have w := c_ruledOut_4 (h := h) hf hz hx hp4
    rw [zk_congr (pt1 (dif_16 gx) (fun p hp => rul_of (by rw [ofB_1 hs4 hx hx]; simp) (by rw [hld, hs]; rw [if_pos rfl, bt_pow]; exact decide_eq_decide.mpr ⟨fun z => z.symm, fun z => z.symm⟩)) (fun i hi n1 => by rw [ofB_1 hs4 hi hx, decide_eq_false n1]))] at w
    exact w
  · have e : ecl S k = encC 5 (S (4 * k + 2)) 15 15 (S (4 * k + 3)) := by
      unfold ecl
      rw [hs]
      rfl
    rw [e]
    have hp4 := c3 (by omega)
    have hs4 : S (4 * k + 1) = 4 ∨ S (4 * k + 1) = 5 := by omega
    have gx := hf _ hx
    have w := c_ruledOut_5 (h := h) hf hz hx hp4
    rw [zk_congr (pt1 (dif_16 gx) (fun p hp => rul_of (by rw [ofB_1 hs4 hx hx]; simp) (by rw [hld, hs]; rw [if_neg (by decide), if_pos rfl, bt_dif, bt_15 hp, bt_pow, Bool.true_and]; congr 1; exact decide_eq_decide.mpr ⟨fun z => z.symm, fun z => z.symm⟩)) (fun i hi n1 => by rw [ofB_1 hs4 hi hx, decide_eq_false n1]))] at w
    exact w
  · have e : ecl S k = encC 6 (S (4 * k + 2)) (S (4 * k + 3)) (S (4 * k + 4)) 15 := by
      unfold ecl
      rw [hs]
      rfl
    rw [e]
    obtain ⟨hy, hxy⟩ := c4 (by omega) (by omega)
    obtain ⟨hw, hxz, hyz⟩ := c5 hs
    have ho : ∀ i, i < 12 → ofB S k i = (decide (i = S (4 * k + 2)) || decide (i = S (4 * k + 3)) || decide (i = S (4 * k + 4))) := fun i hi => ofB_3 hs hi hx hy hw
    have gx := hf _ hx
    have gy := hf _ hy
    have gz := hf _ hw
    have w := c_ruledOut_6 (h := h) hf hz hx hy hw
    rw [zk_congr (pt3 hxy hxz hyz (dif_16 gx) (dif_16 gy) (dif_16 gz) (fun p hp => rul_of (by rw [ho _ hx]; simp) (by rw [hld_6a hs hxy hxz]; exact cho_6a gy gz hp)) (fun p hp => rul_of (by rw [ho _ hy]; simp) (by rw [hld_6b hs hxy hyz]; exact cho_6b gx gz hp)) (fun p hp => rul_of (by rw [ho _ hw]; simp) (by rw [hld_6c hs hxz hyz]; exact cho_6c gx gy hp)) (fun i hi n1 n2 n3 => by rw [ho i hi, decide_eq_false n1, decide_eq_false n2, decide_eq_false n3]; rfl))] at w
    exact w
/-- an arrangement as a grid -/
def arM (sp : Nat → Nat) : Nat → Nat := fun i => if i < 12 then 2 ^ sp i else 0
theorem arM_16 {sp : Nat → Nat} (h : ∀ j, j < 12 → sp j < 4) : M16 (arM sp) := fun j hj => by
  rw [arM, if_pos hj]
  exact p2_lt (h j hj)
theorem arM_z (sp : Nat → Nat) : Z12 (arM sp) := fun j hj => if_neg (by omega)
theorem arM_at {sp : Nat → Nat} {i : Nat} (hi : i < 12) : arM sp i = 2 ^ sp i := if_pos hi
theorem pw_1 : ∀ a, a < 4 → ∀ b, b < 4 → decide (2 ^ a = 2 ^ b) = decide (a = b) := by decide
theorem pw_2 : ∀ a, a < 4 → ∀ b, b < 4 → decide (2 ^ a < 2 ^ b) = decide (a < b) := by decide
theorem pw_3 : ∀ a, a < 4 → ∀ b, b < 4 → decide (2 ^ a = 2 * 2 ^ b) = decide (a = b + 1) := by decide
theorem c_holds {S sp : Nat → Nat} {k : Nat} {h : PH} (hV : VC S) (hk : k < S 0) (hsp : ∀ j, j < 12 → sp j < 4) : Call 1 mX0_holds [.int (N (ecl S k)), .long (L (pk (arM sp)))] h (.inl (some (.int (bI (heldB S sp k))))) h 0 := by
  obtain ⟨c1, hx, c3, c4, c5⟩ := hV.2.2 k hk
  rcases (show S (4 * k + 1) = 0 ∨ S (4 * k + 1) = 1 ∨ S (4 * k + 1) = 2 ∨ S (4 * k + 1) = 3 ∨ S (4 * k + 1) = 4 ∨ S (4 * k + 1) = 5 ∨ S (4 * k + 1) = 6 by omega) with hs | hs | hs | hs | hs | hs | hs
  · have e : ecl S k = encC 0 (S (4 * k + 2)) (S (4 * k + 3)) 15 15 := by
      unfold ecl
      rw [hs]
      rfl
    rw [e]
    obtain ⟨hy, hxy⟩ := c4 (by omega) (by omega)
    have w := c_holds_0 (h := h) (arM_16 hsp) (arM_z sp) hx hy
    rw [arM_at hx, arM_at hy] at w
    have gx := hsp _ hx
    have gy := hsp _ hy
    unfold heldB fitB
    rw [hs]
    rw [pw_1 _ gx _ gy] at w
    exact w
  · have e : ecl S k = encC 1 (S (4 * k + 2)) (S (4 * k + 3)) 15 15 := by
      unfold ecl
      rw [hs]
      rfl
    rw [e]
    obtain ⟨hy, hxy⟩ := c4 (by omega) (by omega)
    have w := c_holds_1 (h := h) (arM_16 hsp) (arM_z sp) hx hy
    rw [arM_at hx, arM_at hy] at w
    have gx := hsp _ hx
    have gy := hsp _ hy
    unfold heldB fitB
    rw [hs]
    rw [pw_1 _ gx _ gy] at w
    exact w
  · have e : ecl S k = encC 2 (S (4 * k + 2)) (S (4 * k + 3)) 15 15 := by
      unfold ecl
      rw [hs]
      rfl
    rw [e]
    obtain ⟨hy, hxy⟩ := c4 (by omega) (by omega)
    have w := c_holds_2 (h := h) (arM_16 hsp) (arM_z sp) hx hy
    rw [arM_at hx, arM_at hy] at w
    have gx := hsp _ hx
    have gy := hsp _ hy
    unfold heldB fitB
    rw [hs]
    rw [pw_2 _ gx _ gy] at w
    exact w
  · have e : ecl S k = encC 3 (S (4 * k + 2)) (S (4 * k + 3)) 15 15 := by
      unfold ecl
      rw [hs]
      rfl
    rw [e]
    obtain ⟨hy, hxy⟩ := c4 (by omega) (by omega)
    have w := c_holds_3 (h := h) (arM_16 hsp) (arM_z sp) hx hy
    rw [arM_at hx, arM_at hy] at w
    have gx := hsp _ hx
    have gy := hsp _ hy
    unfold heldB fitB
    rw [hs]
    rw [pw_3 _ gx _ gy, pw_3 _ gy _ gx] at w
    exact w
  · have e : ecl S k = encC 4 (S (4 * k + 2)) 15 15 (S (4 * k + 3)) := by
      unfold ecl
      rw [hs]
      rfl
    rw [e]
    have hp4 := c3 (by omega)
    have w := c_holds_4 (h := h) (arM_16 hsp) (arM_z sp) hx hp4
    rw [arM_at hx] at w
    have gx := hsp _ hx
    unfold heldB
    rw [hs]
    rw [pw_1 _ gx _ hp4] at w
    exact w
  · have e : ecl S k = encC 5 (S (4 * k + 2)) 15 15 (S (4 * k + 3)) := by
      unfold ecl
      rw [hs]
      rfl
    rw [e]
    have hp4 := c3 (by omega)
    have w := c_holds_5 (h := h) (arM_16 hsp) (arM_z sp) hx hp4
    rw [arM_at hx] at w
    have gx := hsp _ hx
    unfold heldB
    rw [hs]
    rw [pw_1 _ gx _ hp4] at w
    exact w
  · have e : ecl S k = encC 6 (S (4 * k + 2)) (S (4 * k + 3)) (S (4 * k + 4)) 15 := by
      unfold ecl
      rw [hs]
      rfl
    rw [e]
    obtain ⟨hy, hxy⟩ := c4 (by omega) (by omega)
    obtain ⟨hw, hxz, hyz⟩ := c5 hs
    have w := c_holds_6 (h := h) (arM_16 hsp) (arM_z sp) hx hy hw
    rw [arM_at hx, arM_at hy, arM_at hw] at w
    have gx := hsp _ hx
    have gy := hsp _ hy
    have gz := hsp _ hw
    unfold heldB
    rw [hs]
    rw [pw_1 _ gx _ gy, pw_1 _ gx _ gz] at w
    exact w
