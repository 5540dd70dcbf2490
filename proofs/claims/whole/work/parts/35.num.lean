/-! NUMBERS: ints and longs as numbers from 0 on; rules of runs that put them so -/
abbrev N (n : Nat) : Int32 := Int32.ofNat n
abbrev L (n : Nat) : Int64 := Int64.ofNat n
def aN (S : Nat → Nat) : Nat → Int32 := fun k => N (S k)
def upn (S : Nat → Nat) (i v : Nat) : Nat → Nat := fun j => if j = i then v else S j
/-- the first i places by f, the others by g -/
def fil {α : Type} (i : Nat) (f g : Nat → α) : Nat → α := fun j => if j < i then f j else g j
def itN {α : Type} (f : Nat → α → α) (a : α) : Nat → α
  | 0 => a
  | n + 1 => f n (itN f a n)
theorem N_add (a b : Nat) : N a + N b = N (a + b) := (Int32.ofNat_add a b).symm
theorem N_mul (a b : Nat) : N a * N b = N (a * b) := (Int32.ofNat_mul a b).symm
theorem N_sub {a b : Nat} (h : b ≤ a) : N a - N b = N (a - b) := (Int32.ofNat_sub a b h).symm
theorem N_toInt {a : Nat} (h : a < 2147483648) : (N a).toInt = (a : Int) := Int32.toInt_ofNat_of_lt h
theorem N_eq {a b : Nat} (ha : a < 2147483648) (hb : b < 2147483648) : N a = N b ↔ a = b := by
  rw [← Int32.toInt_inj, N_toInt ha, N_toInt hb]
  omega
theorem N_lt {a b : Nat} (ha : a < 2147483648) (hb : b < 2147483648) : N a < N b ↔ a < b := by
  rw [Int32.lt_iff_toInt_lt, N_toInt ha, N_toInt hb]
  omega
theorem N_le {a b : Nat} (ha : a < 2147483648) (hb : b < 2147483648) : N a ≤ N b ↔ a ≤ b := by
  rw [Int32.le_iff_toInt_le, N_toInt ha, N_toInt hb]
  omega
theorem N_tc {a : Nat} (h : a < 2147483648) : (N a).toNatClampNeg = a := by
  rw [Int32.toNatClampNeg, N_toInt h]
  rfl
theorem N_in {a n : Nat} (h : a < n) (hn : n ≤ 2147483647) : vp_in (N a) n := by
  have h1 : a < 2147483648 := by omega
  unfold vp_in
  rw [N_tc h1]
  intro z
  rcases z with z | z
  · rw [show (0 : Int32) = N 0 from rfl, N_lt h1 (by decide)] at z
    omega
  · omega
theorem N_and (a b : Nat) : N a &&& N b = N (a &&& b) := by
  rw [← Int32.toBitVec_inj, Int32.toBitVec_and]
  simp only [N, Int32.toBitVec_ofNat', BitVec.ofNat_and]
theorem N_or (a b : Nat) : N a ||| N b = N (a ||| b) := by
  rw [← Int32.toBitVec_inj, Int32.toBitVec_or]
  simp only [N, Int32.toBitVec_ofNat', BitVec.ofNat_or]
theorem N_xor (a b : Nat) : N a ^^^ N b = N (a ^^^ b) := by
  rw [← Int32.toBitVec_inj, Int32.toBitVec_xor]
  simp only [N, Int32.toBitVec_ofNat', BitVec.ofNat_xor]
theorem N_div {a b : Nat} (ha : a < 2147483648) (hb : b < 2147483648) : N a / N b = N (a / b) := (Int32.ofNat_div ha hb).symm
theorem N_rem {a b : Nat} (ha : a < 2147483648) (hb : b < 2147483648) : N a - N a / N b * N b = N (a % b) := by
  rw [N_div ha hb, N_mul, N_sub (by rw [Nat.mul_comm]; exact Nat.mul_div_le a b)]
  congr 1
  have := Nat.div_add_mod a b
  rw [Nat.mul_comm] at this
  omega
theorem smod32 : ∀ k, k < 32 → ((BitVec.ofNat 32 k &&& 31#32).smod 32).toNat = k := by decide +kernel
theorem smod64 : ∀ k, k < 64 → ((BitVec.ofNat 64 k &&& 63#64).smod 64).toNat = k := by decide +kernel
theorem N_shl {a k : Nat} (hk : k < 32) : N a <<< (N k &&& 31) = N (a * 2 ^ k) := by
  rw [← Int32.toBitVec_inj, Int32.toBitVec_shiftLeft, Int32.toBitVec_and]
  apply BitVec.eq_of_toNat_eq
  rw [BitVec.shiftLeft_eq', BitVec.toNat_shiftLeft]
  have e := smod32 k hk
  rw [show (N k).toBitVec = BitVec.ofNat 32 k from Int32.toBitVec_ofNat', show (31 : Int32).toBitVec = 31#32 from rfl, e, Nat.shiftLeft_eq, Int32.toBitVec_ofNat', Int32.toBitVec_ofNat', BitVec.toNat_ofNat, BitVec.toNat_ofNat, Nat.mod_mul_mod]
theorem N_shr {a k : Nat} (ha : a < 2147483648) (hk : k < 32) : N a >>> (N k &&& 31) = N (a / 2 ^ k) := by
  rw [← Int32.toBitVec_inj, Int32.toBitVec_shiftRight, Int32.toBitVec_and]
  apply BitVec.eq_of_toNat_eq
  have e := smod32 k hk
  rw [BitVec.sshiftRight_eq', show (N k).toBitVec = BitVec.ofNat 32 k from Int32.toBitVec_ofNat', show (31 : Int32).toBitVec = 31#32 from rfl, e, Int32.toBitVec_ofNat', Int32.toBitVec_ofNat', BitVec.toNat_sshiftRight_of_msb_false (by rw [BitVec.msb_eq_decide, BitVec.toNat_ofNat, Nat.mod_eq_of_lt (by omega)]; simp; omega), BitVec.toNat_ofNat, BitVec.toNat_ofNat, Nat.mod_eq_of_lt (by omega), Nat.shiftRight_eq_div_pow]
  have := Nat.div_le_self a (2 ^ k)
  rw [Nat.mod_eq_of_lt (by omega)]
theorem L_add (a b : Nat) : L a + L b = L (a + b) := (Int64.ofNat_add a b).symm
theorem L_mul (a b : Nat) : L a * L b = L (a * b) := (Int64.ofNat_mul a b).symm
theorem L_sub {a b : Nat} (h : b ≤ a) : L a - L b = L (a - b) := (Int64.ofNat_sub a b h).symm
theorem L_and (a b : Nat) : L a &&& L b = L (a &&& b) := by
  rw [← Int64.toBitVec_inj, Int64.toBitVec_and]
  simp only [L, Int64.toBitVec_ofNat', BitVec.ofNat_and]
theorem L_or (a b : Nat) : L a ||| L b = L (a ||| b) := by
  rw [← Int64.toBitVec_inj, Int64.toBitVec_or]
  simp only [L, Int64.toBitVec_ofNat', BitVec.ofNat_or]
theorem L_xor (a b : Nat) : L a ^^^ L b = L (a ^^^ b) := by
  rw [← Int64.toBitVec_inj, Int64.toBitVec_xor]
  simp only [L, Int64.toBitVec_ofNat', BitVec.ofNat_xor]
theorem L_toInt {a : Nat} (h : a < 9223372036854775808) : (L a).toInt = (a : Int) := Int64.toInt_ofNat_of_lt h
theorem L_eq {a b : Nat} (ha : a < 9223372036854775808) (hb : b < 9223372036854775808) : L a = L b ↔ a = b := by
  rw [← Int64.toInt_inj, L_toInt ha, L_toInt hb]
  omega
theorem N_toL {a : Nat} (h : a < 2147483648) : (N a).toInt64 = L a := by
  rw [← Int64.toInt_inj, Int32.toInt_toInt64, N_toInt h, L_toInt (by omega)]
theorem L_toN (a : Nat) : (L a).toInt32 = N a := Int64.toInt32_ofNat'
theorem L_shl {a k : Nat} (hk : k < 64) : L a <<< ((N k).toInt64 &&& 63) = L (a * 2 ^ k) := by
  rw [N_toL (by omega), ← Int64.toBitVec_inj, Int64.toBitVec_shiftLeft, Int64.toBitVec_and]
  apply BitVec.eq_of_toNat_eq
  rw [BitVec.shiftLeft_eq', BitVec.toNat_shiftLeft]
  have e := smod64 k hk
  rw [show (L k).toBitVec = BitVec.ofNat 64 k from Int64.toBitVec_ofNat', show (63 : Int64).toBitVec = 63#64 from rfl, e, Nat.shiftLeft_eq, Int64.toBitVec_ofNat', Int64.toBitVec_ofNat', BitVec.toNat_ofNat, BitVec.toNat_ofNat, Nat.mod_mul_mod]
theorem L_shr {a k : Nat} (ha : a < 9223372036854775808) (hk : k < 64) : L a >>> ((N k).toInt64 &&& 63) = L (a / 2 ^ k) := by
  rw [N_toL (by omega), ← Int64.toBitVec_inj, Int64.toBitVec_shiftRight, Int64.toBitVec_and]
  apply BitVec.eq_of_toNat_eq
  have e := smod64 k hk
  rw [BitVec.sshiftRight_eq', show (L k).toBitVec = BitVec.ofNat 64 k from Int64.toBitVec_ofNat', show (63 : Int64).toBitVec = 63#64 from rfl, e, Int64.toBitVec_ofNat', Int64.toBitVec_ofNat', BitVec.toNat_sshiftRight_of_msb_false (by rw [BitVec.msb_eq_decide, BitVec.toNat_ofNat, Nat.mod_eq_of_lt (by omega)]; simp; omega), BitVec.toNat_ofNat, BitVec.toNat_ofNat, Nat.mod_eq_of_lt (by omega), Nat.shiftRight_eq_div_pow]
  have := Nat.div_le_self a (2 ^ k)
  rw [Nat.mod_eq_of_lt (by omega)]
theorem L_ushr {a k : Nat} (ha : a < 18446744073709551616) (hk : k < 64) : ((L a).toUInt64 >>> ((N k).toInt64.toUInt64 &&& Int64.toUInt64 63)).toInt64 = L (a / 2 ^ k) := by
  rw [N_toL (by omega)]
  have e1 : (L a).toUInt64 = UInt64.ofNat a := rfl
  have e2 : (L k).toUInt64 &&& Int64.toUInt64 63 = UInt64.ofNat k := by
    show UInt64.ofNat k &&& 63 = UInt64.ofNat k
    rw [← UInt64.toNat_inj, UInt64.toNat_and, UInt64.toNat_ofNat', show (63 : UInt64).toNat = 2 ^ 6 - 1 from rfl, Nat.and_two_pow_sub_one_eq_mod]
    omega
  rw [e1, e2]
  show (UInt64.ofNat a >>> UInt64.ofNat k).toInt64 = (UInt64.ofNat (a / 2 ^ k)).toInt64
  congr 1
  rw [← UInt64.toNat_inj, UInt64.toNat_shiftRight, UInt64.toNat_ofNat', UInt64.toNat_ofNat', UInt64.toNat_ofNat', Nat.mod_eq_of_lt (by omega), Nat.mod_eq_of_lt (show k < 2 ^ 64 by omega), Nat.mod_eq_of_lt hk, Nat.shiftRight_eq_div_pow]
  have := Nat.div_le_self a (2 ^ k)
  rw [Nat.mod_eq_of_lt (by omega)]
theorem aN_at {S : Nat → Nat} {a : Nat} (h : a < 2147483648) : aN S (N a).toNatClampNeg = N (S a) := by rw [N_tc h]; rfl
theorem aN_up {S : Nat → Nat} {a v : Nat} (h : a < 2147483648) : upd (aN S) (N a).toNatClampNeg (N v) = aN (upn S a v) := by
  rw [N_tc h]
  funext j
  unfold upd aN upn
  by_cases e : j = a
  · rw [if_pos e, if_pos e]
  · rw [if_neg e, if_neg e]
theorem upn_fil {f g : Nat → Nat} {i v : Nat} (h : v = f i) : upn (fil i f g) i v = fil (i + 1) f g := by
  funext j
  unfold upn fil
  subst h
  by_cases e : j = i
  · subst e
    rw [if_pos rfl, if_pos (by omega)]
  · rw [if_neg e]
    by_cases e2 : j < i
    · rw [if_pos e2, if_pos (by omega)]
    · rw [if_neg e2, if_neg (by omega)]
theorem fil_0 {α : Type} (f g : Nat → α) : fil 0 f g = g := by
  funext j
  unfold fil
  rw [if_neg (by omega)]
theorem fil_lt {α : Type} {f g : Nat → α} {i j : Nat} (h : j < i) : fil i f g j = f j := if_pos h
theorem NA {a b c : Nat} (h : a + b = c) : N a + N b = N c := by rw [N_add, h]
theorem NS {a b c : Nat} (h : c + b = a) : N a - N b = N c := by rw [N_sub (by omega)]; congr 1; omega
theorem NM {a b c : Nat} (h : a * b = c) : N a * N b = N c := by rw [N_mul, h]
theorem ND {a b c : Nat} (ha : a < 2147483648) (hb : b < 2147483648) (h : a / b = c) : N a / N b = N c := by rw [N_div ha hb, h]
theorem NR {a b c : Nat} (ha : a < 2147483648) (hb : b < 2147483648) (h : a % b = c) : N a - N a / N b * N b = N c := by rw [N_rem ha hb, h]
theorem NHL {a k c : Nat} (hk : k < 32) (h : a * 2 ^ k = c) : N a <<< (N k &&& 31) = N c := by rw [N_shl hk, h]
theorem NHR {a k c : Nat} (ha : a < 2147483648) (hk : k < 32) (h : a / 2 ^ k = c) : N a >>> (N k &&& 31) = N c := by rw [N_shr ha hk, h]
theorem and_1 (a : Nat) : a &&& 1 = a % 2 := Nat.and_two_pow_sub_one_eq_mod a 1
theorem and_15 (a : Nat) : a &&& 15 = a % 16 := Nat.and_two_pow_sub_one_eq_mod a 4
theorem N_and1 (a : Nat) : N a &&& N 1 = N (a % 2) := by rw [N_and, and_1]
theorem N_and15 (a : Nat) : N a &&& N 15 = N (a % 16) := by rw [N_and, and_15]
theorem N_15and (a : Nat) : N 15 &&& N a = N (a % 16) := by rw [N_and, Nat.and_comm, and_15]
/-- a without the bits of b -/
def dif (a b : Nat) : Nat := a ^^^ (a &&& b)
theorem N_dif (a b : Nat) : N a &&& (N b ^^^ -1) = N (dif a b) := by
  unfold dif
  rw [← N_xor, ← N_and]
  rw [← Int32.toBitVec_inj]
  simp only [Int32.toBitVec_and, Int32.toBitVec_xor]
  have e : (-1 : Int32).toBitVec = BitVec.allOnes 32 := by decide
  rw [e]
  apply BitVec.eq_of_getLsbD_eq
  intro i hi
  simp only [BitVec.getLsbD_and, BitVec.getLsbD_xor, BitVec.getLsbD_allOnes, hi, decide_true]
  cases (N a).toBitVec.getLsbD i <;> cases (N b).toBitVec.getLsbD i <;> rfl
theorem L_dif (a b : Nat) : L a &&& (L b ^^^ -1) = L (dif a b) := by
  unfold dif
  rw [← L_xor, ← L_and]
  rw [← Int64.toBitVec_inj]
  simp only [Int64.toBitVec_and, Int64.toBitVec_xor]
  have e : (-1 : Int64).toBitVec = BitVec.allOnes 64 := by decide
  rw [e]
  apply BitVec.eq_of_getLsbD_eq
  intro i hi
  simp only [BitVec.getLsbD_and, BitVec.getLsbD_xor, BitVec.getLsbD_allOnes, hi, decide_true]
  cases (L a).toBitVec.getLsbD i <;> cases (L b).toBitVec.getLsbD i <;> rfl
theorem Runs.topI (m : Nat) {d : Nat} {q : MI} {pc : Nat} {pl : PL} {st : List Value} {h : PH} {o : Option Value ⊕ String} {h2 : PH} {k : Nat} {cs : List Prop} {pc' : Nat} {pl' : PL} {v v' : Int32} {st' : List Value} {h' : PH} (e : psteps m q pc pl st h = some (cs, pc', pl', .int v :: st', h')) (hc : allP cs) (hv : v = v') (r : Runs d q pc' pl' (.int v' :: st') h' o h2 k) : Runs d q pc pl st h o h2 k := by
  subst hv
  exact Runs.go m e hc r
theorem Runs.topJ (m : Nat) {d : Nat} {q : MI} {pc : Nat} {pl : PL} {st : List Value} {h : PH} {o : Option Value ⊕ String} {h2 : PH} {k : Nat} {cs : List Prop} {pc' : Nat} {pl' : PL} {v v' : Int64} {st' : List Value} {h' : PH} (e : psteps m q pc pl st h = some (cs, pc', pl', .long v :: st', h')) (hc : allP cs) (hv : v = v') (r : Runs d q pc' pl' (.long v' :: st') h' o h2 k) : Runs d q pc pl st h o h2 k := by
  subst hv
  exact Runs.go m e hc r
theorem Runs.goH (m : Nat) {d : Nat} {q : MI} {pc : Nat} {pl : PL} {st : List Value} {h : PH} {o : Option Value ⊕ String} {h2 : PH} {k : Nat} {cs : List Prop} {pc' : Nat} {pl' : PL} {st' : List Value} {h1 h' : PH} (e : psteps m q pc pl st h = some (cs, pc', pl', st', h1)) (hc : allP cs) (hh : h1 = h') (r : Runs d q pc' pl' st' h' o h2 k) : Runs d q pc pl st h o h2 k := by
  subst hh
  exact Runs.go m e hc r
theorem Runs.goL (m : Nat) {d : Nat} {q : MI} {pc : Nat} {pl : PL} {st : List Value} {h : PH} {o : Option Value ⊕ String} {h2 : PH} {k : Nat} {cs : List Prop} {pc' : Nat} {pl1 pl' : PL} {st' : List Value} {h' : PH} (e : psteps m q pc pl st h = some (cs, pc', pl1, st', h')) (hc : allP cs) (hl : pl1 = pl') (r : Runs d q pc' pl' st' h' o h2 k) : Runs d q pc pl st h o h2 k := by
  subst hl
  exact Runs.go m e hc r
theorem Runs.cv {d : Nat} {q : MI} {pc : Nat} {pl pl' : PL} {st : List Value} {h h' : PH} {o : Option Value ⊕ String} {h2 : PH} {k : Nat} (hl : pl = pl') (hh : h = h') (r : Runs d q pc pl' st h' o h2 k) : Runs d q pc pl st h o h2 k := by
  subst hl
  subst hh
  exact r
theorem Runs.loopN {d : Nat} {q : MI} {pc : Nat} {o : Option Value ⊕ String} {h2 : PH} {k : Nat} (P : Nat → PL) (H : Nat → PH) (I : Nat → Prop) (n : Nat) (h0 : I 0) (step : ∀ i, i < n → I i → (I (i + 1) → Runs d q pc (P (i + 1)) [] (H (i + 1)) o h2 k) → Runs d q pc (P i) [] (H i) o h2 k) (fin : I n → Runs d q pc (P n) [] (H n) o h2 k) : Runs d q pc (P 0) [] (H 0) o h2 k := by
  have key : ∀ j, j ≤ n → I (n - j) → Runs d q pc (P (n - j)) [] (H (n - j)) o h2 k := by
    intro j
    induction j with
    | zero => exact fun _ hI => fin hI
    | succ j ih =>
      intro hj hI
      refine step _ (by omega) hI (fun hI2 => ?_)
      have e : n - (j + 1) + 1 = n - j := by omega
      rw [e] at hI2 ⊢
      exact ih (by omega) hI2
  have := key n (Nat.le_refl n)
  rw [Nat.sub_self] at this
  exact this h0
/-- the heap with the reference's part spread out: raw ints -/
abbrev GP (X : Nat × (Nat → Int32)) (c : CT) (s bf : Nat → Int32) (kn : Int32) (kp : Nat → Int32) (ik : Int32) (od bu : Nat → Int32) (le th : Int32) (mk ol : Nat → Int32) (tu ib : Int32) (sp : Nat → Int32) (so : Int32) (al br tr : Nat → Int32) (at_ iw : Int32) (ha : Int64) (se : Nat → Int32) (o : Nat → Int64) : PH :=
  (X, [.inr (4, [.ref 1, .ref 3, .ref 5, .ref 6, .ref 8, .ref 9, .int c.2.2.2.2.2.2.2.2.2.2.2.2.1, .int c.2.2.2.2.2.2.2.2.2.2.2.2.2]),
    stE 2 c.1, arE 12 c.1.1, stE 4 c.2.1, arE 12 c.2.1.1, .inl (2, 6, .inr (.inr (.inr (.inr c.2.2.1)))),
    .inr (3, [.ref 7, .int c.2.2.2.2.2.1]), arE 60 c.2.2.2.2.1, .inr (0, [.long c.2.2.2.2.2.2.1, .int c.2.2.2.2.2.2.2.1]),
    .inr (2, [.ref 10, .int c.2.2.2.2.2.2.2.2.2.1, .long c.2.2.2.2.2.2.2.2.2.2.1, .int c.2.2.2.2.2.2.2.2.2.2.2.1]), arE 12 c.2.2.2.2.2.2.2.2.1,
    stE 12 (c.2.2.2.1 0), arE 12 (c.2.2.2.1 0).1, stE 14 (c.2.2.2.1 1), arE 12 (c.2.2.2.1 1).1, stE 16 (c.2.2.2.1 2), arE 12 (c.2.2.2.1 2).1,
    stE 18 (c.2.2.2.1 3), arE 12 (c.2.2.2.1 3).1, stE 20 (c.2.2.2.1 4), arE 12 (c.2.2.2.1 4).1, stE 22 (c.2.2.2.1 5), arE 12 (c.2.2.2.1 5).1, .inr (5, [.ref 24, .ref 25, .int kn, .ref 26, .int ik, .ref 27, .ref 28, .int le, .int th, .ref 29, .ref 30, .int tu, .int ib, .ref 31, .int so, .ref 32, .ref 33, .ref 34, .int at_, .int iw, .long ha, .ref 35]),
    arE 63 s, arE 378 bf, arE 63 kp, arE 96 od, arE 60 bu, arE 12 mk, arE 12 ol, arE 12 sp, arE 12 al, arE 12 br, arE 12 tr, arE 12 se, .inl (1, 1, .inr (.inl o))])
theorem GP_HP (X : Nat × (Nat → Int32)) (c : CT) (m : MT) (o : Nat → Int64) : HP X c m o = GP X c m.1 m.2.1 m.2.2.1 m.2.2.2.1 m.2.2.2.2.1 m.2.2.2.2.2.1 m.2.2.2.2.2.2.1 m.2.2.2.2.2.2.2.1 m.2.2.2.2.2.2.2.2.1 m.2.2.2.2.2.2.2.2.2.1 m.2.2.2.2.2.2.2.2.2.2.1 m.2.2.2.2.2.2.2.2.2.2.2.1 m.2.2.2.2.2.2.2.2.2.2.2.2.1 m.2.2.2.2.2.2.2.2.2.2.2.2.2.1 m.2.2.2.2.2.2.2.2.2.2.2.2.2.2.1 m.2.2.2.2.2.2.2.2.2.2.2.2.2.2.2.1 m.2.2.2.2.2.2.2.2.2.2.2.2.2.2.2.2.1 m.2.2.2.2.2.2.2.2.2.2.2.2.2.2.2.2.2.1 m.2.2.2.2.2.2.2.2.2.2.2.2.2.2.2.2.2.2.1 m.2.2.2.2.2.2.2.2.2.2.2.2.2.2.2.2.2.2.2.1 m.2.2.2.2.2.2.2.2.2.2.2.2.2.2.2.2.2.2.2.2.1 m.2.2.2.2.2.2.2.2.2.2.2.2.2.2.2.2.2.2.2.2.2 o := rfl
abbrev MP (X : Nat × (Nat → Int32)) (c : CT) (S bf : Nat → Nat) (kn : Nat) (kp : Nat → Nat) (ik : Bool) (od bu : Nat → Nat) (le th : Nat) (mk ol : Nat → Nat) (tu : Nat) (ib : Bool) (sp : Nat → Nat) (so : Nat) (al br tr : Nat → Nat) (at_ : Nat) (iw : Bool) (ha : Int64) (se : Nat → Int32) (o : Nat → Int64) : PH :=
  GP X c (aN S) (aN bf) (N kn) (aN kp) (bI ik) (aN od) (aN bu) (N le) (N th) (aN mk) (aN ol) (N tu) (bI ib) (aN sp) (N so) (aN al) (aN br) (aN tr) (N at_) (bI iw) ha se o
def inB (v a b : Int32) : Bool := decide (a ≤ v) && decide (v ≤ b)
theorem bI_1 (b : Bool) : bI b = 1 ↔ b = true := by cases b <;> simp [bI]
theorem inB_ex {v : Int32} {b : Nat} (hb : b < 2147483648) (h : inB v (N 0) (N b) = true) : ∃ k, k ≤ b ∧ v = N k := by
  simp only [inB, Bool.and_eq_true, decide_eq_true_eq] at h
  obtain ⟨h1, h2⟩ := h
  refine ⟨v.toNatClampNeg, ?_, (Int32.ofNat_toNatClampNeg v h1).symm⟩
  rw [Int32.le_iff_toInt_le, N_toInt hb] at h2
  rw [Int32.toNatClampNeg]
  omega
theorem inB_N {k a b : Nat} (hk : k < 2147483648) (ha : a < 2147483648) (hb : b < 2147483648) : inB (N k) (N a) (N b) = decide (a ≤ k ∧ k ≤ b) := by
  simp only [inB, N_le ha hk, N_le hk hb, Bool.decide_and]
/-- the heap with the class's part spread out: raw ints -/
abbrev FP (X : Nat × (Nat → Int32)) (cl : Nat → Int32) (cn : Int32) (cx : Int64) (ma ru : Int32) (sn : SV) (sg : Nat → Option Nat) (sv : Nat → SV) (cd : Nat → Int32) (ln : Int32) (pe : Int64) (pr : Int32) (ba : Nat → Int32) (fo : Int32) (us : Int64) (fr sc hs : Int32) (m : MT) (o : Nat → Int64) : PH :=
  (X, [.inr (4, [.ref 1, .ref 3, .ref 5, .ref 6, .ref 8, .ref 9, .int sc, .int hs]),
    .inr (1, [.ref 2, .int cn, .long cx, .int ma, .int ru]), arE 12 cl, stE 4 sn, arE 12 sn.1, .inl (2, 6, .inr (.inr (.inr (.inr sg)))),
    .inr (3, [.ref 7, .int ln]), arE 60 cd, .inr (0, [.long pe, .int pr]),
    .inr (2, [.ref 10, .int fo, .long us, .int fr]), arE 12 ba,
    stE 12 (sv 0), arE 12 (sv 0).1, stE 14 (sv 1), arE 12 (sv 1).1, stE 16 (sv 2), arE 12 (sv 2).1,
    stE 18 (sv 3), arE 12 (sv 3).1, stE 20 (sv 4), arE 12 (sv 4).1, stE 22 (sv 5), arE 12 (sv 5).1, .inr (5, [.ref 24, .ref 25, .int m.2.2.1, .ref 26, .int m.2.2.2.2.1, .ref 27, .ref 28, .int m.2.2.2.2.2.2.2.1, .int m.2.2.2.2.2.2.2.2.1, .ref 29, .ref 30, .int m.2.2.2.2.2.2.2.2.2.2.2.1, .int m.2.2.2.2.2.2.2.2.2.2.2.2.1, .ref 31, .int m.2.2.2.2.2.2.2.2.2.2.2.2.2.2.1, .ref 32, .ref 33, .ref 34,
      .int m.2.2.2.2.2.2.2.2.2.2.2.2.2.2.2.2.2.2.1, .int m.2.2.2.2.2.2.2.2.2.2.2.2.2.2.2.2.2.2.2.1, .long m.2.2.2.2.2.2.2.2.2.2.2.2.2.2.2.2.2.2.2.2.1, .ref 35]),
    arE 63 m.1, arE 378 m.2.1, arE 63 m.2.2.2.1, arE 96 m.2.2.2.2.2.1, arE 60 m.2.2.2.2.2.2.1, arE 12 m.2.2.2.2.2.2.2.2.2.1, arE 12 m.2.2.2.2.2.2.2.2.2.2.1, arE 12 m.2.2.2.2.2.2.2.2.2.2.2.2.2.1, arE 12 m.2.2.2.2.2.2.2.2.2.2.2.2.2.2.2.1,
    arE 12 m.2.2.2.2.2.2.2.2.2.2.2.2.2.2.2.2.1, arE 12 m.2.2.2.2.2.2.2.2.2.2.2.2.2.2.2.2.2.1, arE 12 m.2.2.2.2.2.2.2.2.2.2.2.2.2.2.2.2.2.2.2.2.2, .inl (1, 1, .inr (.inl o))])
theorem FP_HP (X : Nat × (Nat → Int32)) (cl : Nat → Int32) (cn : Int32) (cx : Int64) (ma ru : Int32) (sn : SV) (sg : Nat → Option Nat) (sv : Nat → SV) (cd : Nat → Int32) (ln : Int32) (pe : Int64) (pr : Int32) (ba : Nat → Int32) (fo : Int32) (us : Int64) (fr sc hs : Int32) (m : MT) (o : Nat → Int64) : HP X ((cl, cn, cx, ma, ru), sn, sg, sv, cd, ln, pe, pr, ba, fo, us, fr, sc, hs) m o = FP X cl cn cx ma ru sn sg sv cd ln pe pr ba fo us fr sc hs m o := rfl
abbrev KP (X : Nat × (Nat → Int32)) (cl : Nat → Nat) (cn cx ma ru : Nat) (sn : SV) (sg : Nat → Option Nat) (sv : Nat → SV) (cd : Nat → Nat) (ln pe pr : Nat) (ba : Nat → Nat) (fo us : Nat) (fr : Bool) (sc : Nat) (hs : Bool) (m : MT) (o : Nat → Int64) : PH :=
  FP X (aN cl) (N cn) (L cx) (N ma) (N ru) sn sg sv (aN cd) (N ln) (L pe) (N pr) (aN ba) (N fo) (L us) (bI fr) (N sc) (bI hs) m o
theorem bI_eq {a b : Bool} : bI a = bI b ↔ a = b := by cases a <;> cases b <;> simp [bI]
theorem N_i2c {a : Nat} (h : a < 65536) : ((N a).toUInt32 % 65536).toInt32 = N a := by
  show (UInt32.ofNat a % 65536).toInt32 = (UInt32.ofNat a).toInt32
  congr 1
  rw [← UInt32.toNat_inj, UInt32.toNat_mod, UInt32.toNat_ofNat', show (65536 : UInt32).toNat = 65536 from rfl]
  omega
theorem L_cmp0 {a b : Nat} (ha : a < 9223372036854775808) (hb : b < 9223372036854775808) : lg_cmp (L a) (L b) = 0 ↔ a = b := by
  rw [← L_eq ha hb]
  unfold lg_cmp
  by_cases h : L a = L b
  · rw [h]
    simp
  · rw [if_neg h]
    constructor
    · intro z
      split at z <;> exact absurd z (by decide)
    · intro z
      exact absurd z h
theorem bIT {b : Bool} (h : b = true) : bI b = N 1 := by rw [h]; rfl
theorem bIF {b : Bool} (h : b = false) : bI b = N 0 := by rw [h]; rfl
/-- places in a mask -/
def bt (m p : Nat) : Bool := decide (m / 2 ^ p % 2 = 1)
def pc4 (m : Nat) : Nat := m % 2 + m / 2 % 2 + m / 4 % 2 + m / 8 % 2
theorem p2_lt {p : Nat} (h : p < 4) : 2 ^ p < 16 := Nat.pow_lt_pow_right (by decide) h
theorem or_16 {a b : Nat} (ha : a < 16) (hb : b < 16) : a ||| b < 16 := Nat.or_lt_two_pow (n := 4) ha hb
theorem and_16 {a b : Nat} (ha : a < 16) : a &&& b < 16 := Nat.lt_of_le_of_lt Nat.and_le_left ha
theorem dif_16 {a b : Nat} (ha : a < 16) : dif a b < 16 := Nat.xor_lt_two_pow (n := 4) ha (and_16 ha)
theorem pc4_le (m : Nat) : pc4 m ≤ 4 := by unfold pc4; omega
theorem bT {b : Bool} (h : ¬ b = false) : b = true := by cases b <;> simp_all
theorem bF {b : Bool} (h : ¬ b = true) : b = false := by cases b <;> simp_all
