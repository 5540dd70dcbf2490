/-! GRIDS: twelve masks of four places packed into one number -/
def pkn (G : Nat → Nat) : Nat → Nat
  | 0 => 0
  | n + 1 => pkn G n + G n * 16 ^ n
def pk (G : Nat → Nat) : Nat := pkn G 12
def M16 (G : Nat → Nat) : Prop := ∀ j, j < 12 → G j < 16
theorem pkn_lt {G : Nat → Nat} {n : Nat} (h : ∀ j, j < n → G j < 16) : pkn G n < 16 ^ n := by
  induction n with
  | zero => exact Nat.zero_lt_one
  | succ n ih =>
    have i1 := ih (fun j hj => h j (by omega))
    have i2 := h n (by omega)
    have i3 : G n * 16 ^ n ≤ 15 * 16 ^ n := Nat.mul_le_mul_right _ (by omega)
    show pkn G n + G n * 16 ^ n < 16 ^ (n + 1)
    rw [Nat.pow_succ]
    generalize 16 ^ n = w at *
    generalize G n * w = v at *
    omega
theorem zk_lt {G : Nat → Nat} (h : M16 G) : pk G < 281474976710656 := pkn_lt h
theorem pkn_bit {G : Nat → Nat} {n : Nat} (h : ∀ j, j < n → G j < 16) (k : Nat) : (pkn G n).testBit k = (decide (k < 4 * n) && (G (k / 4)).testBit (k % 4)) := by
  induction n with
  | zero =>
    show (0 : Nat).testBit k = _
    rw [Nat.zero_testBit, decide_eq_false (by omega), Bool.false_and]
  | succ n ih =>
    have i1 := pkn_lt (fun j hj => h j (Nat.lt_succ_of_lt hj))
    have e : (16 : Nat) ^ n = 2 ^ (4 * n) := by rw [Nat.pow_mul]
    show (pkn G n + G n * 16 ^ n).testBit k = _
    rw [e] at i1 ⊢
    rw [Nat.add_comm, Nat.mul_comm, Nat.testBit_two_pow_mul_add _ i1, ih (fun j hj => h j (by omega))]
    by_cases hk : k < 4 * n
    · rw [if_pos hk, decide_eq_true hk, decide_eq_true (show k < 4 * (n + 1) by omega)]
    · rw [if_neg hk]
      by_cases h2 : k < 4 * (n + 1)
      · have q1 : k / 4 = n := by omega
        have q2 : k % 4 = k - 4 * n := by omega
        rw [decide_eq_true h2, q1, q2, Bool.true_and]
      · rw [decide_eq_false h2, Bool.false_and]
        refine Nat.testBit_lt_two_pow (Nat.lt_of_lt_of_le (h n (by omega)) ?_)
        show 2 ^ 4 ≤ 2 ^ (k - 4 * n)
        exact Nat.pow_le_pow_right (by decide) (by omega)
theorem zk_bit {G : Nat → Nat} (h : M16 G) (k : Nat) : (pk G).testBit k = (decide (k < 48) && (G (k / 4)).testBit (k % 4)) := pkn_bit h k
theorem bt_tb (m p : Nat) : bt m p = m.testBit p := by
  unfold bt
  rw [Nat.testBit_eq_decide_div_mod_eq]
theorem dif_bit (a b k : Nat) : (dif a b).testBit k = (a.testBit k && !b.testBit k) := by
  unfold dif
  rw [Nat.testBit_xor, Nat.testBit_and]
  cases a.testBit k <;> cases b.testBit k <;> rfl
theorem bt_dif (a b p : Nat) : bt (dif a b) p = (bt a p && !bt b p) := by rw [bt_tb, bt_tb, bt_tb, dif_bit]
theorem bt_or (a b p : Nat) : bt (a ||| b) p = (bt a p || bt b p) := by rw [bt_tb, bt_tb, bt_tb, Nat.testBit_or]
theorem bt_and (a b p : Nat) : bt (a &&& b) p = (bt a p && bt b p) := by rw [bt_tb, bt_tb, bt_tb, Nat.testBit_and]
theorem bt_zero (p : Nat) : bt 0 p = false := by rw [bt_tb, Nat.zero_testBit]
theorem bt_15 {p : Nat} (h : p < 4) : bt 15 p = true := by
  revert h
  revert p
  decide
theorem bt_pow (a p : Nat) : bt (2 ^ a) p = decide (a = p) := by rw [bt_tb, Nat.testBit_two_pow]
/-- two masks of four are the same if their places are -/
theorem m16_ext {a b : Nat} (ha : a < 16) (hb : b < 16) (h : ∀ p, p < 4 → bt a p = bt b p) : a = b := by
  refine Nat.eq_of_testBit_eq (fun i => ?_)
  by_cases hi : i < 4
  · rw [← bt_tb, ← bt_tb, h i hi]
  · rw [Nat.testBit_lt_two_pow (Nat.lt_of_lt_of_le ha (show 2 ^ 4 ≤ 2 ^ i from Nat.pow_le_pow_right (by decide) (by omega))), Nat.testBit_lt_two_pow (Nat.lt_of_lt_of_le hb (show 2 ^ 4 ≤ 2 ^ i from Nat.pow_le_pow_right (by decide) (by omega)))]
/-- a number is the grid of its bits -/
theorem zk_ext {x : Nat} {G : Nat → Nat} (hG : M16 G) (hx : x < 281474976710656) (h : ∀ i p, i < 12 → p < 4 → x.testBit (4 * i + p) = bt (G i) p) : x = pk G := by
  refine Nat.eq_of_testBit_eq (fun k => ?_)
  rw [zk_bit hG]
  by_cases hk : k < 48
  · have := h (k / 4) (k % 4) (by omega) (by omega)
    rw [Nat.div_add_mod] at this
    rw [this, decide_eq_true hk, Bool.true_and, bt_tb]
  · rw [decide_eq_false hk, Bool.false_and]
    exact Nat.testBit_lt_two_pow (Nat.lt_of_lt_of_le hx (show 2 ^ 48 ≤ 2 ^ k from Nat.pow_le_pow_right (by decide) (by omega)))
theorem zk_at {G : Nat → Nat} (hG : M16 G) {i p : Nat} (hi : i < 12) (hp : p < 4) : (pk G).testBit (4 * i + p) = bt (G i) p := by
  rw [zk_bit hG, decide_eq_true (show 4 * i + p < 48 by omega), Bool.true_and, bt_tb, show (4 * i + p) / 4 = i by omega, show (4 * i + p) % 4 = p by omega]
theorem zk_congr {F G : Nat → Nat} (h : ∀ j, j < 12 → F j = G j) : pk F = pk G := by
  have : ∀ n, n ≤ 12 → pkn F n = pkn G n := by
    intro n
    induction n with
    | zero => exact fun _ => rfl
    | succ n ih =>
      intro hn
      show pkn F n + F n * 16 ^ n = pkn G n + G n * 16 ^ n
      rw [ih (by omega), h n (by omega)]
  exact this 12 (Nat.le_refl _)
theorem zk_inj {F G : Nat → Nat} (hF : M16 F) (hG : M16 G) (h : pk F = pk G) : ∀ j, j < 12 → F j = G j := by
  intro j hj
  refine m16_ext (hF j hj) (hG j hj) (fun p hp => ?_)
  rw [← zk_at hF hj hp, ← zk_at hG hj hp, h]
theorem lt48_or {a b : Nat} (ha : a < 281474976710656) (hb : b < 281474976710656) : a ||| b < 281474976710656 := Nat.or_lt_two_pow (n := 48) ha hb
theorem lt48_dif {a b : Nat} (ha : a < 281474976710656) : dif a b < 281474976710656 := by
  unfold dif
  exact Nat.xor_lt_two_pow (n := 48) ha (Nat.lt_of_le_of_lt Nat.and_le_left ha)
theorem zk_and {F G : Nat → Nat} (hF : M16 F) (hG : M16 G) : pk F &&& pk G = pk (fun i => F i &&& G i) := by
  refine zk_ext (fun j hj => and_16 (hF j hj)) (Nat.lt_of_le_of_lt Nat.and_le_left (zk_lt hF)) (fun i p hi hp => ?_)
  rw [Nat.testBit_and, zk_at hF hi hp, zk_at hG hi hp, bt_and]
theorem zk_or {F G : Nat → Nat} (hF : M16 F) (hG : M16 G) : pk F ||| pk G = pk (fun i => F i ||| G i) := by
  refine zk_ext (fun j hj => or_16 (hF j hj) (hG j hj)) (lt48_or (zk_lt hF) (zk_lt hG)) (fun i p hi hp => ?_)
  rw [Nat.testBit_or, zk_at hF hi hp, zk_at hG hi hp, bt_or]
theorem zk_dif {F G : Nat → Nat} (hF : M16 F) (hG : M16 G) : dif (pk F) (pk G) = pk (fun i => dif (F i) (G i)) := by
  refine zk_ext (fun j hj => dif_16 (hF j hj)) (lt48_dif (zk_lt hF)) (fun i p hi hp => ?_)
  rw [dif_bit, zk_at hF hi hp, zk_at hG hi hp, bt_dif]
theorem zk_full : pk (fun _ => 15) = 281474976710655 := by decide +kernel
theorem zk_zero : pk (fun _ => 0) = 0 := by decide +kernel
theorem zk_eq0 {G : Nat → Nat} (hG : M16 G) : pk G = 0 ↔ ∀ j, j < 12 → G j = 0 := by
  constructor
  · intro h
    exact zk_inj hG (fun _ _ => by decide) (h.trans zk_zero.symm)
  · intro h
    exact (zk_congr h).trans zk_zero
theorem zk_eqF {G : Nat → Nat} (hG : M16 G) : pk G = 281474976710655 ↔ ∀ j, j < 12 → G j = 15 := by
  constructor
  · intro h
    exact zk_inj hG (fun _ _ => by decide) (h.trans zk_full.symm)
  · intro h
    exact (zk_congr h).trans zk_full
/-- the mask of an item -/
theorem zk_get {G : Nat → Nat} (hG : M16 G) (hz : Z12 G) {i : Nat} (hi : i < 16) : pk G / 2 ^ (4 * i) % 16 = G i := by
  have h16 : G i < 16 := by
    by_cases h : i < 12
    · exact hG i h
    · rw [hz i (by omega)]
      decide
  refine m16_ext (Nat.mod_lt _ (by decide)) h16 (fun p hp => ?_)
  rw [bt_tb, show (16 : Nat) = 2 ^ 4 from rfl, Nat.testBit_mod_two_pow, decide_eq_true hp, Bool.true_and, Nat.testBit_div_two_pow, Nat.add_comm]
  by_cases h : i < 12
  · rw [zk_at hG h hp]
  · rw [zk_bit hG, decide_eq_false (by omega), hz i (by omega), bt_zero, Bool.false_and]
theorem zk_sub {F G : Nat → Nat} (h : ∀ j, j < 12 → G j ≤ F j) : pk F - pk G = pk (fun i => F i - G i) := by
  have : ∀ n, n ≤ 12 → pkn G n + pkn (fun i => F i - G i) n = pkn F n := by
    intro n
    induction n with
    | zero => exact fun _ => rfl
    | succ n ih =>
      intro hn
      have i1 := ih (by omega)
      have i2 := h n (by omega)
      show pkn G n + G n * 16 ^ n + (pkn (fun i => F i - G i) n + (F n - G n) * 16 ^ n) = pkn F n + F n * 16 ^ n
      have i3 : G n * 16 ^ n + (F n - G n) * 16 ^ n = F n * 16 ^ n := by rw [← Nat.add_mul, Nat.add_sub_cancel' i2]
      omega
  have := this 12 (Nat.le_refl _)
  unfold pk
  omega
theorem zk_add {F G : Nat → Nat} : pk F + pk G = pk (fun i => F i + G i) := by
  have : ∀ n, pkn F n + pkn G n = pkn (fun i => F i + G i) n := by
    intro n
    induction n with
    | zero => rfl
    | succ n ih =>
      show pkn F n + F n * 16 ^ n + (pkn G n + G n * 16 ^ n) = pkn (fun i => F i + G i) n + (F n + G n) * 16 ^ n
      rw [← ih, Nat.add_mul]
      omega
  exact this 12
theorem zk_mul {G : Nat → Nat} (c : Nat) : pk G * c = pk (fun i => G i * c) := by
  have : ∀ n, pkn G n * c = pkn (fun i => G i * c) n := by
    intro n
    induction n with
    | zero => exact Nat.zero_mul c
    | succ n ih =>
      show (pkn G n + G n * 16 ^ n) * c = pkn (fun i => G i * c) n + G n * c * 16 ^ n
      rw [← ih, Nat.add_mul, Nat.mul_right_comm]
  exact this 12
/-! the grid's own methods, as numbers -/
def someF (m : Nat) : Nat := if m = 0 then 0 else 15
def moreF (m : Nat) : Nat := if 2 ≤ pc4 m then 15 else 0
def oneF (m : Nat) : Nat := if pc4 m = 1 then 15 else 0
theorem grid12 {P : Nat → Nat → Prop} (h : ∀ k, k < 48 → P (k / 4) (k % 4)) : ∀ i p, i < 12 → p < 4 → P i p := fun i p hi hp => by
  have := h (4 * i + p) (by omega)
  rw [show (4 * i + p) / 4 = i by omega, show (4 * i + p) % 4 = p by omega] at this
  exact this
/-- a number whose bits stand at the first places of items alone -/
theorem zk_one {x : Nat} {b : Nat → Bool} (h : ∀ k, x.testBit k = (decide (k < 48) && decide (k % 4 = 0) && b (k / 4))) : x = pk (fun i => (b i).toNat) := by
  have hM : M16 (fun i => (b i).toNat) := fun j _ => by
    show (b j).toNat < 16
    cases b j <;> decide
  refine Nat.eq_of_testBit_eq (fun k => ?_)
  rw [h, zk_bit hM]
  show _ = (decide (k < 48) && (b (k / 4)).toNat.testBit (k % 4))
  have e : k % 4 = 0 ∨ k % 4 = 1 ∨ k % 4 = 2 ∨ k % 4 = 3 := by omega
  generalize decide (k < 48) = u
  generalize b (k / 4) = v
  rcases e with e | e | e | e
  all_goals
    rw [e]
    revert u v
    decide
theorem each_bit (k : Nat) : Nat.testBit 18764998447377 k = (decide (k < 48) && decide (k % 4 = 0)) := by
  by_cases h : k < 48
  · revert h
    revert k
    decide +kernel
  · rw [decide_eq_false h, Bool.false_and]
    exact Nat.testBit_lt_two_pow (Nat.lt_of_lt_of_le (show 18764998447377 < 2 ^ 48 by decide) (Nat.pow_le_pow_right (by decide) (by omega)))
theorem tb_div (g n k : Nat) : (g / 2 ^ n).testBit k = g.testBit (k + n) := Nat.testBit_div_two_pow _ _
theorem nz4 : ∀ m, m < 16 → (m.testBit 0 || m.testBit 1 || m.testBit 2 || m.testBit 3) = !decide (m = 0) := by decide
theorem zk_nib {G : Nat → Nat} (hG : M16 G) {k d : Nat} (hk : k < 48) (h4 : k % 4 = 0) (hd : d < 4) : (pk G).testBit (k + d) = (G (k / 4)).testBit d := by
  rw [zk_bit hG, decide_eq_true (by omega), Bool.true_and, show (k + d) / 4 = k / 4 by omega, show (k + d) % 4 = d by omega]
theorem some_pk {G : Nat → Nat} (hG : M16 G) : ((((pk G ||| pk G / 2) ||| pk G / 4) ||| pk G / 8) &&& 18764998447377) * 15 = pk (fun i => someF (G i)) := by
  have e : ((((pk G ||| pk G / 2) ||| pk G / 4) ||| pk G / 8) &&& 18764998447377) = pk (fun i => (!decide (G i = 0)).toNat) := by
    refine zk_one (fun k => ?_)
    rw [Nat.testBit_and, each_bit]
    by_cases hk : k < 48
    · by_cases h4 : k % 4 = 0
      · rw [decide_eq_true hk, decide_eq_true h4, Nat.testBit_or, Nat.testBit_or, Nat.testBit_or, show pk G / 2 = pk G / 2 ^ 1 from rfl, show pk G / 4 = pk G / 2 ^ 2 from rfl, show pk G / 8 = pk G / 2 ^ 3 from rfl, tb_div, tb_div, tb_div, zk_nib hG hk h4 (by decide : 1 < 4), zk_nib hG hk h4 (by decide : 2 < 4), zk_nib hG hk h4 (by decide : 3 < 4), show (pk G).testBit k = (G (k / 4)).testBit 0 from zk_nib hG hk h4 (by decide : 0 < 4), nz4 _ (hG _ (by omega))]
        simp
      · rw [decide_eq_false h4]
        simp
    · rw [decide_eq_false hk]
      simp
  rw [e, zk_mul]
  refine zk_congr (fun j _ => ?_)
  show (!decide (G j = 0)).toNat * 15 = someF (G j)
  unfold someF
  by_cases h : G j = 0
  · rw [if_pos h, decide_eq_true h]
    rfl
  · rw [if_neg h, decide_eq_false h]
    rfl
theorem mo4 : ∀ m, m < 16 → ((m.testBit 0 && m.testBit 1 || m.testBit 2 && m.testBit 3) || (m.testBit 0 || m.testBit 1) && (m.testBit 2 || m.testBit 3)) = decide (2 ≤ pc4 m) := by decide
theorem more_pk {G : Nat → Nat} (hG : M16 G) : (((pk G &&& pk G / 2 ||| pk G / 4 &&& pk G / 8) ||| (pk G ||| pk G / 2) &&& (pk G / 4 ||| pk G / 8)) &&& 18764998447377) * 15 = pk (fun i => moreF (G i)) := by
  have e : (((pk G &&& pk G / 2 ||| pk G / 4 &&& pk G / 8) ||| (pk G ||| pk G / 2) &&& (pk G / 4 ||| pk G / 8)) &&& 18764998447377) = pk (fun i => (decide (2 ≤ pc4 (G i))).toNat) := by
    refine zk_one (fun k => ?_)
    rw [Nat.testBit_and, each_bit]
    by_cases hk : k < 48
    · by_cases h4 : k % 4 = 0
      · rw [decide_eq_true hk, decide_eq_true h4]
        simp only [Nat.testBit_or, Nat.testBit_and]
        rw [show pk G / 2 = pk G / 2 ^ 1 from rfl, show pk G / 4 = pk G / 2 ^ 2 from rfl, show pk G / 8 = pk G / 2 ^ 3 from rfl]
        simp only [tb_div]
        rw [zk_nib hG hk h4 (by decide : 1 < 4), zk_nib hG hk h4 (by decide : 2 < 4), zk_nib hG hk h4 (by decide : 3 < 4), show (pk G).testBit k = (G (k / 4)).testBit 0 from zk_nib hG hk h4 (by decide : 0 < 4), mo4 _ (hG _ (by omega))]
        simp
      · rw [decide_eq_false h4]
        simp
    · rw [decide_eq_false hk]
      simp
  rw [e, zk_mul]
  refine zk_congr (fun j _ => ?_)
  show (decide (2 ≤ pc4 (G j))).toNat * 15 = moreF (G j)
  unfold moreF
  by_cases h : 2 ≤ pc4 (G j)
  · rw [if_pos h, decide_eq_true h]
    rfl
  · rw [if_neg h, decide_eq_false h]
    rfl
theorem one_pt : ∀ m, m < 16 → dif (someF m) (moreF m) = oneF m := by decide
theorem some_16 (G : Nat → Nat) : M16 (fun i => someF (G i)) := fun j _ => by
  show someF (G j) < 16
  unfold someF
  split <;> decide
theorem more_16 (G : Nat → Nat) : M16 (fun i => moreF (G i)) := fun j _ => by
  show moreF (G j) < 16
  unfold moreF
  split <;> decide
theorem one_16 (G : Nat → Nat) : M16 (fun i => oneF (G i)) := fun j _ => by
  show oneF (G j) < 16
  unfold oneF
  split <;> decide
theorem one_pk {G : Nat → Nat} (hG : M16 G) : dif (pk (fun i => someF (G i))) (pk (fun i => moreF (G i))) = pk (fun i => oneF (G i)) := by
  rw [zk_dif (some_16 G) (more_16 G)]
  exact zk_congr (fun j hj => one_pt (G j) (hG j hj))
/-- what the three others of an item's kind have -/
def othF (G : Nat → Nat) (i : Nat) : Nat := if i % 4 = 0 then G (i + 1) ||| G (i + 2) ||| G (i + 3) else if i % 4 = 1 then G (i - 1) ||| G (i + 1) ||| G (i + 2) else if i % 4 = 2 then G (i - 2) ||| G (i - 1) ||| G (i + 1) else G (i - 3) ||| G (i - 2) ||| G (i - 1)
theorem oth_16 {G : Nat → Nat} (hG : M16 G) : M16 (othF G) := fun j hj => by
  unfold othF
  split
  · exact or_16 (or_16 (hG _ (by omega)) (hG _ (by omega))) (hG _ (by omega))
  · split
    · exact or_16 (or_16 (hG _ (by omega)) (hG _ (by omega))) (hG _ (by omega))
    · split
      · exact or_16 (or_16 (hG _ (by omega)) (hG _ (by omega))) (hG _ (by omega))
      · exact or_16 (or_16 (hG _ (by omega)) (hG _ (by omega))) (hG _ (by omega))
theorem tb_mul (g n k : Nat) : (g * 2 ^ n).testBit k = (decide (n ≤ k) && g.testBit (k - n)) := Nat.testBit_mul_two_pow _ _ _
theorem oth_m1 : ∀ k, k < 48 → Nat.testBit 281410551218160 k = (!decide (k / 4 % 4 = 0)) := by decide +kernel
theorem oth_m2 : ∀ k, k < 48 → Nat.testBit 64425492495 k = (decide (k / 4 % 4 = 0)) := by decide +kernel
theorem oth_m3 : ∀ k, k < 48 → Nat.testBit 280379743338240 k = (decide (2 ≤ k / 4 % 4)) := by decide +kernel
theorem oth_m4 : ∀ k, k < 48 → Nat.testBit 1095233372415 k = (decide (k / 4 % 4 < 2)) := by decide +kernel
theorem oth_m5 : ∀ k, k < 48 → Nat.testBit 263886817259520 k = (decide (k / 4 % 4 = 3)) := by decide +kernel
theorem oth_m6 : ∀ k, k < 48 → Nat.testBit 17588159451135 k = (!decide (k / 4 % 4 = 3)) := by decide +kernel
theorem up_bit {G : Nat → Nat} (hG : M16 G) {i p d : Nat} (hi : i < 12) (hp : p < 4) (hd : d ≤ i) : (pk G * 2 ^ (4 * d)).testBit (4 * i + p) = bt (G (i - d)) p := by
  rw [tb_mul, decide_eq_true (by omega), Bool.true_and, show 4 * i + p - 4 * d = 4 * (i - d) + p by omega, zk_at hG (by omega) hp]
theorem down_bit {G : Nat → Nat} (hG : M16 G) {i p d : Nat} (hi : i + d < 12) (hp : p < 4) : (pk G / 2 ^ (4 * d)).testBit (4 * i + p) = bt (G (i + d)) p := by
  rw [tb_div, show 4 * i + p + 4 * d = 4 * (i + d) + p by omega, zk_at hG hi hp]
theorem oth_pk {G : Nat → Nat} (hG : M16 G) : (((16 * pk G &&& 281410551218160) ||| (pk G / 4096 &&& 64425492495)) ||| ((256 * pk G &&& 280379743338240) ||| (pk G / 256 &&& 1095233372415))) ||| ((4096 * pk G &&& 263886817259520) ||| (pk G / 16 &&& 17588159451135)) = pk (othF G) := by
  refine zk_ext (oth_16 hG) ?_ (fun i p hi hp => ?_)
  · have b1 := Nat.and_lt_two_pow (n := 48) (16 * pk G) (show 281410551218160 < 2 ^ 48 by decide)
    have b2 := Nat.and_lt_two_pow (n := 48) (pk G / 4096) (show 64425492495 < 2 ^ 48 by decide)
    have b3 := Nat.and_lt_two_pow (n := 48) (256 * pk G) (show 280379743338240 < 2 ^ 48 by decide)
    have b4 := Nat.and_lt_two_pow (n := 48) (pk G / 256) (show 1095233372415 < 2 ^ 48 by decide)
    have b5 := Nat.and_lt_two_pow (n := 48) (4096 * pk G) (show 263886817259520 < 2 ^ 48 by decide)
    have b6 := Nat.and_lt_two_pow (n := 48) (pk G / 16) (show 17588159451135 < 2 ^ 48 by decide)
    exact Nat.or_lt_two_pow (n := 48) (Nat.or_lt_two_pow (Nat.or_lt_two_pow b1 b2) (Nat.or_lt_two_pow b3 b4)) (Nat.or_lt_two_pow b5 b6)
  · have hk : 4 * i + p < 48 := by omega
    have q : (4 * i + p) / 4 % 4 = i % 4 := by omega
    rw [show 16 * pk G = pk G * 2 ^ (4 * 1) from Nat.mul_comm _ _, show 256 * pk G = pk G * 2 ^ (4 * 2) from Nat.mul_comm _ _, show 4096 * pk G = pk G * 2 ^ (4 * 3) from Nat.mul_comm _ _, show pk G / 16 = pk G / 2 ^ (4 * 1) from rfl, show pk G / 256 = pk G / 2 ^ (4 * 2) from rfl, show pk G / 4096 = pk G / 2 ^ (4 * 3) from rfl]
    rw [Nat.testBit_or, Nat.testBit_or, Nat.testBit_or, Nat.testBit_or, Nat.testBit_or, Nat.testBit_and, Nat.testBit_and, Nat.testBit_and, Nat.testBit_and, Nat.testBit_and, Nat.testBit_and, oth_m1 _ hk, oth_m2 _ hk, oth_m3 _ hk, oth_m4 _ hk, oth_m5 _ hk, oth_m6 _ hk, q]
    have e : i % 4 = 0 ∨ i % 4 = 1 ∨ i % 4 = 2 ∨ i % 4 = 3 := by omega
    unfold othF
    rcases e with e | e | e | e
    · rw [down_bit hG (by omega) hp, down_bit hG (by omega) hp, down_bit hG (by omega) hp, e, if_pos rfl, bt_or, bt_or]
      cases bt (G (i + 1)) p <;> cases bt (G (i + 2)) p <;> cases bt (G (i + 3)) p <;> simp
    · rw [up_bit hG hi hp (d := 1) (by omega), down_bit hG (d := 1) (by omega) hp, down_bit hG (d := 2) (by omega) hp, e, if_neg (by decide), if_pos rfl, bt_or, bt_or]
      cases bt (G (i - 1)) p <;> cases bt (G (i + 1)) p <;> cases bt (G (i + 2)) p <;> simp
    · rw [up_bit hG hi hp (d := 1) (by omega), up_bit hG hi hp (d := 2) (by omega), down_bit hG (d := 1) (by omega) hp, e, if_neg (by decide), if_neg (by decide), if_pos rfl, bt_or, bt_or]
      cases bt (G (i - 2)) p <;> cases bt (G (i - 1)) p <;> cases bt (G (i + 1)) p <;> simp
    · rw [up_bit hG hi hp (d := 1) (by omega), up_bit hG hi hp (d := 2) (by omega), up_bit hG hi hp (d := 3) (by omega), e, if_neg (by decide), if_neg (by decide), if_neg (by decide), bt_or, bt_or]
      cases bt (G (i - 3)) p <;> cases bt (G (i - 2)) p <;> cases bt (G (i - 1)) p <;> simp
/-- ruled out by another item of the kind that has this place left alone; by the need of the item elsewhere -/
def takF (G : Nat → Nat) (i : Nat) : Nat := G i &&& othF (fun j => G j &&& oneF (G j)) i
def aloF (G : Nat → Nat) (i : Nat) : Nat := dif (G i) (othF G i)
def neeF (G : Nat → Nat) (i : Nat) : Nat := G i &&& (dif (oneF (aloF G i)) (aloF G i) ||| moreF (aloF G i))
def conF (G : Nat → Nat) : Bool := anyN (fun i => decide (G i = 0) || !decide (G i ||| othF G i = 15)) 12
theorem gone_16 {G : Nat → Nat} (hG : M16 G) : M16 (fun j => G j &&& oneF (G j)) := fun j hj => and_16 (hG j hj)
theorem alo_16 {G : Nat → Nat} (hG : M16 G) : M16 (aloF G) := fun j hj => dif_16 (hG j hj)
theorem tak_16 {G : Nat → Nat} (hG : M16 G) : M16 (takF G) := fun j hj => and_16 (hG j hj)
theorem nee_16 {G : Nat → Nat} (hG : M16 G) : M16 (neeF G) := fun j hj => and_16 (hG j hj)
