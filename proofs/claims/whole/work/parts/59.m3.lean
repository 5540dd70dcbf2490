/-! SEARCH: how many arrangements lie in a grid (by hand) -/
def hAl (S : Nat → Nat) (n : Nat) : Bool := !anyN (fun k => !heldB S (arr odC n) k) (S 0)
def inF (f : Nat → Nat) (n : Nat) : Bool := !anyN (fun i => !bt (f i) (arr odC n i)) 12
/-- arrangements among the first n in which all clues hold and that lie in the grid -/
def cSn (S f : Nat → Nat) : Nat → Nat
  | 0 => 0
  | n + 1 => cSn S f n + (hAl S n && inF f n).toNat
theorem not_any {f : Nat → Bool} {n : Nat} : (!anyN (fun k => !f k) n) = true ↔ ∀ k, k < n → f k = true := by
  rw [Bool.not_eq_true', anyN_not]
  constructor
  · intro h k hk
    have := h k hk
    simpa using this
  · intro h k hk
    rw [h k hk]
    rfl
theorem inF_iff {f : Nat → Nat} {n : Nat} : inF f n = true ↔ ∀ i, i < 12 → bt (f i) (arr odC n i) = true := not_any
theorem hAl_iff {S : Nat → Nat} {n : Nat} : hAl S n = true ↔ ∀ k, k < S 0 → heldB S (arr odC n) k = true := not_any
theorem arM_bt {sp : Nat → Nat} {i p : Nat} (hi : i < 12) : bt (arM sp i) p = decide (sp i = p) := by rw [arM_at hi, bt_pow]
theorem inF_sub {f : Nat → Nat} {n : Nat} : inF f n = true ↔ Sub (arM (arr odC n)) f := by
  rw [inF_iff]
  constructor
  · intro h i p hb
    have hi := bt_i12 (arM_z _) hb
    rw [arM_bt hi, decide_eq_true_eq] at hb
    rw [← hb]
    exact h i hi
  · intro h i hi
    refine h i _ ?_
    rw [arM_bt hi, decide_eq_true rfl]
theorem pm_1 : ∀ c, c < 24 → ∀ s, s < 4 → ∀ t, t < 4 → odC (4 * c + s) = odC (4 * c + t) → s = t := by decide +kernel
theorem pm_2 : ∀ c, c < 24 → ∀ p, p < 4 → odC (4 * c + 0) = p ∨ odC (4 * c + 1) = p ∨ odC (4 * c + 2) = p ∨ odC (4 * c + 3) = p := by decide +kernel
def keyQ (c : Nat) : Nat := odC (4 * c + 0) + 4 * odC (4 * c + 1) + 16 * odC (4 * c + 2) + 64 * odC (4 * c + 3)
theorem pm_3k : ∀ c, c < 24 → ∀ d, d < 24 → keyQ c = keyQ d → c = d := by decide +kernel
theorem pm_3 (c : Nat) (hc : c < 24) (d : Nat) (hd : d < 24) (h0 : odC (4 * c + 0) = odC (4 * d + 0)) (h1 : odC (4 * c + 1) = odC (4 * d + 1)) (h2 : odC (4 * c + 2) = odC (4 * d + 2)) (h3 : odC (4 * c + 3) = odC (4 * d + 3)) : c = d := pm_3k c hc d hd (by unfold keyQ; rw [h0, h1, h2, h3])
def ixQ (a b c d : Nat) : Nat := (fs (fun k => decide (odC (4 * k + 0) = a) && decide (odC (4 * k + 1) = b) && decide (odC (4 * k + 2) = c) && decide (odC (4 * k + 3) = d)) 0 24).getD 0
def covQ (a b c d : Nat) : Bool := (List.range 4).all fun p => decide (a = p) || decide (b = p) || decide (c = p) || decide (d = p)
def okQ (a b c d : Nat) : Bool := decide (ixQ a b c d < 24) && decide (odC (4 * ixQ a b c d + 0) = a) && decide (odC (4 * ixQ a b c d + 1) = b) && decide (odC (4 * ixQ a b c d + 2) = c) && decide (odC (4 * ixQ a b c d + 3) = d)
theorem pm_4k : ∀ a, a < 4 → ∀ b, b < 4 → ∀ c, c < 4 → ∀ d, d < 4 → (!covQ a b c d || okQ a b c d) = true := by decide +kernel
theorem pm_4 (a : Nat) (ha : a < 4) (b : Nat) (hb : b < 4) (c : Nat) (hc : c < 4) (d : Nat) (hd : d < 4) (h : ∀ p, p < 4 → a = p ∨ b = p ∨ c = p ∨ d = p) : ixQ a b c d < 24 ∧ odC (4 * ixQ a b c d + 0) = a ∧ odC (4 * ixQ a b c d + 1) = b ∧ odC (4 * ixQ a b c d + 2) = c ∧ odC (4 * ixQ a b c d + 3) = d := by
  have hk := pm_4k a ha b hb c hc d hd
  have hv : covQ a b c d = true := List.all_eq_true.mpr (fun p hp => by
    have := h p (List.mem_range.mp hp)
    simp only [Bool.or_eq_true, decide_eq_true_eq]
    rcases this with z | z | z | z
    · exact Or.inl (Or.inl (Or.inl z))
    · exact Or.inl (Or.inl (Or.inr z))
    · exact Or.inl (Or.inr z)
    · exact Or.inr z)
  rw [hv, Bool.not_true, Bool.false_or] at hk
  unfold okQ at hk
  simp only [Bool.and_eq_true, decide_eq_true_eq] at hk
  exact ⟨hk.1.1.1.1, hk.1.1.1.2, hk.1.1.2, hk.1.2, hk.2⟩
def kcN (n k : Nat) : Nat := if k = 0 then n / 24 / 24 % 24 else if k = 1 then n / 24 % 24 else n % 24
theorem kcN_24 (n k : Nat) : kcN n k < 24 := by
  unfold kcN
  split
  · exact Nat.mod_lt _ (by decide)
  · split <;> exact Nat.mod_lt _ (by decide)
theorem arr_k {n k t : Nat} (hk : k < 3) (ht : t < 4) : arr odC n (4 * k + t) = odC (4 * kcN n k + t) := by
  unfold arr kcN
  rcases (show k = 0 ∨ k = 1 ∨ k = 2 by omega) with rfl | rfl | rfl
  · rw [if_pos (by omega), if_pos rfl, show 4 * 0 + t = t by omega]
  · rw [if_neg (by omega), if_pos (by omega), if_neg (by decide), if_pos rfl, show 4 * 1 + t - 4 = t by omega]
  · rw [if_neg (by omega), if_neg (by omega), if_pos (by omega), if_neg (by decide), if_neg (by decide), show 4 * 2 + t - 8 = t by omega]
theorem bt_ite (c : Prop) [Decidable c] (x q : Nat) : bt (if c then 0 else x) q = (!decide c && bt x q) := by
  by_cases h : c
  · rw [if_pos h, decide_eq_true h, bt_zero]
    rfl
  · rw [if_neg h, decide_eq_false h]
    rfl
theorem oth_bt (g : Nat → Nat) (i q : Nat) : bt (othF g i) q = anyN (fun t => !decide (4 * (i / 4) + t = i) && bt (g (4 * (i / 4) + t)) q) 4 := by
  rw [← oth_eq, oth4, bt_or, bt_or, bt_or, bt_or, bt_zero, bt_ite, bt_ite, bt_ite, bt_ite]
  rfl
theorem arr_cov (n : Nat) {i q : Nat} (hi : i < 12) (hq : q < 4) : ∃ t, t < 4 ∧ arr odC n (4 * (i / 4) + t) = q := by
  rcases pm_2 (kcN n (i / 4)) (kcN_24 _ _) q hq with h | h | h | h
  · exact ⟨0, by decide, (arr_k (by omega) (by decide)).trans h⟩
  · exact ⟨1, by decide, (arr_k (by omega) (by decide)).trans h⟩
  · exact ⟨2, by decide, (arr_k (by omega) (by decide)).trans h⟩
  · exact ⟨3, by decide, (arr_k (by omega) (by decide)).trans h⟩
theorem arr_inj (n : Nat) {i t : Nat} (hi : i < 12) (ht : t < 4) (h : arr odC n (4 * (i / 4) + t) = arr odC n i) : 4 * (i / 4) + t = i := by
  have e : i = 4 * (i / 4) + i % 4 := by omega
  have e2 : arr odC n i = odC (4 * kcN n (i / 4) + i % 4) := by
    have := arr_k (n := n) (k := i / 4) (t := i % 4) (by omega) (by omega)
    rw [← e] at this
    exact this
  rw [arr_k (by omega) ht, e2] at h
  have := pm_1 _ (kcN_24 n (i / 4)) t ht (i % 4) (by omega) h
  omega
theorem arM_con (n : Nat) : conF (arM (arr odC n)) = false := con_iff.mpr (fun i hi => by
  have h4 := arr_4 odC_4 n
  refine ⟨?_, m16_ext (or_16 (arM_16 h4 i hi) (oth_16 (arM_16 h4) i hi)) (by decide) (fun q hq => ?_)⟩
  · rw [arM_at hi]
    exact Nat.ne_of_gt (Nat.two_pow_pos _)
  · rw [bt_15 hq, bt_or, Bool.or_eq_true]
    obtain ⟨t, ht, e⟩ := arr_cov n hi hq
    by_cases h : 4 * (i / 4) + t = i
    · left
      rw [arM_bt hi, ← h, decide_eq_true e]
    · right
      rw [oth_bt]
      refine anyN_iff.mpr ⟨t, ht, ?_⟩
      rw [decide_eq_false h, arM_bt (by omega), decide_eq_true e]
      rfl)
/-! clues over grids of single places -/
theorem fit_0 : ∀ so, so < 4 → ∀ a, a < 4 → ∀ b, b < 4 → hl0 so (2 ^ b) a = fitB so a b := by decide +kernel
theorem fit_1 : ∀ so, so < 4 → ∀ a, a < 4 → ∀ b, b < 4 → hl1 so (2 ^ a) b = fitB so a b := by decide +kernel
theorem fit_6a : ∀ a, a < 4 → ∀ b, b < 4 → ∀ c, c < 4 → hl6a (2 ^ b) (2 ^ c) a = (decide (a = b) || decide (a = c)) := by decide +kernel
theorem fit_6b : ∀ a, a < 4 → ∀ b, b < 4 → ∀ c, c < 4 → hl6b (2 ^ a) (2 ^ c) b = (decide (a = b) || decide (a = c)) := by decide +kernel
theorem fit_6c : ∀ a, a < 4 → ∀ b, b < 4 → ∀ c, c < 4 → hl6c (2 ^ a) (2 ^ b) c = (decide (a = b) || decide (a = c)) := by decide +kernel
/-- a clue would hold with an item of it where it stands, just if it holds -/
theorem hld_held {S sp g : Nat → Nat} {k i : Nat} (hV : VC S) (hk : k < S 0) (hsp : ∀ j, j < 12 → sp j < 4) (hg : ∀ j, j < 12 → g j = 2 ^ sp j) (hi : i < 12) (ho : ofB S k i = true) : hld S g k i (sp i) = heldB S sp k := by
  obtain ⟨c1, hx, c3, c4, c5⟩ := hV.2.2 k hk
  have gx := hsp _ hx
  by_cases h45 : S (4 * k + 1) = 4 ∨ S (4 * k + 1) = 5
  · rw [ofB_1 h45 hi hx, decide_eq_true_eq] at ho
    subst ho
    rcases h45 with h | h
    · unfold hld heldB
      rw [if_pos h, if_pos h]
    · unfold hld heldB
      rw [if_neg (by omega), if_pos h, if_neg (by omega), if_pos h]
  · have h4 : ¬ S (4 * k + 1) = 4 := fun z => h45 (Or.inl z)
    have h5 : ¬ S (4 * k + 1) = 5 := fun z => h45 (Or.inr z)
    obtain ⟨hy, hxy⟩ := c4 h4 h5
    have gy := hsp _ hy
    by_cases h6 : S (4 * k + 1) = 6
    · obtain ⟨hw, hxz, hyz⟩ := c5 h6
      have gz := hsp _ hw
      have e : heldB S sp k = (decide (sp (S (4 * k + 2)) = sp (S (4 * k + 3))) || decide (sp (S (4 * k + 2)) = sp (S (4 * k + 4)))) := by
        unfold heldB
        rw [if_neg h4, if_neg h5, if_pos h6]
      rw [e]
      rw [ofB_3 h6 hi hx hy hw, Bool.or_eq_true, Bool.or_eq_true, decide_eq_true_eq, decide_eq_true_eq, decide_eq_true_eq] at ho
      rcases ho with (rfl | rfl) | rfl
      · rw [hld_6a h6 hxy hxz, hg _ hy, hg _ hw, fit_6a _ gx _ gy _ gz]
      · rw [hld_6b h6 hxy hyz, hg _ hx, hg _ hw, fit_6b _ gx _ gy _ gz]
      · rw [hld_6c h6 hxz hyz, hg _ hx, hg _ hy, fit_6c _ gx _ gy _ gz]
    · have hs : S (4 * k + 1) < 4 := by omega
      have e : heldB S sp k = fitB (S (4 * k + 1)) (sp (S (4 * k + 2))) (sp (S (4 * k + 3))) := by
        unfold heldB
        rw [if_neg h4, if_neg h5, if_neg h6]
      rw [e]
      rw [ofB_2 hs hi hx hy, Bool.or_eq_true, decide_eq_true_eq, decide_eq_true_eq] at ho
      rcases ho with rfl | rfl
      · rw [hld_0 hs hxy, hg _ hy, fit_0 _ hs _ gx _ gy]
      · rw [hld_1 hs hxy, hg _ hx, fit_1 _ hs _ gx _ gy]
theorem ofB_x {S : Nat → Nat} {k : Nat} (hV : VC S) (hk : k < S 0) : ofB S k (S (4 * k + 2)) = true := by
  obtain ⟨c1, hx, c3, c4, c5⟩ := hV.2.2 k hk
  have e0 : itmI S k 0 = N (S (4 * k + 2)) := rfl
  unfold ofB
  rw [e0, decide_eq_true rfl]
  rfl
/-- nothing is ruled out of an arrangement in which all clues hold -/
theorem arM_stab {S : Nat → Nat} {n : Nat} (hV : VC S) (h : hAl S n = true) : Stab S (arM (arr odC n)) := fun i p hi hp hb => by
  have h4 := arr_4 odC_4 n
  rw [arM_bt hi, decide_eq_true_eq] at hb
  subst hb
  refine ⟨anyN_not.mpr (fun k hk => ?_), anyN_not.mpr (fun t ht => ?_), ?_⟩
  · show rul S (arM (arr odC n)) i (arr odC n i) k = false
    unfold rul
    cases ho : ofB S k i with
    | false => rfl
    | true =>
      rw [hld_held hV hk h4 (fun j hj => arM_at hj) hi ho, hAl_iff.mp h k hk]
      rfl
  · show (!decide (4 * (i / 4) + t = i) && decide (arM (arr odC n) (4 * (i / 4) + t) = 2 ^ arr odC n i)) = false
    by_cases e : 4 * (i / 4) + t = i
    · rw [decide_eq_true e]
      rfl
    · rw [arM_at (by omega), pw_1 _ (h4 _ (by omega)) _ (h4 _ hi), decide_eq_false (fun z => e (arr_inj n hi ht z)), Bool.and_false]
  · unfold ownN
    refine m16_0 (dif_16 (dif_16 (arM_16 h4 i hi))) (fun q _ => ?_)
    rw [bt_dif, bt_dif, arM_bt hi, bt_pow]
    cases decide (arr odC n i = q) <;> simp
/-! counting -/
theorem cSn_congr {S f g : Nat → Nat} : ∀ m, (∀ n, n < m → hAl S n = true → inF f n = inF g n) → cSn S f m = cSn S g m
  | 0, _ => rfl
  | m + 1, h => by
    show cSn S f m + (hAl S m && inF f m).toNat = cSn S g m + (hAl S m && inF g m).toNat
    rw [cSn_congr m (fun n hn => h n (by omega))]
    cases e : hAl S m with
    | false => rfl
    | true => rw [h m (by omega) e]
theorem cSn_byt {S f : Nat → Nat} (hV : VC S) (hf : M16 f) (m : Nat) : cSn S f m = cSn S (BYT S f) m := cSn_congr m (fun n _ hn => by
  cases e : inF f n with
  | true => exact (inF_sub.mpr (keep_bys (arM_16 (arr_4 odC_4 n)) (arM_z _) (arM_con n) (arM_stab hV hn) 49 hf (inF_sub.mp e))).symm
  | false => exact (bF (fun z => by rw [inF_sub.mpr (Sub.tr (inF_sub.mp z) (bys_sub 49))] at e; cases e)).symm)
theorem cSn_0 {S f : Nat → Nat} : ∀ m, (∀ n, n < m → hAl S n = true → inF f n = false) → cSn S f m = 0
  | 0, _ => rfl
  | m + 1, h => by
    show cSn S f m + (hAl S m && inF f m).toNat = 0
    rw [cSn_0 m (fun n hn => h n (by omega))]
    cases e : hAl S m with
    | false => rfl
    | true => rw [h m (by omega) e]; rfl
theorem cSn_con {S b : Nat → Nat} (hb : M16 b) (h : conF b = true) (m : Nat) : cSn S b m = 0 := cSn_0 m (fun n _ _ => bF (fun z => by
  rw [con_up hb (inF_sub.mp z) (arM_16 (arr_4 odC_4 n)) (arM_con n)] at h
  cases h))
theorem cSn_1 {S f : Nat → Nat} {n0 : Nat} (h1 : hAl S n0 = true) (h2 : inF f n0 = true) : ∀ m, (∀ n, n < m → inF f n = true → n = n0) → cSn S f m = (decide (n0 < m)).toNat
  | 0, _ => rfl
  | m + 1, h => by
    show cSn S f m + (hAl S m && inF f m).toNat = _
    rw [cSn_1 h1 h2 m (fun n hn => h n (by omega))]
    by_cases e : m = n0
    · subst e
      rw [h1, h2, decide_eq_false (Nat.lt_irrefl m), decide_eq_true (Nat.lt_succ_self m)]
      rfl
    · have e2 : inF f m = false := bF (fun z => e (h m (by omega) z))
      rw [e2, Bool.and_false, show decide (n0 < m + 1) = decide (n0 < m) from decide_eq_decide.mpr (by omega)]
      rfl
def lgM (a : Nat) : Nat := if a = 1 then 0 else if a = 2 then 1 else if a = 4 then 2 else 3
theorem lg_pt : ∀ a, a < 16 → ¬ a = 0 → ¬ 2 ≤ pc4 a → a = 2 ^ lgM a ∧ lgM a < 4 := by decide
theorem cSn_one {S b : Nat → Nat} (hV : VC S) (hb : M16 b) (hc : conF b = false) (hm : fmO b = none) (hst : Stab S b) : cSn S b 13824 = 1 := by
  have hs : ∀ i, i < 12 → b i = 2 ^ lgM (b i) ∧ lgM (b i) < 4 := fun i hi => by
    have h1 := fs_none.mp hm i (by omega) (by omega)
    exact lg_pt _ (hb i hi) (con_iff.mp hc i hi).1 (of_decide_eq_false h1)
  have cov : ∀ k, k < 3 → ∀ p, p < 4 → lgM (b (4 * k + 0)) = p ∨ lgM (b (4 * k + 1)) = p ∨ lgM (b (4 * k + 2)) = p ∨ lgM (b (4 * k + 3)) = p := by
    intro k hk p hp
    have h0 := (con_iff.mp hc (4 * k) (by omega)).2
    have h1 : bt (b (4 * k) ||| othF b (4 * k)) p = true := by rw [h0, bt_15 hp]
    rw [othF, if_pos (by omega), bt_or, bt_or, bt_or, Bool.or_eq_true, Bool.or_eq_true, Bool.or_eq_true] at h1
    have g : ∀ j, j < 12 → bt (b j) p = true → lgM (b j) = p := fun j hj z => by
      rw [(hs j hj).1, bt_pow, decide_eq_true_eq] at z
      exact z
    rcases h1 with z | (z | z) | z
    · exact Or.inl (g _ (by omega) z)
    · exact Or.inr (Or.inl (g _ (by omega) z))
    · exact Or.inr (Or.inr (Or.inl (g _ (by omega) z)))
    · exact Or.inr (Or.inr (Or.inr (g _ (by omega) z)))
  have px : ∀ k, k < 3 → ∃ c, c < 24 ∧ ∀ t, t < 4 → odC (4 * c + t) = lgM (b (4 * k + t)) := fun k hk => by
    obtain ⟨q1, q2, q3, q4, q5⟩ := pm_4 _ (hs (4 * k + 0) (by omega)).2 _ (hs (4 * k + 1) (by omega)).2 _ (hs (4 * k + 2) (by omega)).2 _ (hs (4 * k + 3) (by omega)).2 (cov k hk)
    refine ⟨_, q1, fun t ht => ?_⟩
    rcases (show t = 0 ∨ t = 1 ∨ t = 2 ∨ t = 3 by omega) with rfl | rfl | rfl | rfl
    · exact q2
    · exact q3
    · exact q4
    · exact q5
  obtain ⟨c0, d0, e0⟩ := px 0 (by decide)
  obtain ⟨c1, d1, e1⟩ := px 1 (by decide)
  obtain ⟨c2, d2, e2⟩ := px 2 (by decide)
  have hn : 576 * c0 + 24 * c1 + c2 < 13824 := by omega
  have k0 : kcN (576 * c0 + 24 * c1 + c2) 0 = c0 := by
    show (576 * c0 + 24 * c1 + c2) / 24 / 24 % 24 = c0
    omega
  have k1 : kcN (576 * c0 + 24 * c1 + c2) 1 = c1 := by
    show (576 * c0 + 24 * c1 + c2) / 24 % 24 = c1
    omega
  have k2 : kcN (576 * c0 + 24 * c1 + c2) 2 = c2 := by
    show (576 * c0 + 24 * c1 + c2) % 24 = c2
    omega
  have ar : ∀ i, i < 12 → arr odC (576 * c0 + 24 * c1 + c2) i = lgM (b i) := fun i hi => by
    have e : i = 4 * (i / 4) + i % 4 := by omega
    rcases (show i / 4 = 0 ∨ i / 4 = 1 ∨ i / 4 = 2 by omega) with h | h | h
    · rw [h] at e
      rw [e, arr_k (by decide) (by omega), k0, e0 _ (by omega)]
    · rw [h] at e
      rw [e, arr_k (by decide) (by omega), k1, e1 _ (by omega)]
    · rw [h] at e
      rw [e, arr_k (by decide) (by omega), k2, e2 _ (by omega)]
  have hg : ∀ j, j < 12 → b j = 2 ^ arr odC (576 * c0 + 24 * c1 + c2) j := fun j hj => by
    rw [ar j hj]
    exact (hs j hj).1
  have hin : inF b (576 * c0 + 24 * c1 + c2) = true := inF_iff.mpr (fun i hi => by
    rw [hg i hi, bt_pow, decide_eq_true rfl])
  have hal : hAl S (576 * c0 + 24 * c1 + c2) = true := hAl_iff.mpr (fun k hk => by
    obtain ⟨-, hx, -⟩ := hV.2.2 k hk
    have h4 := arr_4 odC_4 (576 * c0 + 24 * c1 + c2)
    have ho := ofB_x hV hk
    have st := (hst (S (4 * k + 2)) (arr odC (576 * c0 + 24 * c1 + c2) (S (4 * k + 2))) hx (h4 _ hx) (by rw [hg _ hx, bt_pow, decide_eq_true rfl])).1
    have st2 := anyN_not.mp st k hk
    have st3 : rul S b (S (4 * k + 2)) (arr odC (576 * c0 + 24 * c1 + c2) (S (4 * k + 2))) k = false := st2
    rw [rul, ho, Bool.true_and, hld_held hV hk h4 hg hx ho] at st3
    simpa using st3)
  rw [cSn_1 hal hin 13824 (fun n hn2 hi => ?_), decide_eq_true hn]
  · rfl
  · have eq : ∀ i, i < 12 → arr odC n i = arr odC (576 * c0 + 24 * c1 + c2) i := fun i hi2 => by
      have z := inF_iff.mp hi i hi2
      rw [hg i hi2, bt_pow, decide_eq_true_eq] at z
      exact z.symm
    have kk : ∀ k, k < 3 → kcN n k = kcN (576 * c0 + 24 * c1 + c2) k := fun k hk => by
      have f : ∀ t, t < 4 → odC (4 * kcN n k + t) = odC (4 * kcN (576 * c0 + 24 * c1 + c2) k + t) := fun t ht => by
        rw [← arr_k hk ht, ← arr_k hk ht]
        exact eq _ (by omega)
      exact pm_3 _ (kcN_24 _ _) _ (kcN_24 _ _) (f 0 (by decide)) (f 1 (by decide)) (f 2 (by decide)) (f 3 (by decide))
    have w0 := kk 0 (by decide)
    have w1 := kk 1 (by decide)
    have w2 := kk 2 (by decide)
    rw [k0] at w0
    rw [k1] at w1
    rw [k2] at w2
    have v0 : n / 24 / 24 % 24 = c0 := w0
    have v1 : n / 24 % 24 = c1 := w1
    have v2 : n % 24 = c2 := w2
    omega
/-- the sum over the places of an item -/
def smN (S b : Nat → Nat) (i m : Nat) : Nat → Nat := itN (fun p x => if bt (b i) p then x + cSn S (woF b i p) m else x) 0
theorem wo_at {b : Nat → Nat} {i p : Nat} : woF b i p i = 2 ^ p := if_pos rfl
theorem wo_ne {b : Nat → Nat} {i p j : Nat} (h : ¬ j = i) : woF b i p j = b j := if_neg h
theorem wo_z {b : Nat → Nat} {i p : Nat} (hz : Z12 b) (hi : i < 12) : Z12 (woF b i p) := fun j hj => by
  rw [wo_ne (by omega)]
  exact hz j hj
theorem inF_wo {b : Nat → Nat} {i p n : Nat} (hi : i < 12) (hp : bt (b i) p = true) : inF (woF b i p) n = (inF b n && decide (arr odC n i = p)) := by
  by_cases e : arr odC n i = p
  · rw [decide_eq_true e, Bool.and_true]
    have : ∀ j, bt (woF b i p j) (arr odC n j) = bt (b j) (arr odC n j) := fun j => by
      by_cases h : j = i
      · rw [h, wo_at, e, hp, bt_pow, decide_eq_true rfl]
      · rw [wo_ne h]
    unfold inF
    congr 2
    funext j
    rw [this]
  · rw [decide_eq_false e, Bool.and_false]
    refine bF (fun z => ?_)
    have := inF_iff.mp z i hi
    rw [wo_at, bt_pow, decide_eq_true_eq] at this
    exact e this.symm
theorem sm_step {S b : Nat → Nat} {i m : Nat} (hi : i < 12) : smN S b i (m + 1) 4 = smN S b i m 4 + (hAl S m && inF b m).toNat := by
  have c : ∀ p, cSn S (woF b i p) (m + 1) = cSn S (woF b i p) m + (hAl S m && inF (woF b i p) m).toNat := fun _ => rfl
  have e : ∀ k, smN S b i k 4 = (if bt (b i) 3 then (if bt (b i) 2 then (if bt (b i) 1 then (if bt (b i) 0 then 0 + cSn S (woF b i 0) k else 0) + cSn S (woF b i 1) k else (if bt (b i) 0 then 0 + cSn S (woF b i 0) k else 0)) + cSn S (woF b i 2) k else (if bt (b i) 1 then (if bt (b i) 0 then 0 + cSn S (woF b i 0) k else 0) + cSn S (woF b i 1) k else (if bt (b i) 0 then 0 + cSn S (woF b i 0) k else 0))) + cSn S (woF b i 3) k else (if bt (b i) 2 then (if bt (b i) 1 then (if bt (b i) 0 then 0 + cSn S (woF b i 0) k else 0) + cSn S (woF b i 1) k else (if bt (b i) 0 then 0 + cSn S (woF b i 0) k else 0)) + cSn S (woF b i 2) k else (if bt (b i) 1 then (if bt (b i) 0 then 0 + cSn S (woF b i 0) k else 0) + cSn S (woF b i 1) k else (if bt (b i) 0 then 0 + cSn S (woF b i 0) k else 0)))) := fun _ => rfl
  have w : ∀ p, bt (b i) p = true → (hAl S m && inF (woF b i p) m).toNat = if arr odC m i = p then (hAl S m && inF b m).toNat else 0 := fun p hp => by
    rw [inF_wo hi hp]
    by_cases h : arr odC m i = p
    · rw [decide_eq_true h, Bool.and_true, if_pos h]
    · rw [decide_eq_false h, Bool.and_false, Bool.and_false, if_neg h]
      rfl
  have z : ∀ p, arr odC m i = p → bt (b i) p = false → (hAl S m && inF b m).toNat = 0 := fun p hp hb => by
    have : inF b m = false := bF (fun y => by
      have := inF_iff.mp y i hi
      rw [hp, hb] at this
      cases this)
    rw [this, Bool.and_false]
    rfl
  have h4 := arr_4 odC_4 m i hi
  rw [e, e]
  simp only [c]
  generalize (hAl S m && inF b m).toNat = t at w z ⊢
  generalize arr odC m i = s at w z h4
  have w0 := w 0
  have w1 := w 1
  have w2 := w 2
  have w3 := w 3
  clear w e c
  generalize (hAl S m && inF (woF b i 0) m).toNat = t0 at w0 ⊢
  generalize (hAl S m && inF (woF b i 1) m).toNat = t1 at w1 ⊢
  generalize (hAl S m && inF (woF b i 2) m).toNat = t2 at w2 ⊢
  generalize (hAl S m && inF (woF b i 3) m).toNat = t3 at w3 ⊢
  have z0 := z 0
  have z1 := z 1
  have z2 := z 2
  have z3 := z 3
  rcases (show s = 0 ∨ s = 1 ∨ s = 2 ∨ s = 3 by omega) with rfl | rfl | rfl | rfl
  all_goals
    cases q0 : bt (b i) 0 <;> cases q1 : bt (b i) 1 <;> cases q2 : bt (b i) 2 <;> cases q3 : bt (b i) 3
    all_goals
      simp [q0, q1, q2, q3] at w0 w1 w2 w3 z0 z1 z2 z3 ⊢
      try omega
theorem sm_all {S b : Nat → Nat} {i : Nat} (hi : i < 12) : ∀ m, cSn S b m = smN S b i m 4
  | 0 => by
    have e : ∀ p, cSn S (woF b i p) 0 = 0 := fun _ => rfl
    show 0 = _
    unfold smN itN itN itN itN itN
    simp [e]
  | m + 1 => by
    rw [sm_step hi, ← sm_all hi m]
    rfl
/-- items with more places than one -/
def mor (f : Nat → Nat) : Nat → Nat := itN (fun k x => x + (decide (2 ≤ pc4 (f k))).toNat) 0
theorem mor_s (f : Nat → Nat) (n : Nat) : mor f (n + 1) = mor f n + (decide (2 ≤ pc4 (f n))).toNat := rfl
theorem mor_le (f : Nat → Nat) (n : Nat) : mor f n ≤ n := by
  induction n with
  | zero => exact Nat.le_refl _
  | succ n ih =>
    rw [mor_s]
    cases decide (2 ≤ pc4 (f n)) <;> simp <;> omega
theorem mor_sub {g f : Nat → Nat} (hs : Sub g f) (hg : M16 g) (hf : M16 f) : ∀ n, n ≤ 12 → mor g n ≤ mor f n
  | 0, _ => Nat.le_refl _
  | n + 1, hn => by
    have i1 := mor_sub hs hg hf n (by omega)
    have p1 := (pc_sub (g n) (hg n (by omega)) (f n) (hf n (by omega)) (sub_and (hg n (by omega)) (hs n))).1
    rw [mor_s, mor_s]
    by_cases h : 2 ≤ pc4 (g n)
    · rw [decide_eq_true h, decide_eq_true (show 2 ≤ pc4 (f n) by omega)]
      omega
    · rw [decide_eq_false h]
      simp
      omega
theorem pc_pow : ∀ p, p < 4 → ¬ 2 ≤ pc4 (2 ^ p) := by decide
theorem mor_wo {b : Nat → Nat} {i p : Nat} (hp : p < 4) (h2 : 2 ≤ pc4 (b i)) : ∀ n, mor (woF b i p) n + (decide (i < n)).toNat = mor b n
  | 0 => rfl
  | n + 1 => by
    have ih := mor_wo hp h2 n
    rw [mor_s, mor_s]
    by_cases e : n = i
    · subst e
      rw [wo_at, decide_eq_false (pc_pow p hp), decide_eq_true h2, decide_eq_true (Nat.lt_succ_self n)]
      rw [decide_eq_false (Nat.lt_irrefl n)] at ih
      simp at ih ⊢
      omega
    · rw [wo_ne e, show decide (i < n + 1) = decide (i < n) from decide_eq_decide.mpr (by omega)]
      omega
theorem fmO_some {b : Nat → Nat} {i : Nat} (h : fmO b = some i) : i < 12 ∧ 2 ≤ pc4 (b i) := by
  have := fs_some.mp h
  exact ⟨by omega, of_decide_eq_true this.2.2.1⟩
/-- all solutions -/
theorem cSn_all {S : Nat → Nat} (hV : VC S) : ∀ m, cSn S (FR S) m = cnS S m
  | 0 => rfl
  | m + 1 => by
    show cSn S (FR S) m + (hAl S m && inF (FR S) m).toNat = cnS S m + (solF S odC m).toNat
    rw [cSn_all hV m]
    have e : inF (FR S) m = clN S (arr odC m) 12 := by
      unfold inF clN
      congr 1
      have : ∀ n, n ≤ 12 → anyN (fun i => !bt (FR S i) (arr odC m i)) n = anyN (fun k => bt (S (k + 49)) (arr odC m k)) n := by
        intro n
        induction n with
        | zero => exact fun _ => rfl
        | succ n ih =>
          intro hn
          rw [anyN_succ, anyN_succ, ih (by omega), FR, if_pos (by omega), bt_dif, bt_15 (arr_4 odC_4 m n (by omega))]
          simp
      exact this 12 (Nat.le_refl _)
    have e2 : solF S odC m = (clN S (arr odC m) 12 && hAl S m) := rfl
    rw [e, e2, Bool.and_comm]
theorem cSn_le (S f : Nat → Nat) : ∀ m, cSn S f m ≤ m
  | 0 => Nat.le_refl _
  | m + 1 => by
    have := cSn_le S f m
    show cSn S f m + (hAl S m && inF f m).toNat ≤ m + 1
    cases hAl S m && inF f m <;> simp <;> omega
theorem sm_le {S b : Nat → Nat} {i m : Nat} : ∀ n, smN S b i m n ≤ n * m
  | 0 => Nat.zero_le _
  | n + 1 => by
    have i1 := sm_le (S := S) (b := b) (i := i) (m := m) n
    have i2 := cSn_le S (woF b i n) m
    show (if bt (b i) n then smN S b i m n + cSn S (woF b i n) m else smN S b i m n) ≤ (n + 1) * m
    rw [Nat.add_mul, Nat.one_mul]
    split <;> omega
