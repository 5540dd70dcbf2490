/-! PROPAGATION: grids that nothing is ruled out of; rounds and turns come to the same (by hand) -/
def Sub (g f : Nat → Nat) : Prop := ∀ i p, bt (g i) p = true → bt (f i) p = true
theorem Sub.rf {f : Nat → Nat} : Sub f f := fun _ _ h => h
theorem Sub.tr {f g h : Nat → Nat} (a : Sub f g) (b : Sub g h) : Sub f h := fun i p z => b i p (a i p z)
theorem Sub.dif {f g : Nat → Nat} : Sub (fun i => dif (f i) (g i)) f := fun i p h => by
  rw [bt_dif, Bool.and_eq_true] at h
  exact h.1
/-- nothing is ruled out -/
def Stab (S g : Nat → Nat) : Prop := ∀ i p, i < 12 → p < 4 → bt (g i) p = true → anyN (fun k => rul S g i p k) (S 0) = false ∧ aloN g i p 4 = false ∧ ownN g i p = 0
theorem bt_lt {a p : Nat} (ha : a < 16) (h : bt a p = true) : p < 4 := by
  by_cases hp : p < 4
  · exact hp
  · rw [bt_nz ha hp] at h
    cases h
theorem bt_i12 {g : Nat → Nat} (hz : Z12 g) {i p : Nat} (h : bt (g i) p = true) : i < 12 := by
  by_cases hi : i < 12
  · exact hi
  · rw [hz i (by omega), bt_zero] at h
    cases h
theorem anyN_imp {f g : Nat → Bool} {n : Nat} (h : ∀ k, k < n → f k = true → g k = true) (e : anyN f n = true) : anyN g n = true := by
  obtain ⟨k, hk, e1⟩ := anyN_iff.mp e
  exact anyN_iff.mpr ⟨k, hk, h k hk e1⟩
theorem oneB_mono {g f : Nat → Nat} (hs : Sub g f) {it x pl p : Nat} (h : oneB g it x pl p = true) : oneB f it x pl p = true := by
  unfold oneB at h ⊢
  by_cases e : it = x
  · rw [if_pos e] at h ⊢
    exact h
  · rw [if_neg e] at h ⊢
    exact hs _ _ h
theorem hld_mono {S g f : Nat → Nat} (hs : Sub g f) {k it pl : Nat} (h : hld S g k it pl = true) : hld S f k it pl = true := by
  unfold hld at h ⊢
  by_cases e4 : S (4 * k + 1) = 4
  · rw [if_pos e4] at h ⊢
    exact h
  rw [if_neg e4] at h ⊢
  by_cases e5 : S (4 * k + 1) = 5
  · rw [if_pos e5] at h ⊢
    exact h
  rw [if_neg e5] at h ⊢
  refine anyN_imp (fun p _ h1 => ?_) h
  unfold hP at h1 ⊢
  rw [Bool.and_eq_true] at h1 ⊢
  refine ⟨oneB_mono hs h1.1, anyN_imp (fun q _ h2 => ?_) h1.2⟩
  unfold hQ at h2 ⊢
  rw [Bool.and_eq_true] at h2 ⊢
  refine ⟨oneB_mono hs h2.1, ?_⟩
  by_cases e6 : S (4 * k + 1) = 6
  · have h3 := h2.2
    rw [if_pos e6] at h3 ⊢
    refine anyN_imp (fun r _ h4 => ?_) h3
    unfold hR at h4 ⊢
    rw [Bool.and_eq_true] at h4 ⊢
    exact ⟨oneB_mono hs h4.1, h4.2⟩
  · have h3 := h2.2
    rw [if_neg e6] at h3 ⊢
    exact h3
theorem rul_anti {S g f : Nat → Nat} (hs : Sub g f) {i p k : Nat} (h : rul S f i p k = true) : rul S g i p k = true := by
  unfold rul at h ⊢
  rw [Bool.and_eq_true] at h ⊢
  refine ⟨h.1, ?_⟩
  cases e : hld S g k i p with
  | false => rfl
  | true =>
    rw [hld_mono hs e] at h
    exact absurd h.2 (by decide)
theorem othF_mono {g f : Nat → Nat} (hs : Sub g f) {i q : Nat} (h : bt (othF g i) q = true) : bt (othF f i) q = true := by
  unfold othF at h ⊢
  split at h
  next e =>
    rw [if_pos e]
    rw [bt_or, bt_or, Bool.or_eq_true, Bool.or_eq_true] at h ⊢
    exact h.imp (fun z => z.imp (hs _ _) (hs _ _)) (hs _ _)
  next e =>
    rw [if_neg e]
    split at h
    next e1 =>
      rw [if_pos e1]
      rw [bt_or, bt_or, Bool.or_eq_true, Bool.or_eq_true] at h ⊢
      exact h.imp (fun z => z.imp (hs _ _) (hs _ _)) (hs _ _)
    next e1 =>
      rw [if_neg e1]
      split at h
      next e2 =>
        rw [if_pos e2]
        rw [bt_or, bt_or, Bool.or_eq_true, Bool.or_eq_true] at h ⊢
        exact h.imp (fun z => z.imp (hs _ _) (hs _ _)) (hs _ _)
      next e2 =>
        rw [if_neg e2]
        rw [bt_or, bt_or, Bool.or_eq_true, Bool.or_eq_true] at h ⊢
        exact h.imp (fun z => z.imp (hs _ _) (hs _ _)) (hs _ _)
theorem con_iff {g : Nat → Nat} : conF g = false ↔ ∀ i, i < 12 → ¬ g i = 0 ∧ (g i ||| othF g i) = 15 := by
  unfold conF
  rw [anyN_not]
  constructor
  · intro h i hi
    have := h i hi
    simp only [Bool.or_eq_false_iff, decide_eq_false_iff_not, Bool.not_eq_false', decide_eq_true_eq] at this
    exact this
  · intro h i hi
    rw [decide_eq_false (h i hi).1, decide_eq_true (h i hi).2]
    rfl
theorem nz_bt {a : Nat} (ha : a < 16) (h : ¬ a = 0) : ∃ p, p < 4 ∧ bt a p = true := by
  revert h
  revert ha
  revert a
  decide
theorem con_up {g f : Nat → Nat} (hf : M16 f) (hs : Sub g f) (hg : M16 g) (h : conF g = false) : conF f = false := by
  rw [con_iff] at h ⊢
  intro i hi
  obtain ⟨h1, h2⟩ := h i hi
  obtain ⟨p, hp, e⟩ := nz_bt (hg i hi) h1
  refine ⟨fun z => ?_, m16_ext (or_16 (hf i hi) (oth_16 hf i hi)) (by decide) (fun q hq => ?_)⟩
  · have := hs i p e
    rw [z, bt_zero] at this
    cases this
  · rw [bt_15 hq, bt_or, Bool.or_eq_true]
    have e2 : bt (g i ||| othF g i) q = true := by rw [h2, bt_15 hq]
    rw [bt_or, Bool.or_eq_true] at e2
    exact e2.imp (hs _ _) (othF_mono hs)
theorem own_pt : ∀ a, a < 16 → ∀ p, p < 4 → dif a (2 ^ p) = 0 ∨ ∃ q, q < 4 ∧ ¬ q = p ∧ bt a q = true := by decide
theorem own_q {g : Nat → Nat} (hg : M16 g) {i p q : Nat} (hi : i < 12) (hq : ¬ q = p) (h1 : bt (g i) q = true) (h2 : bt (othF g i) q = false) : ¬ ownN g i p = 0 := by
  intro z
  unfold ownN at z
  rw [oth_eq] at z
  have e : bt (dif (dif (g i) (othF g i)) (2 ^ p)) q = true := by
    rw [bt_dif, bt_dif, bt_pow, h1, h2, decide_eq_false (fun z => hq z.symm)]
    rfl
  rw [z, bt_zero] at e
  cases e
/-- a grid out of which nothing is ruled out, without a contradiction, stays inside every grid around it -/
theorem keep_rul {S g f : Nat → Nat} (hs : Sub g f) (hst : Stab S g) {i p k : Nat} (hi : i < 12) (hp : p < 4) (h : bt (g i) p = true) (hk : k < S 0) : rul S f i p k = false := by
  cases e : rul S f i p k with
  | false => rfl
  | true =>
    have := anyN_not.mp (hst i p hi hp h).1 k hk
    rw [rul_anti hs e] at this
    cases this
theorem keep_alo {S g f : Nat → Nat} (hs : Sub g f) (hg : M16 g) (hc : conF g = false) (hst : Stab S g) {i p : Nat} (hi : i < 12) (hp : p < 4) (h : bt (g i) p = true) : aloN f i p 4 = false := by
  cases e : aloN f i p 4 with
  | false => rfl
  | true =>
    obtain ⟨t, ht, e1⟩ := anyN_iff.mp e
    rw [Bool.and_eq_true, decide_eq_true_eq] at e1
    have hj : 4 * (i / 4) + t < 12 := by omega
    obtain ⟨h1, -⟩ := con_iff.mp hc _ hj
    have e2 : g (4 * (i / 4) + t) = 2 ^ p := by
      obtain ⟨q, hq, e3⟩ := nz_bt (hg _ hj) h1
      refine m16_ext (hg _ hj) (p2_lt hp) (fun r hr => ?_)
      have sub1 : ∀ r, bt (g (4 * (i / 4) + t)) r = true → p = r := fun r z => by
        have := hs _ _ z
        rw [e1.2, bt_pow, decide_eq_true_eq] at this
        exact this
      rw [bt_pow]
      by_cases e4 : p = r
      · rw [decide_eq_true e4, ← e4, sub1 q e3]
        exact e3
      · rw [decide_eq_false e4]
        exact bF (fun z => e4 (sub1 r z))
    have e5 : aloN g i p 4 = true := anyN_iff.mpr ⟨t, ht, by
      rw [Bool.and_eq_true, decide_eq_true_eq]
      exact ⟨e1.1, e2⟩⟩
    have := (hst i p hi hp h).2.1
    rw [e5] at this
    cases this
theorem keep_own {S g f : Nat → Nat} (hs : Sub g f) (hg : M16 g) (hf : M16 f) (hc : conF g = false) (hst : Stab S g) {i p : Nat} (hi : i < 12) (hp : p < 4) (h : bt (g i) p = true) : ownN f i p = 0 := by
  unfold ownN
  rw [oth_eq]
  rcases own_pt (dif (f i) (othF f i)) (dif_16 (hf i hi)) p hp with e | ⟨q, hq, hqp, e⟩
  · exact e
  · rw [bt_dif, Bool.and_eq_true, Bool.not_eq_true'] at e
    have e3 : bt (othF g i) q = false := by
      cases e4 : bt (othF g i) q with
      | false => rfl
      | true =>
        rw [othF_mono hs e4] at e
        exact absurd e.2 (by decide)
    have e2 : bt (g i ||| othF g i) q = true := by rw [(con_iff.mp hc i hi).2, bt_15 hq]
    rw [bt_or, e3, Bool.or_false] at e2
    exact absurd (hst i p hi hp h).2.2 (own_q hg hi hqp e2 e3)
theorem keep_rnd {S g f : Nat → Nat} (h12 : S 0 ≤ 12) (hs : Sub g f) (hg : M16 g) (hz : Z12 g) (hf : M16 f) (hc : conF g = false) (hst : Stab S g) : Sub g (rnd S f) := fun i p h => by
  have hi := bt_i12 hz h
  have hp := bt_lt (hg i hi) h
  rw [rnd_bt hi hp, hs i p h, rld, rbI_not h12, keep_alo hs hg hc hst hi hp h, keep_own hs hg hf hc hst hi hp h, anyN_not.mpr (fun k hk => keep_rul hs hst hi hp h hk)]
  simp
theorem keep_itr {S g : Nat → Nat} (h12 : S 0 ≤ 12) (hg : M16 g) (hz : Z12 g) (hc : conF g = false) (hst : Stab S g) : ∀ (n : Nat) {f : Nat → Nat}, M16 f → Sub g f → Sub g (itr S n f)
  | 0, _, _, hs => hs
  | n + 1, f, hf, hs => by
    rw [itr]
    split
    · exact keep_itr h12 hg hz hc hst n (rnd_16 hf) (keep_rnd h12 hs hg hz hf hc hst)
    · exact hs
theorem keep_tc {S g f : Nat → Nat} (hs : Sub g f) (hg : M16 g) (hz : Z12 g) (hst : Stab S g) : ∀ t, t ≤ S 0 → Sub g (tcN S f t)
  | 0, _ => hs
  | t + 1, ht => fun i p h => by
    have hi := bt_i12 hz h
    have hp := bt_lt (hg i hi) h
    have ih := keep_tc hs hg hz hst t (by omega)
    show bt (dif (tcN S f t i) (ruC S (tcN S f t) t i)) p = true
    rw [bt_dif, ih i p h, ruC_bt hi hp, keep_rul ih hst hi hp h (by omega), Bool.and_false]
    rfl
theorem keep_tk {S g f : Nat → Nat} (hs : Sub g f) (hg : M16 g) (hz : Z12 g) (hf : M16 f) (hc : conF g = false) (hst : Stab S g) : Sub g (tkN f) := fun i p h => by
  have hi := bt_i12 hz h
  have hp := bt_lt (hg i hi) h
  rw [tkN, bt_dif, hs i p h, tak_bt hf hi hp, keep_alo hs hg hc hst hi hp h, Bool.and_false]
  rfl
theorem keep_ne {S g f : Nat → Nat} (hs : Sub g f) (hg : M16 g) (hz : Z12 g) (hf : M16 f) (hc : conF g = false) (hst : Stab S g) : Sub g (neN f) := fun i p h => by
  have hi := bt_i12 hz h
  have hp := bt_lt (hg i hi) h
  rw [neN, bt_dif, hs i p h, nee_bt hf hi hp, keep_own hs hg hf hc hst hi hp h]
  simp
theorem keep_trn {S g f : Nat → Nat} (hs : Sub g f) (hg : M16 g) (hz : Z12 g) (hf : M16 f) (hc : conF g = false) (hst : Stab S g) : Sub g (trnS S f) :=
  keep_ne (keep_tk (keep_tc hs hg hz hst _ (Nat.le_refl _)) hg hz (tcN_16 hf _) hc hst) hg hz (tkN_16 (tcN_16 hf _)) hc hst
theorem keep_bys {S g : Nat → Nat} (hg : M16 g) (hz : Z12 g) (hc : conF g = false) (hst : Stab S g) : ∀ (n : Nat) {f : Nat → Nat}, M16 f → Sub g f → Sub g (bys S n f)
  | 0, _, _, hs => hs
  | n + 1, f, hf, hs => by
    rw [bys]
    split
    · exact hs
    · exact keep_bys hg hz hc hst n (trnS_16 hf) (keep_trn hs hg hz hf hc hst)
/-! the ends of rounds and of turns -/
theorem itr_fix {S : Nat → Nat} : ∀ (n : Nat) {f : Nat → Nat}, M16 f → meas f 12 < n → more S (itr S n f) = false
  | 0, _, _, h => absurd h (by omega)
  | n + 1, f, hf, h => by
    rw [itr]
    by_cases hm : more S f = true
    · rw [if_pos hm]
      have h2 := meas_rnd (S := S) hf 12 (Nat.le_refl _)
      have h3 : anyN (moreK S f) 12 = true := hm
      rw [h3, Bool.toNat_true] at h2
      exact itr_fix n (rnd_16 hf) (by omega)
    · rw [if_neg hm]
      exact bF hm
theorem PRP_fix (S : Nat → Nat) : more S (PRP S) = false := itr_fix 49 (FR_16 S) (by have := meas_le (FR S) 12; omega)
theorem stab_of {S g : Nat → Nat} (h12 : S 0 ≤ 12) (h : ∀ i p, i < 12 → p < 4 → bt (g i) p = true → rld S g i p = false) : Stab S g := fun i p hi hp hb => by
  have := h i p hi hp hb
  rw [rld, hb, Bool.true_and, rbI_not h12, Bool.or_eq_false_iff, Bool.or_eq_false_iff] at this
  exact ⟨this.1.1, this.1.2, by simpa using this.2⟩
theorem PRP_stab {S : Nat → Nat} (h12 : S 0 ≤ 12) : Stab S (PRP S) := stab_of h12 (fun i p hi hp _ => anyN_not.mp (anyN_not.mp (PRP_fix S) i hi) p hp)
theorem pc_sub : ∀ a, a < 16 → ∀ b, b < 16 → a &&& b = a → pc4 a ≤ pc4 b ∧ (pc4 a = pc4 b → a = b) := by decide +kernel
theorem sub_and {a b : Nat} (ha : a < 16) (h : ∀ p, bt a p = true → bt b p = true) : a &&& b = a := m16_ext (and_16 ha) ha (fun p _ => by
  rw [bt_and]
  cases e : bt a p with
  | false => rfl
  | true => rw [h p e]; rfl)
theorem meas_sub {g f : Nat → Nat} (hs : Sub g f) (hg : M16 g) (hf : M16 f) : ∀ n, n ≤ 12 → meas g n ≤ meas f n ∧ (meas g n = meas f n → ∀ j, j < n → g j = f j) := by
  intro n
  induction n with
  | zero => exact fun _ => ⟨Nat.le_refl _, fun _ j hj => by omega⟩
  | succ n ih =>
    intro hn
    obtain ⟨i1, i2⟩ := ih (by omega)
    obtain ⟨p1, p2⟩ := pc_sub (g n) (hg n (by omega)) (f n) (hf n (by omega)) (sub_and (hg n (by omega)) (hs n))
    have e1 : meas g (n + 1) = meas g n + pc4 (g n) := rfl
    have e2 : meas f (n + 1) = meas f n + pc4 (f n) := rfl
    rw [e1, e2]
    refine ⟨by omega, fun h j hj => ?_⟩
    by_cases e : j = n
    · rw [e]
      exact p2 (by omega)
    · exact i2 (by omega) j (by omega)
theorem tc_sub {S f : Nat → Nat} : ∀ t, Sub (tcN S f t) f
  | 0 => Sub.rf
  | t + 1 => Sub.tr Sub.dif (tc_sub t)
theorem trn_sub {S f : Nat → Nat} : Sub (trnS S f) f := Sub.tr (Sub.dif (f := tkN (tcN S f (S 0)))) (Sub.tr (Sub.dif (f := tcN S f (S 0))) (tc_sub _))
theorem bys_fix {S : Nat → Nat} : ∀ (n : Nat) {f : Nat → Nat}, M16 f → meas f 12 < n → pk (trnS S (bys S n f)) = pk (bys S n f)
  | 0, _, _, h => absurd h (by omega)
  | n + 1, f, hf, h => by
    rw [bys]
    by_cases hm : pk (trnS S f) = pk f
    · rw [if_pos hm]
      exact hm
    · rw [if_neg hm]
      obtain ⟨m1, m2⟩ := meas_sub (trn_sub (S := S) (f := f)) (trnS_16 hf) hf 12 (Nat.le_refl _)
      have : ¬ meas (trnS S f) 12 = meas f 12 := fun z => hm (zk_congr (m2 z))
      exact bys_fix n (trnS_16 hf) (by omega)
theorem BYT_16 {S f : Nat → Nat} (hf : M16 f) : M16 (BYT S f) := bys_16 49 hf
theorem BYT_z {S f : Nat → Nat} (hz : Z12 f) : Z12 (BYT S f) := bys_z 49 hz
theorem BYT_fix {S f : Nat → Nat} (hf : M16 f) : ∀ j, j < 12 → trnS S (BYT S f) j = BYT S f j := zk_inj (trnS_16 (BYT_16 hf)) (BYT_16 hf) (bys_fix 49 hf (by have := meas_le f 12; omega))
theorem bys_sub {S : Nat → Nat} : ∀ (n : Nat) {f : Nat → Nat}, Sub (bys S n f) f
  | 0, _ => Sub.rf
  | n + 1, f => by
    rw [bys]
    split
    · exact Sub.rf
    · exact Sub.tr (bys_sub n) trn_sub
theorem tc_step {S f : Nat → Nat} : ∀ d t, Sub (tcN S f (t + d)) (tcN S f t)
  | 0, _ => Sub.rf
  | d + 1, t => Sub.tr Sub.dif (tc_step d t)
/-- a grid that a turn leaves as it is -/
theorem trn_stab {S g : Nat → Nat} (h12 : S 0 ≤ 12) (hg : M16 g) (hz : Z12 g) (h : ∀ j, j < 12 → trnS S g j = g j) : Stab S g := by
  have back : ∀ i p, bt (g i) p = true → bt (trnS S g i) p = true := fun i p hb => by
    rw [h i (bt_i12 hz hb)]
    exact hb
  have t1 : ∀ t, t ≤ S 0 → ∀ i p, bt (g i) p = true → bt (tcN S g t i) p = true := fun t ht i p hb => by
    have a1 : Sub (trnS S g) (tcN S g (S 0)) := Sub.tr (Sub.dif (f := tkN (tcN S g (S 0)))) (Sub.dif (f := tcN S g (S 0)))
    have a2 : Sub (tcN S g (S 0)) (tcN S g t) := by
      have := tc_step (S := S) (f := g) (S 0 - t) t
      rw [show t + (S 0 - t) = S 0 by omega] at this
      exact this
    exact a2 i p (a1 i p (back i p hb))
  have same : ∀ t, t ≤ S 0 → ∀ j, tcN S g t j = g j := fun t ht j => by
    by_cases hj : j < 12
    · exact m16_ext (tcN_16 hg t j hj) (hg j hj) (fun p _ => by
        cases e : bt (g j) p with
        | true => exact t1 t ht j p e
        | false => exact bF (fun z => by rw [tc_sub t j p z] at e; cases e))
    · rw [tcN_z hz t j (by omega), hz j (by omega)]
  have same' : ∀ t, t ≤ S 0 → tcN S g t = g := fun t ht => funext (same t ht)
  have k1 : tkN g = g := by
    funext j
    by_cases hj : j < 12
    · refine m16_ext (tkN_16 hg j hj) (hg j hj) (fun p _ => ?_)
      cases e : bt (g j) p with
      | true =>
        have b := back j p e
        unfold trnS at b
        rw [same' _ (Nat.le_refl _)] at b
        exact Sub.dif j p b
      | false => exact bF (fun z => by rw [Sub.dif (f := g) (g := takF g) j p z] at e; cases e)
    · rw [tkN_z hz j (by omega), hz j (by omega)]
  refine fun i p hi hp hb => ⟨anyN_not.mpr (fun k hk => ?_), ?_, ?_⟩
  · have b := t1 (k + 1) (by omega) i p hb
    have b2 : bt (dif (tcN S g k i) (ruC S (tcN S g k) k i)) p = true := b
    rw [same' k (by omega), bt_dif, ruC_bt hi hp, hb] at b2
    simpa using b2
  · have b : bt (tkN g i) p = true := by rw [k1]; exact hb
    rw [tkN, bt_dif, tak_bt hg hi hp, hb] at b
    simpa using b
  · have b := back i p hb
    unfold trnS at b
    rw [same' _ (Nat.le_refl _), k1, neN, bt_dif, nee_bt hg hi hp, hb] at b
    simpa using b
theorem BYT_stab {S f : Nat → Nat} (h12 : S 0 ≤ 12) (hf : M16 f) (hz : Z12 f) : Stab S (BYT S f) := trn_stab h12 (BYT_16 hf) (BYT_z hz) (BYT_fix hf)
theorem itr_sub {S : Nat → Nat} : ∀ (n : Nat) {f : Nat → Nat}, M16 f → Z12 f → Sub (itr S n f) f
  | 0, _, _, _ => Sub.rf
  | n + 1, f, hf, hz => by
    rw [itr]
    split
    · refine Sub.tr (itr_sub n (rnd_16 hf) (rnd_z hz)) (fun i p h => ?_)
      have hi := bt_i12 (rnd_z (S := S) hz) h
      rw [rnd_bt hi (bt_lt (rnd_16 hf i hi) h), Bool.and_eq_true] at h
      exact h.1
    · exact Sub.rf
/-- turns tell what rounds tell -/
theorem turns_con {S : Nat → Nat} (h12 : S 0 ≤ 12) : conF (BYT S (FR S)) = conF (PRP S) ∧ (conF (PRP S) = false → pk (BYT S (FR S)) = pk (PRP S)) := by
  have hp16 : M16 (PRP S) := PRP_16 S
  have hb16 : M16 (BYT S (FR S)) := BYT_16 (FR_m16 S)
  have a : conF (PRP S) = false → Sub (PRP S) (BYT S (FR S)) := fun hc => keep_bys hp16 (PRP_z S) hc (PRP_stab h12) 49 (FR_m16 S) (itr_sub 49 (FR_m16 S) (FR_z S))
  have b : conF (BYT S (FR S)) = false → Sub (BYT S (FR S)) (PRP S) := fun hc => keep_itr h12 hb16 (BYT_z (FR_z S)) hc (BYT_stab h12 (FR_m16 S) (FR_z S)) 49 (FR_m16 S) (bys_sub 49)
  have c1 : conF (PRP S) = false → conF (BYT S (FR S)) = false := fun hc => con_up hb16 (a hc) hp16 hc
  have c2 : conF (BYT S (FR S)) = false → conF (PRP S) = false := fun hc => con_up hp16 (b hc) hb16 hc
  refine ⟨?_, fun hc => zk_congr (fun j hj => m16_ext (hb16 j hj) (hp16 j hj) (fun p _ => ?_))⟩
  · cases e : conF (PRP S) with
    | false => exact c1 e
    | true => exact bT (fun z => by rw [c2 z] at e; cases e)
  · cases e : bt (PRP S j) p with
    | true => exact a hc j p e
    | false => exact bF (fun z => by rw [b (c1 hc) j p z] at e; cases e)
/-- the reference's word for a contradiction -/
theorem bad_con {g : Nat → Nat} (hg : M16 g) : bad g = conF g := by
  have key : ∀ k, k < 3 → ∀ t, t < 4 → (g (4 * k + t) ||| othF g (4 * k + t)) = (((g (4 * k) ||| g (4 * k + 1)) ||| g (4 * k + 2)) ||| g (4 * k + 3)) := by
    intro k hk t ht
    refine m16_ext (or_16 (hg _ (by omega)) (oth_16 hg _ (by omega))) (or_16 (or_16 (or_16 (hg _ (by omega)) (hg _ (by omega))) (hg _ (by omega))) (hg _ (by omega))) (fun p _ => ?_)
    rcases (show t = 0 ∨ t = 1 ∨ t = 2 ∨ t = 3 by omega) with rfl | rfl | rfl | rfl
    · rw [othF, if_pos (by omega), Nat.add_zero]
      simp only [bt_or]
      cases bt (g (4 * k)) p <;> cases bt (g (4 * k + 1)) p <;> cases bt (g (4 * k + 2)) p <;> cases bt (g (4 * k + 3)) p <;> rfl
    · rw [othF, if_neg (by omega), if_pos (by omega), show 4 * k + 1 - 1 = 4 * k by omega, show 4 * k + 1 + 1 = 4 * k + 2 by omega, show 4 * k + 1 + 2 = 4 * k + 3 by omega]
      simp only [bt_or]
      cases bt (g (4 * k)) p <;> cases bt (g (4 * k + 1)) p <;> cases bt (g (4 * k + 2)) p <;> cases bt (g (4 * k + 3)) p <;> rfl
    · rw [othF, if_neg (by omega), if_neg (by omega), if_pos (by omega), show 4 * k + 2 - 2 = 4 * k by omega, show 4 * k + 2 - 1 = 4 * k + 1 by omega, show 4 * k + 2 + 1 = 4 * k + 3 by omega]
      simp only [bt_or]
      cases bt (g (4 * k)) p <;> cases bt (g (4 * k + 1)) p <;> cases bt (g (4 * k + 2)) p <;> cases bt (g (4 * k + 3)) p <;> rfl
    · rw [othF, if_neg (by omega), if_neg (by omega), if_neg (by omega), show 4 * k + 3 - 3 = 4 * k by omega, show 4 * k + 3 - 2 = 4 * k + 1 by omega, show 4 * k + 3 - 1 = 4 * k + 2 by omega]
      simp only [bt_or]
      cases bt (g (4 * k)) p <;> cases bt (g (4 * k + 1)) p <;> cases bt (g (4 * k + 2)) p <;> cases bt (g (4 * k + 3)) p <;> rfl
  cases e : conF g with
  | false =>
    rw [con_iff] at e
    refine anyN_not.mpr (fun k hk => ?_)
    have k0 := e (4 * k + 0) (by omega)
    have k1 := e (4 * k + 1) (by omega)
    have k2 := e (4 * k + 2) (by omega)
    have k3 := e (4 * k + 3) (by omega)
    rw [key k hk 0 (by omega)] at k0
    rw [Nat.add_zero] at k0
    rw [badK, decide_eq_false k0.1, decide_eq_false k1.1, decide_eq_false k2.1, decide_eq_false k3.1, decide_eq_true k0.2]
    rfl
  | true =>
    refine bT (fun z => ?_)
    have : conF g = false := con_iff.mpr (fun i hi => by
      have zi := anyN_not.mp z (i / 4) (by omega)
      unfold badK at zi
      simp only [Bool.or_eq_false_iff, decide_eq_false_iff_not, Bool.not_eq_false', decide_eq_true_eq] at zi
      obtain ⟨⟨⟨⟨z0, z1⟩, z2⟩, z3⟩, z4⟩ := zi
      have kk := key (i / 4) (by omega) (i % 4) (by omega)
      rw [Nat.div_add_mod] at kk
      refine ⟨?_, kk.trans z4⟩
      rcases (show i % 4 = 0 ∨ i % 4 = 1 ∨ i % 4 = 2 ∨ i % 4 = 3 by omega) with h | h | h | h
      · exact fun z => z0 (by rw [show 4 * (i / 4) = i by omega]; exact z)
      · exact fun z => z1 (by rw [show 4 * (i / 4) + 1 = i by omega]; exact z)
      · exact fun z => z2 (by rw [show 4 * (i / 4) + 2 = i by omega]; exact z)
      · exact fun z => z3 (by rw [show 4 * (i / 4) + 3 = i by omega]; exact z))
    rw [this] at e
    cases e
