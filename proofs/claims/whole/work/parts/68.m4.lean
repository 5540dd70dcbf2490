/-! TEXTS: the reference's reading against the class's, sign by sign (by hand) -/
def isLt (v : Nat) : Bool := decide (65 ≤ v) && decide (v < 77)
def isDg (v : Nat) : Bool := decide (48 ≤ v) && decide (v < 52)
def isSg (v : Nat) : Bool := decide (v = 61) || decide (v = 35) || decide (v = 60) || decide (v = 126) || decide (v = 64) || decide (v = 33) || decide (v = 124)
def plN (c : Nat → Nat) (n s : Nat) : Nat := if s + 1 < n ∧ c (s + 1) = 124 then 4 else 3
def enP (c : Nat → Nat) (s : Nat) : Bool := decide (c s = 120) || decide (c (s + 1) = 64) || decide (c (s + 1) = 33)
/-- whether a sign may stand there in the part that begins at s -/
def fit (c : Nat → Nat) (n s j : Nat) : Bool := if j = s then isLt (c j) || decide (c j = 120) else if j = s + 1 then (if c s = 120 then isLt (c j) else isSg (c j)) else if j = s + plN c n s then decide (c j = 59) else if enP c s = true then isDg (c j) else isLt (c j) && !decide (c j = c s) && (decide (j = s + 2) || !decide (c j = c (s + 2)))
theorem lt_fin : ∀ v, v < 127 → (inB (N v - N 65) (N 0) (N 11) && !decide (N v - N 65 = -1) && !decide (N v - N 65 = -1)) = isLt v := by decide +kernel
theorem lt_fin1 : ∀ v, v < 127 → inB (N v - N 65) (N 0) (N 11) = isLt v := by decide +kernel
theorem dg_fin : ∀ v, v < 127 → inB (N v - N 48) (N 0) (N 3) = isDg v := by decide +kernel
theorem sg_fin : ∀ v, v < 127 → (!decide (soN v = 6) || decide (v = 124)) = isSg v := by decide +kernel
theorem so_45 : ∀ v, v < 127 → (decide (soN v = 4 ∨ soN v = 5)) = (decide (v = 64) || decide (v = 33)) := by decide +kernel
theorem so_6 : ∀ v, v < 127 → isSg v = true → (decide (soN v = 6)) = decide (v = 124) := by decide +kernel
theorem lt_nm : ∀ v, v < 127 → isLt v = true → ¬ N v - N 65 = (-1 : Int32) := by decide +kernel
theorem sub65 {v w : Nat} (hv : v < 127) (hw : w < 127) : N v - N 65 = N w - N 65 ↔ v = w := by
  constructor
  · intro h
    have h2 := congrArg (fun z => z + N 65) h
    simp only [Int32.sub_add_cancel] at h2
    exact (N_eq (by omega) (by omega)).mp h2
  · intro h
    rw [h]
/-- the sign at a place, 0 behind the end -/
def sgS (c : Nat → Nat) (n s : Nat) : Nat := if s < n then c s else 0
theorem sgx_f (c : Nat → Nat) (n s : Nat) : sgx c n (s, false) = sgS c n s := by
  unfold sgx sgS
  by_cases h : s < n
  · rw [if_pos ⟨rfl, h⟩, if_pos h]
  · rw [if_neg (fun z => h z.2), if_neg h]
theorem sgx_t (c : Nat → Nat) (n s : Nat) : sgx c n (s, true) = 0 := if_neg (fun z => Bool.noConfusion z.1)
theorem sgS_lt {c : Nat → Nat} {n : Nat} (hB : BF c n) (s : Nat) : sgS c n s < 127 := by
  rw [← sgx_f]
  exact Nat.lt_succ_of_le (sgx_le hB _)
theorem stp_f (b : Bool) (s : Nat) : stp b (s, false) = if b then (s + 1, false) else (s, true) := by cases b <;> rfl
theorem stp_t (b : Bool) (s : Nat) : stp b (s, true) = (s, true) := by cases b <;> rfl
theorem lt_m1 {c : Nat → Nat} {n : Nat} (hB : BF c n) (s : Nat) : ltx c n (s, false) (-1) (-1) = if isLt (sgS c n s) then (s + 1, false) else (s, true) := by
  unfold ltx lBx itx
  rw [sgx_f, lt_fin _ (sgS_lt hB s), stp_f]
theorem lt_u {c : Nat → Nat} {n : Nat} (hB : BF c n) {s v : Nat} (hv : v < 127) : ltx c n (s, false) (N v - N 65) (-1) = if (isLt (sgS c n s) && !decide (sgS c n s = v)) then (s + 1, false) else (s, true) := by
  unfold ltx lBx itx
  rw [sgx_f, lt_fin1 _ (sgS_lt hB s), stp_f, show decide (N (sgS c n s) - N 65 = N v - N 65) = decide (sgS c n s = v) from decide_eq_decide.mpr (sub65 (sgS_lt hB s) hv)]
  cases h : isLt (sgS c n s) with
  | false => rfl
  | true =>
    rw [decide_eq_false (lt_nm _ (sgS_lt hB s) h), Bool.not_false, Bool.and_true]
theorem lt_uv {c : Nat → Nat} {n : Nat} (hB : BF c n) {s v w : Nat} (hv : v < 127) (hw : w < 127) : ltx c n (s, false) (N v - N 65) (N w - N 65) = if (isLt (sgS c n s) && !decide (sgS c n s = v) && !decide (sgS c n s = w)) then (s + 1, false) else (s, true) := by
  unfold ltx lBx itx
  rw [sgx_f, lt_fin1 _ (sgS_lt hB s), stp_f, show decide (N (sgS c n s) - N 65 = N v - N 65) = decide (sgS c n s = v) from decide_eq_decide.mpr (sub65 (sgS_lt hB s) hv), show decide (N (sgS c n s) - N 65 = N w - N 65) = decide (sgS c n s = w) from decide_eq_decide.mpr (sub65 (sgS_lt hB s) hw)]
theorem dt_f {c : Nat → Nat} {n : Nat} (hB : BF c n) (s : Nat) : dtx c n (s, false) = if isDg (sgS c n s) then (s + 1, false) else (s, true) := by
  unfold dtx dBx dgx
  rw [sgx_f, dg_fin _ (sgS_lt hB s), stp_f]
theorem lt_t (c : Nat → Nat) (n s : Nat) (u v : Int32) : ltx c n (s, true) u v = (s, true) := stp_t _ s
theorem dt_t (c : Nat → Nat) (n s : Nat) : dtx c n (s, true) = (s, true) := stp_t _ s
theorem tw_t (c : Nat → Nat) (n so s : Nat) (u : Int32) : twX c n so (s, true) u = (s, true) := by
  unfold twX
  split
  · exact dt_t c n s
  · exact lt_t c n s _ _
theorem th_t (c : Nat → Nat) (n so s : Nat) (u v : Int32) : thX c n so (s, true) u v = (s, true) := by
  unfold thX
  split
  · exact lt_t c n s _ _
  · rfl
/-- the part, by its signs -/
def gS (c : Nat → Nat) (n s t : Nat) : Bool := decide (s + t < n) && fit c n s (s + t)
def prt (c : Nat → Nat) (n s : Nat) : Nat × Bool := if gS c n s 0 then (if gS c n s 1 then (if gS c n s 2 then (if plN c n s = 3 then (s + 3, false) else if gS c n s 3 then (s + 4, false) else (s + 3, true)) else (s + 2, true)) else (s + 1, true)) else (s, true)
theorem pl_34 (c : Nat → Nat) (n s : Nat) : plN c n s = 3 ∨ plN c n s = 4 := by
  unfold plN
  split
  · exact Or.inr rfl
  · exact Or.inl rfl
theorem gS_0 {c : Nat → Nat} {n s : Nat} : gS c n s 0 = (isLt (sgS c n s) || decide (sgS c n s = 120)) := by
  unfold gS sgS
  rw [Nat.add_zero]
  by_cases h : s < n
  · rw [decide_eq_true h, Bool.true_and, if_pos h, fit, if_pos rfl]
  · rw [decide_eq_false h, Bool.false_and, if_neg h]
    rfl
theorem gS_1 {c : Nat → Nat} {n s : Nat} : gS c n s 1 = if c s = 120 then isLt (sgS c n (s + 1)) else isSg (sgS c n (s + 1)) := by
  unfold gS sgS
  by_cases h : s + 1 < n
  · rw [decide_eq_true h, Bool.true_and, if_pos h, fit, if_neg (by omega), if_pos rfl]
  · rw [decide_eq_false h, Bool.false_and, if_neg h]
    split <;> rfl
theorem gS_2 {c : Nat → Nat} {n s : Nat} : gS c n s 2 = if enP c s = true then isDg (sgS c n (s + 2)) else (isLt (sgS c n (s + 2)) && !decide (sgS c n (s + 2) = c s)) := by
  unfold gS sgS
  by_cases h : s + 2 < n
  · rw [decide_eq_true h, Bool.true_and, if_pos h, fit, if_neg (by omega), if_neg (by omega), if_neg (by rcases pl_34 c n s with e | e <;> rw [e] <;> omega), decide_eq_true rfl, Bool.true_or, Bool.and_true]
  · rw [decide_eq_false h, Bool.false_and, if_neg h]
    split <;> rfl
theorem gS_3 {c : Nat → Nat} {n s : Nat} (hp : plN c n s = 4) : gS c n s 3 = if enP c s = true then isDg (sgS c n (s + 3)) else (isLt (sgS c n (s + 3)) && !decide (sgS c n (s + 3) = c s) && !decide (sgS c n (s + 3) = c (s + 2))) := by
  unfold gS sgS
  by_cases h : s + 3 < n
  · rw [decide_eq_true h, Bool.true_and, if_pos h, fit, if_neg (by omega), if_neg (by omega), if_neg (by rw [hp]; omega), decide_eq_false (show ¬ s + 3 = s + 2 by omega), Bool.false_or]
  · rw [decide_eq_false h, Bool.false_and, if_neg h]
    split <;> rfl
theorem lt_n : ∀ v, isLt v = true → 65 ≤ v ∧ v < 77 := fun v h => by
  unfold isLt at h
  rw [Bool.and_eq_true, decide_eq_true_eq, decide_eq_true_eq] at h
  exact h
theorem dg_n : ∀ v, isDg v = true → 48 ≤ v ∧ v < 52 := fun v h => by
  unfold isDg at h
  rw [Bool.and_eq_true, decide_eq_true_eq, decide_eq_true_eq] at h
  exact h
theorem sgS_in {c : Nat → Nat} {n s : Nat} (h : ¬ sgS c n s = 0) : s < n ∧ sgS c n s = c s := by
  unfold sgS at h ⊢
  by_cases e : s < n
  · exact ⟨e, if_pos e⟩
  · rw [if_neg e] at h
    exact absurd rfl h
theorem sg_n : ∀ v, isSg v = true → 33 ≤ v := fun v h => by
  unfold isSg at h
  simp only [Bool.or_eq_true, decide_eq_true_eq] at h
  omega
/-- the reference's part comes to the same -/
theorem pF_prt {c : Nat → Nat} {n : Nat} (hB : BF c n) (s : Nat) : pFx c n (s, false) = prt c n s := by
  unfold pFx prt
  rw [sgx_f, gS_0]
  by_cases hx : sgS c n s = 120
  · have hs := sgS_in (c := c) (n := n) (s := s) (by omega)
    have hc : c s = 120 := hs.2.symm.trans hx
    rw [if_pos hx, decide_eq_true hx, Bool.or_true, if_pos rfl, gS_1, if_pos hc, gS_2, show enP c s = true by unfold enP; rw [decide_eq_true hc]; rfl, if_pos rfl]
    unfold q3x q2x q1x
    rw [stp_f, if_pos rfl, lt_m1 hB]
    cases h1 : isLt (sgS c n (s + 1)) with
    | false =>
      rw [if_neg (by decide), if_neg (by decide), dt_t]
    | true =>
      rw [if_pos rfl, if_pos rfl, dt_f hB]
      cases h2 : isDg (sgS c n (s + 1 + 1)) with
      | false =>
        rw [if_neg Bool.false_ne_true, if_neg Bool.false_ne_true]
      | true =>
        have l1 := lt_n _ h1
        have s1 := sgS_in (c := c) (n := n) (s := s + 1) (by omega)
        rw [if_pos rfl, if_pos rfl, if_pos (show plN c n s = 3 from if_neg (fun z => by omega))]
  · rw [if_neg hx, decide_eq_false hx, Bool.or_false]
    unfold p4x p3x p2x soX p1x
    rw [lt_m1 hB]
    cases h0 : isLt (sgS c n s) with
    | false =>
      rw [if_neg (by decide), if_neg (by decide), stp_t, tw_t, th_t]
    | true =>
      have l0 := lt_n _ h0
      have s0 := sgS_in (c := c) (n := n) (s := s) (by omega)
      have hc : ¬ c s = 120 := by omega
      rw [if_pos rfl, if_pos rfl, sgx_f, gS_1, if_neg hc, sg_fin _ (sgS_lt hB _), stp_f]
      cases h1 : isSg (sgS c n (s + 1)) with
      | false =>
        rw [if_neg (by decide), if_neg (by decide), tw_t, th_t]
      | true =>
        have l1 := sg_n _ h1
        have s1 := sgS_in (c := c) (n := n) (s := s + 1) (by omega)
        have v1 := sgS_lt hB (s + 1)
        rw [if_pos rfl, if_pos rfl, gS_2]
        have e45 := so_45 _ v1
        have e6 := so_6 _ v1 h1
        by_cases h45 : soN (sgS c n (s + 1)) = 4 ∨ soN (sgS c n (s + 1)) = 5
        · rw [decide_eq_true h45, s1.2] at e45
          have en : enP c s = true := by
            unfold enP
            rw [Bool.or_assoc, ← e45, Bool.or_true]
          have hn6 : ¬ soN (sgS c n (s + 1)) = 6 := by omega
          rw [decide_eq_false hn6, s1.2] at e6
          have hp : plN c n s = 3 := if_neg (fun z => (of_decide_eq_false e6.symm) z.2)
          rw [en, if_pos rfl, hp, if_pos rfl]
          unfold twX thX
          rw [if_pos h45, if_neg hn6, dt_f hB]
        · rw [decide_eq_false h45, s1.2] at e45
          have en : enP c s = false := by
            unfold enP
            rw [Bool.or_assoc, ← e45, decide_eq_false hc]
            rfl
          have v0 : sgS c n s < 127 := sgS_lt hB s
          rw [en, if_neg Bool.false_ne_true]
          unfold twX twI
          rw [if_neg h45, if_neg h45]
          unfold itx
          rw [sgx_f, lt_u hB v0, s0.2, show s + 1 + 1 = s + 2 from rfl]
          by_cases h2 : (isLt (sgS c n (s + 2)) && !decide (sgS c n (s + 2) = c s)) = true
          · rw [if_pos h2, if_pos h2]
            unfold thX
            by_cases h6 : soN (sgS c n (s + 1)) = 6
            · rw [decide_eq_true h6, s1.2] at e6
              have hp : plN c n s = 4 := if_pos ⟨s1.1, of_decide_eq_true e6.symm⟩
              have l2 := lt_n _ (Bool.and_eq_true_iff.mp h2).1
              have s2 := sgS_in (c := c) (n := n) (s := s + 2) (by omega)
              rw [if_pos h6, sgx_f, ← s0.2, lt_uv hB v0 (sgS_lt hB _), hp, if_neg (show ¬ (4 = 3) by decide), gS_3 hp, en, if_neg Bool.false_ne_true, s2.2, s0.2, show s + 2 + 1 = s + 3 from rfl]
            · rw [decide_eq_false h6, s1.2] at e6
              have hp : plN c n s = 3 := if_neg (fun z => (of_decide_eq_false e6.symm) z.2)
              rw [if_neg h6, hp, if_pos rfl]
          · rw [if_neg h2, th_t, if_neg h2]
/-! the scan of the class -/
def eiN (c : Nat → Nat) (n : Nat) : Nat → Nat → Nat → Nat
  | 0, _, i => i
  | k + 1, s, i => if fit c n s i = true then eiN c n k (if c i = 59 then i + 1 else s) (i + 1) else i
/-- where the last part begins, of the signs from i on -/
def lsN (c : Nat → Nat) : Nat → Nat → Nat → Nat
  | 0, s, _ => s
  | k + 1, s, i => lsN c k (if c i = 59 then i + 1 else s) (i + 1)
theorem fit_59 {c : Nat → Nat} {n s t : Nat} (ht : t < plN c n s) (h : fit c n s (s + t) = true) : ¬ c (s + t) = 59 := by
  intro z
  unfold fit at h
  rw [z] at h
  by_cases h0 : s + t = s
  · rw [if_pos h0] at h
    exact absurd h (by decide)
  · rw [if_neg h0] at h
    by_cases h1 : s + t = s + 1
    · rw [if_pos h1] at h
      split at h <;> exact absurd h (by decide)
    · rw [if_neg h1, if_neg (by omega)] at h
      split at h
      · exact absurd h (by decide)
      · rw [show isLt 59 = false from rfl, Bool.false_and, Bool.false_and] at h
        cases h
/-- t signs of a part scanned -/
theorem ei_go {c : Nat → Nat} {n s : Nat} : ∀ (t k : Nat), t ≤ plN c n s → (∀ u, u < t → fit c n s (s + u) = true) → eiN c n (t + k) s s = eiN c n k s (s + t) ∧ lsN c (t + k) s s = lsN c k s (s + t)
  | 0, k, _, _ => by
    rw [Nat.zero_add]
    exact ⟨rfl, rfl⟩
  | t + 1, k, ht, h => by
    have ih := ei_go t (k + 1) (by omega) (fun u hu => h u (by omega))
    have hf := h t (by omega)
    have hn := fit_59 (by omega) hf
    rw [show t + 1 + k = t + (k + 1) by omega, ih.1, ih.2, eiN, lsN, if_pos hf, if_neg hn]
    exact ⟨rfl, rfl⟩
theorem gS_iff {c : Nat → Nat} {n s t : Nat} : gS c n s t = true ↔ s + t < n ∧ fit c n s (s + t) = true := by
  unfold gS
  rw [Bool.and_eq_true, decide_eq_true_eq]
/-- a part that is wrong at its t-th sign -/
theorem wrong_at {c : Nat → Nat} {n s : Nat} (hs : s ≤ n) : ∀ t, t < plN c n s → (∀ u, u < t → gS c n s u = true) → gS c n s t = false → eiN c n (n - s) s s = s + t ∧ (s + t = n → lsN c (n - s) s s = s) := by
  intro t ht hu hg
  have hb : s + t ≤ n := by
    by_cases h0 : t = 0
    · omega
    · have := (gS_iff.mp (hu (t - 1) (by omega))).1
      omega
  have hgo := ei_go (c := c) (n := n) (s := s) t (n - s - t) (by omega) (fun u h => (gS_iff.mp (hu u h)).2)
  rw [show t + (n - s - t) = n - s by omega] at hgo
  by_cases he : s + t = n
  · rw [show n - s - t = 0 by omega] at hgo
    exact ⟨hgo.1, fun _ => hgo.2⟩
  · have hf : ¬ fit c n s (s + t) = true := fun z => by
      rw [gS_iff.mpr ⟨by omega, z⟩] at hg
      cases hg
    obtain ⟨k, hk⟩ : ∃ k, n - s - t = k + 1 := ⟨n - s - t - 1, by omega⟩
    rw [hk] at hgo
    refine ⟨?_, fun z => absurd z he⟩
    rw [hgo.1, eiN, if_neg hf]
/-- what the two readings come to -/
def okT (c : Nat → Nat) (n s : Nat) (g : Nat × Bool) : Prop := eiN c n (n - s) s s = (if g.2 = true then g.1 else n) ∧ (g.2 = false ↔ eiN c n (n - s) s s = n ∧ n - lsN c (n - s) s s = plN c n (lsN c (n - s) s s))
theorem prt_cases (c : Nat → Nat) (n s : Nat) : (∃ t, t < plN c n s ∧ (∀ u, u < t → gS c n s u = true) ∧ gS c n s t = false ∧ prt c n s = (s + t, true)) ∨ ((∀ u, u < plN c n s → gS c n s u = true) ∧ prt c n s = (s + plN c n s, false)) := by
  have hp := pl_34 c n s
  unfold prt
  cases h0 : gS c n s 0 with
  | false =>
    left
    exact ⟨0, by omega, fun u hu => absurd hu (by omega), h0, if_neg (by decide)⟩
  | true =>
    rw [if_pos rfl]
    cases h1 : gS c n s 1 with
    | false =>
      left
      refine ⟨1, by omega, fun u hu => ?_, h1, if_neg (by decide)⟩
      rw [show u = 0 by omega]
      exact h0
    | true =>
      rw [if_pos rfl]
      cases h2 : gS c n s 2 with
      | false =>
        left
        refine ⟨2, by omega, fun u hu => ?_, h2, if_neg (by decide)⟩
        rcases (show u = 0 ∨ u = 1 by omega) with rfl | rfl
        · exact h0
        · exact h1
      | true =>
        rw [if_pos rfl]
        rcases hp with hp | hp
        · right
          rw [hp, if_pos rfl]
          refine ⟨fun u hu => ?_, rfl⟩
          rcases (show u = 0 ∨ u = 1 ∨ u = 2 by omega) with rfl | rfl | rfl
          · exact h0
          · exact h1
          · exact h2
        · rw [hp, if_neg (by decide)]
          cases h3 : gS c n s 3 with
          | false =>
            left
            refine ⟨3, by omega, fun u hu => ?_, h3, if_neg (by decide)⟩
            rcases (show u = 0 ∨ u = 1 ∨ u = 2 by omega) with rfl | rfl | rfl
            · exact h0
            · exact h1
            · exact h2
          | true =>
            right
            refine ⟨fun u hu => ?_, if_pos rfl⟩
            rcases (show u = 0 ∨ u = 1 ∨ u = 2 ∨ u = 3 by omega) with rfl | rfl | rfl | rfl
            · exact h0
            · exact h1
            · exact h2
            · exact h3
theorem fit_end {c : Nat → Nat} {n s : Nat} : fit c n s (s + plN c n s) = decide (c (s + plN c n s) = 59) := by
  have hp := pl_34 c n s
  unfold fit
  rw [if_neg (by omega), if_neg (by omega), if_pos rfl]
theorem okT_go {c : Nat → Nat} {n : Nat} (hB : BF c n) : ∀ (f s : Nat), s ≤ n → n - s < f → okT c n s (goX c n f (s, false))
  | 0, _, _, h => absurd h (by omega)
  | f + 1, s, hs, hf => by
    have hp := pl_34 c n s
    rcases prt_cases c n s with ⟨t, ht, hu, hg, e⟩ | ⟨hu, e⟩
    · have ew : goX c n (f + 1) (s, false) = (s + t, true) := by
        have hm : mrx c n (s, false) = false := by
          unfold mrx
          rw [pF_prt hB, e]
          rfl
        show (if mrx c n (s, false) = true then _ else pFx c n (s, false)) = _
        rw [hm, if_neg (by decide), pF_prt hB, e]
      rw [ew]
      obtain ⟨w1, w2⟩ := wrong_at hs t ht hu hg
      refine ⟨w1, fun z => Bool.noConfusion z, fun z => ?_⟩
      rw [w1] at z
      have h2 := w2 z.1
      rw [h2] at z
      have := z.2
      omega
    · have hlt : s + (plN c n s - 1) < n := (gS_iff.mp (hu _ (by omega))).1
      have hgo := ei_go (c := c) (n := n) (s := s) (plN c n s) (n - s - plN c n s) (Nat.le_refl _) (fun u h => (gS_iff.mp (hu u h)).2)
      rw [show plN c n s + (n - s - plN c n s) = n - s by omega] at hgo
      by_cases he : s + plN c n s = n
      · have ew : goX c n (f + 1) (s, false) = (n, false) := by
          have hm : mrx c n (s, false) = false := by
            unfold mrx
            rw [pF_prt hB, e]
            show (!false && decide (s + plN c n s < n)) = false
            rw [decide_eq_false (by omega)]
            rfl
          show (if mrx c n (s, false) = true then _ else pFx c n (s, false)) = _
          rw [hm, if_neg (by decide), pF_prt hB, e, he]
        rw [ew]
        rw [show n - s - plN c n s = 0 by omega] at hgo
        have h1 : eiN c n (n - s) s s = n := hgo.1.trans he
        have h2 : lsN c (n - s) s s = s := hgo.2
        refine ⟨h1, fun _ => ⟨h1, ?_⟩, fun _ => rfl⟩
        rw [h2]
        omega
      · obtain ⟨k, hk⟩ : ∃ k, n - s - plN c n s = k + 1 := ⟨n - s - plN c n s - 1, by omega⟩
        have hm : mrx c n (s, false) = true := by
          unfold mrx
          rw [pF_prt hB, e]
          show (!false && decide (s + plN c n s < n)) = true
          rw [decide_eq_true (by omega)]
          rfl
        have hz : zzx c n (s, false) = if c (s + plN c n s) = 59 then (s + plN c n s + 1, false) else (s + plN c n s, true) := by
          unfold zzx
          rw [pF_prt hB, e, sgx_f, stp_f]
          have : sgS c n (s + plN c n s) = c (s + plN c n s) := if_pos (by omega)
          rw [this]
          by_cases h : c (s + plN c n s) = 59
          · rw [decide_eq_true h, if_pos rfl, if_pos h]
          · rw [decide_eq_false h, if_neg (by decide), if_neg h]
        rw [hk] at hgo
        have hge : goX c n (f + 1) (s, false) = if (zzx c n (s, false)).2 = true then zzx c n (s, false) else goX c n f (zzx c n (s, false)) := if_pos hm
        rw [hge, hz]
        by_cases h : c (s + plN c n s) = 59
        · rw [if_pos h]
          have ih := okT_go hB f (s + plN c n s + 1) (by omega) (by omega)
          have q1 : eiN c n (n - s) s s = eiN c n (n - (s + plN c n s + 1)) (s + plN c n s + 1) (s + plN c n s + 1) := by
            rw [hgo.1, eiN, fit_end, if_pos (decide_eq_true h), if_pos h, show n - (s + plN c n s + 1) = k by omega]
          have q2 : lsN c (n - s) s s = lsN c (n - (s + plN c n s + 1)) (s + plN c n s + 1) (s + plN c n s + 1) := by
            rw [hgo.2, lsN, if_pos h, show n - (s + plN c n s + 1) = k by omega]
          unfold okT at ih ⊢
          rw [q1, q2]
          exact ih
        · rw [if_neg h]
          have q1 : eiN c n (n - s) s s = s + plN c n s := by
            rw [hgo.1, eiN, fit_end, if_neg (by rw [decide_eq_false h]; decide)]
          refine ⟨q1, fun z => Bool.noConfusion z, fun z => ?_⟩
          rw [q1] at z
          exact absurd z.1 he
/-- the class's first error is the reference's -/
theorem okT_0 {c : Nat → Nat} {n : Nat} (hB : BF c n) : eiN c n n 0 0 = (if (goX c n 61 (0, false)).2 = true then (goX c n 61 (0, false)).1 else n) ∧ ((goX c n 61 (0, false)).2 = false ↔ eiN c n n 0 0 = n ∧ n - lsN c n 0 0 = plN c n (lsN c n 0 0)) := by
  have h := okT_go hB 61 0 (Nat.zero_le _) (by have := hB.1; omega)
  unfold okT at h
  rw [Nat.sub_zero] at h
  exact h
theorem fe_eq {c : Nat → Nat} {n : Nat} (hB : BF c n) : eiN c n n 0 0 = feN c n := (okT_0 hB).1
theorem ct_eq {c : Nat → Nat} {n : Nat} (hB : BF c n) : (goX c n 61 (0, false)).2 = false ↔ eiN c n n 0 0 = n ∧ n - lsN c n 0 0 = plN c n (lsN c n 0 0) := (okT_0 hB).2
