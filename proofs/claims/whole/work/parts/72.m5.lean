/-! TEXTS: what a right part does (by hand) -/
def gdC (c : Nat → Nat) (n s : Nat) : Prop := ∀ u, u < plN c n s → gS c n s u = true
def doS (c S : Nat → Nat) (s : Nat) : (Nat → Nat) × Bool :=
  if c s = 120 then (if bt (S (c (s + 1) - 65 + 49)) (c (s + 2) - 48) = true then (S, false) else (crO S (c (s + 1) - 65) (c (s + 2) - 48), true))
  else if S 0 < 12 then (addS S (soN (c (s + 1))) (c s - 65) (if soN (c (s + 1)) = 4 ∨ soN (c (s + 1)) = 5 then c (s + 2) - 48 else c (s + 2) - 65) (if soN (c (s + 1)) = 6 then c (s + 3) - 65 else 0), true)
  else (S, false)
theorem lt_ex {v : Nat} (h : isLt v = true) : ∃ i, i < 12 ∧ v = 65 + i := by
  have := lt_n v h
  exact ⟨v - 65, by omega, by omega⟩
theorem dg_ex {v : Nat} (h : isDg v = true) : ∃ p, p < 4 ∧ v = 48 + p := by
  have := dg_n v h
  exact ⟨v - 48, by omega, by omega⟩
theorem gS_sg {c : Nat → Nat} {n s t : Nat} (h : gS c n s t = true) : s + t < n ∧ sgS c n (s + t) = c (s + t) := by
  have := (gS_iff.mp h).1
  exact ⟨this, if_pos this⟩
def cdN (so : Nat) : Nat := if so = 0 then 61 else if so = 1 then 35 else if so = 2 then 60 else if so = 3 then 126 else if so = 4 then 64 else if so = 5 then 33 else 124
/-- what a right part looks like -/
theorem gd_cases {c : Nat → Nat} {n s : Nat} (h : gdC c n s) :
    (plN c n s = 3 ∧ s + 2 < n ∧ c s = 120 ∧ ∃ i p, i < 12 ∧ p < 4 ∧ c (s + 1) = 65 + i ∧ c (s + 2) = 48 + p)
    ∨ (plN c n s = 3 ∧ s + 2 < n ∧ ∃ so i j, so < 4 ∧ i < 12 ∧ j < 12 ∧ ¬ j = i ∧ c s = 65 + i ∧ c (s + 1) = cdN so ∧ c (s + 2) = 65 + j)
    ∨ (plN c n s = 3 ∧ s + 2 < n ∧ ∃ so i p, (so = 4 ∨ so = 5) ∧ i < 12 ∧ p < 4 ∧ c s = 65 + i ∧ c (s + 1) = cdN so ∧ c (s + 2) = 48 + p)
    ∨ (plN c n s = 4 ∧ s + 3 < n ∧ ∃ i j k, i < 12 ∧ j < 12 ∧ k < 12 ∧ ¬ j = i ∧ ¬ k = i ∧ ¬ k = j ∧ c s = 65 + i ∧ c (s + 1) = 124 ∧ c (s + 2) = 65 + j ∧ c (s + 3) = 65 + k) := by
  have hp := pl_34 c n s
  have g0 := h 0 (by omega)
  have g1 := h 1 (by omega)
  have g2 := h 2 (by omega)
  have s0 := gS_sg g0
  have s1 := gS_sg g1
  have s2 := gS_sg g2
  rw [Nat.add_zero] at s0
  rw [gS_0, s0.2] at g0
  rw [gS_1, s1.2] at g1
  rw [gS_2, s2.2] at g2
  by_cases hx : c s = 120
  · rw [if_pos hx] at g1
    have en : enP c s = true := by
      unfold enP
      rw [decide_eq_true hx]
      rfl
    rw [en, if_pos rfl] at g2
    obtain ⟨i, hi, e1⟩ := lt_ex g1
    obtain ⟨p, hp4, e2⟩ := dg_ex g2
    exact Or.inl ⟨if_neg (fun z => by omega), s2.1, hx, i, p, hi, hp4, e1, e2⟩
  · rw [if_neg hx] at g1
    rw [decide_eq_false hx, Bool.or_false] at g0
    obtain ⟨i, hi, e0⟩ := lt_ex g0
    right
    have g1' := g1
    unfold isSg at g1'
    simp only [Bool.or_eq_true, decide_eq_true_eq] at g1'
    by_cases h45 : c (s + 1) = 64 ∨ c (s + 1) = 33
    · have en : enP c s = true := by
        unfold enP
        rcases h45 with z | z
        · rw [decide_eq_true z, Bool.or_true]
          rfl
        · rw [decide_eq_true z, Bool.or_true]
      rw [en, if_pos rfl] at g2
      obtain ⟨p, hp4, e2⟩ := dg_ex g2
      refine Or.inr (Or.inl ⟨if_neg (fun z => by omega), s2.1, ?_⟩)
      rcases h45 with z | z
      · exact ⟨4, i, p, Or.inl rfl, hi, hp4, e0, z, e2⟩
      · exact ⟨5, i, p, Or.inr rfl, hi, hp4, e0, z, e2⟩
    · have en : enP c s = false := by
        unfold enP
        rw [decide_eq_false hx, decide_eq_false (fun z => h45 (Or.inl z)), decide_eq_false (fun z => h45 (Or.inr z))]
        rfl
      rw [en, if_neg Bool.false_ne_true, Bool.and_eq_true, Bool.not_eq_true', decide_eq_false_iff_not] at g2
      obtain ⟨j, hj, e2⟩ := lt_ex g2.1
      have hji : ¬ j = i := fun z => g2.2 (by omega)
      by_cases h6 : c (s + 1) = 124
      · have hp4 : plN c n s = 4 := if_pos ⟨s1.1, h6⟩
        have g3 := h 3 (by omega)
        have s3 := gS_sg g3
        rw [gS_3 hp4, en, if_neg Bool.false_ne_true, s3.2, Bool.and_eq_true, Bool.and_eq_true, Bool.not_eq_true', Bool.not_eq_true', decide_eq_false_iff_not, decide_eq_false_iff_not] at g3
        obtain ⟨k, hk, e3⟩ := lt_ex g3.1.1
        exact Or.inr (Or.inr ⟨hp4, s3.1, i, j, k, hi, hj, hk, hji, fun z => g3.1.2 (by omega), fun z => g3.2 (by omega), e0, h6, e2, e3⟩)
      · refine Or.inl ⟨if_neg (fun z => h6 z.2), s2.1, ?_⟩
        have h4 : c (s + 1) = 61 ∨ c (s + 1) = 35 ∨ c (s + 1) = 60 ∨ c (s + 1) = 126 := by omega
        rcases h4 with z | z | z | z
        · exact ⟨0, i, j, by decide, hi, hj, hji, e0, z, e2⟩
        · exact ⟨1, i, j, by decide, hi, hj, hji, e0, z, e2⟩
        · exact ⟨2, i, j, by decide, hi, hj, hji, e0, z, e2⟩
        · exact ⟨3, i, j, by decide, hi, hj, hji, e0, z, e2⟩
/-! rows of the reference after a cross, after a clue -/
theorem crO_ne {S : Nat → Nat} {i p j : Nat} (h1 : ¬ j = i + 49) (h2 : ¬ j = 61) : crO S i p j = S j := by
  unfold crO
  rw [upn_ne h2, upn_ne h1]
theorem crO_61 (S : Nat → Nat) (i p : Nat) : crO S i p 61 = S 61 + 1 := upn_at
theorem crO_at {S : Nat → Nat} {i p : Nat} (hi : i < 12) : crO S i p (i + 49) = S (i + 49) ||| 2 ^ p := by
  unfold crO
  rw [upn_ne (by omega), upn_at]
theorem crO_CX {S : Nat → Nat} {i p : Nat} (hi : i < 12) : CX (crO S i p) = fun j => CX S j ||| sgl i (2 ^ p) j := by
  funext j
  unfold CX sgl
  by_cases hj : j < 12
  · rw [if_pos hj, if_pos hj]
    by_cases e : j = i
    · rw [if_pos e, e, crO_at hi]
    · rw [if_neg e, crO_ne (by omega) (by omega), Nat.or_zero]
  · rw [if_neg hj, if_neg hj, if_neg (by omega)]
    rfl
theorem crO_VC {S : Nat → Nat} {i p : Nat} (hV : VC S) (hi : i < 12) (hp : p < 4) : VC (crO S i p) := by
  refine ⟨fun j hj => ?_, ?_, fun k hk => ?_⟩
  · by_cases e : j = i + 49
    · rw [e, crO_at hi]
      exact or_16 (hV.1 _ (by omega)) (p2_lt hp)
    · rw [crO_ne e (by omega)]
      exact hV.1 j hj
  · rw [crO_ne (by omega) (by omega)]
    exact hV.2.1
  · have h0 := hV.2.1
    rw [crO_ne (by omega) (by omega)] at hk
    rw [crO_ne (by omega) (by omega), crO_ne (by omega) (by omega), crO_ne (by omega) (by omega), crO_ne (by omega) (by omega)]
    exact hV.2.2 k hk
theorem crO_ecl {S : Nat → Nat} {i p k : Nat} (hk : k < 12) : ecl (crO S i p) k = ecl S k := by
  unfold ecl
  rw [crO_ne (by omega) (by omega), crO_ne (by omega) (by omega), crO_ne (by omega) (by omega), crO_ne (by omega) (by omega)]
theorem adS_0 (S : Nat → Nat) (a b c d : Nat) : addS S a b c d 0 = S 0 + 1 := upn_at
theorem adS_ne {S : Nat → Nat} {a b c d j : Nat} (h0 : ¬ j = 0) (h : j ≤ 4 * S 0 ∨ 4 * S 0 + 4 < j) : addS S a b c d j = S j := by
  unfold addS
  rw [upn_ne h0, upn_ne (by omega), upn_ne (by omega), upn_ne (by omega), upn_ne (by omega)]
theorem adS_1 (S : Nat → Nat) (a b c d : Nat) : addS S a b c d (4 * S 0 + 1) = a := by
  unfold addS
  rw [upn_ne (by omega), upn_ne (by omega), upn_ne (by omega), upn_ne (by omega), upn_at]
theorem adS_2 (S : Nat → Nat) (a b c d : Nat) : addS S a b c d (4 * S 0 + 2) = b := by
  unfold addS
  rw [upn_ne (by omega), upn_ne (by omega), upn_ne (by omega), upn_at]
theorem adS_3 (S : Nat → Nat) (a b c d : Nat) : addS S a b c d (4 * S 0 + 3) = c := by
  unfold addS
  rw [upn_ne (by omega), upn_ne (by omega), upn_at]
theorem adS_4 (S : Nat → Nat) (a b c d : Nat) : addS S a b c d (4 * S 0 + 4) = d := by
  unfold addS
  rw [upn_ne (by omega), upn_at]
theorem adS_CX {S : Nat → Nat} {a b c d : Nat} (h : S 0 < 12) : CX (addS S a b c d) = CX S := by
  funext j
  unfold CX
  by_cases hj : j < 12
  · rw [if_pos hj, if_pos hj, adS_ne (by omega) (by omega)]
  · rw [if_neg hj, if_neg hj]
theorem adS_VC {S : Nat → Nat} {a b c d : Nat} (hV : VC S) (h : S 0 < 12) (hb : b < 16) (hc : c < 16) (hd : d < 16) (hc4 : cvld a b c d) : VC (addS S a b c d) := by
  refine ⟨fun j hj => ?_, ?_, fun k hk => ?_⟩
  · by_cases e0 : j = 0
    · rw [e0, adS_0]
      omega
    · by_cases e : j ≤ 4 * S 0 ∨ 4 * S 0 + 4 < j
      · rw [adS_ne e0 e]
        exact hV.1 j hj
      · rcases (show j = 4 * S 0 + 1 ∨ j = 4 * S 0 + 2 ∨ j = 4 * S 0 + 3 ∨ j = 4 * S 0 + 4 by omega) with z | z | z | z
        · rw [z, adS_1]
          have := hc4.1
          omega
        · rw [z, adS_2]
          exact hb
        · rw [z, adS_3]
          exact hc
        · rw [z, adS_4]
          exact hd
  · rw [adS_0]
    omega
  · rw [adS_0] at hk
    by_cases e : k = S 0
    · rw [e, adS_1, adS_2, adS_3, adS_4]
      exact hc4
    · rw [adS_ne (by omega) (by omega), adS_ne (by omega) (by omega), adS_ne (by omega) (by omega), adS_ne (by omega) (by omega)]
      exact hV.2.2 k (by omega)
theorem adS_ecl {S : Nat → Nat} {a b c d k : Nat} (hk : k < S 0) : ecl (addS S a b c d) k = ecl S k := by
  unfold ecl
  rw [adS_ne (by omega) (by omega), adS_ne (by omega) (by omega), adS_ne (by omega) (by omega), adS_ne (by omega) (by omega)]
def eclV (a b c d : Nat) : Nat := if a = 4 ∨ a = 5 then encC a b 15 15 c else encC a b c (if a = 6 then d else 15) 15
theorem adS_ecn {S : Nat → Nat} {a b c d : Nat} : ecl (addS S a b c d) (S 0) = eclV a b c d := by
  unfold ecl eclV
  rw [adS_1, adS_2, adS_3, adS_4]
/-- the class's row of clues behind a new one -/
theorem adS_cl {S cl : Nat → Nat} {a b c d : Nat} (hcl : ∀ k, k < S 0 → cl k = ecl S k) : ∀ k, k < addS S a b c d 0 → upn cl (S 0) (eclV a b c d) k = ecl (addS S a b c d) k := fun k hk => by
  rw [adS_0] at hk
  by_cases e : k = S 0
  · rw [e, upn_at, adS_ecn]
  · rw [upn_ne e, adS_ecl (by omega)]
    exact hcl k (by omega)
theorem cntF_one {G : Nat → Nat} {i : Nat} (hi : i < 12) (h : ∀ j, j < 12 → ¬ j = i → G j = 0) : cntF G = pc4 (G i) := by
  have z : ∀ j, j < 12 → ¬ j = i → pc4 (G j) = 0 := fun j hj hn => by
    rw [h j hj hn]
    rfl
  unfold cntF
  have e : i = 0 ∨ i = 1 ∨ i = 2 ∨ i = 3 ∨ i = 4 ∨ i = 5 ∨ i = 6 ∨ i = 7 ∨ i = 8 ∨ i = 9 ∨ i = 10 ∨ i = 11 := by omega
  have z0 := z 0
  have z1 := z 1
  have z2 := z 2
  have z3 := z 3
  have z4 := z 4
  have z5 := z 5
  have z6 := z 6
  have z7 := z 7
  have z8 := z 8
  have z9 := z 9
  have z10 := z 10
  have z11 := z 11
  rcases e with rfl | rfl | rfl | rfl | rfl | rfl | rfl | rfl | rfl | rfl | rfl | rfl <;> simp at z0 z1 z2 z3 z4 z5 z6 z7 z8 z9 z10 z11 <;> omega
theorem pc_dif : ∀ m, m < 16 → ∀ p, p < 4 → pc4 (dif (2 ^ p) m) = if bt m p then 0 else 1 := by decide
theorem sgl_cnt {S : Nat → Nat} {i p : Nat} (hV : VC S) (hi : i < 12) (hp : p < 4) : cntF (fun j => dif (sgl i (2 ^ p) j) (CX S j)) = if bt (CX S i) p then 0 else 1 := by
  rw [cntF_one hi (fun j hj hn => by
    show dif (sgl i (2 ^ p) j) (CX S j) = 0
    rw [sgl, if_neg hn, dif_0])]
  show pc4 (dif (sgl i (2 ^ p) i) (CX S i)) = _
  rw [sgl, if_pos rfl]
  exact pc_dif _ (CX_16 hV i hi) p hp
theorem or_in : ∀ m, m < 16 → ∀ p, p < 4 → bt m p = true → m ||| 2 ^ p = m := by decide
theorem sgl_or {S : Nat → Nat} {i p : Nat} (hV : VC S) (hi : i < 12) (hp : p < 4) (h : bt (CX S i) p = true) : pk (fun j => CX S j ||| sgl i (2 ^ p) j) = pk (CX S) := zk_congr (fun j hj => by
  show CX S j ||| sgl i (2 ^ p) j = CX S j
  unfold sgl
  by_cases e : j = i
  · rw [if_pos e, e]
    exact or_in _ (CX_16 hV i hi) p hp h
  · rw [if_neg e, Nat.or_zero])
