/-! A CLUE TAKEN OUT; WHAT IS SAVED (by hand) -/
theorem wdr_0 (S : Nat → Nat) (k : Nat) : wdr S k 0 = S 0 - 1 := by
  unfold wdr wdS
  rw [if_pos rfl]
theorem wdr_lo {S : Nat → Nat} {k j : Nat} (h0 : ¬ j = 0) (h : j ≤ 4 * k) : wdr S k j = S j := by
  unfold wdr wdS
  rw [if_neg h0, if_neg (by omega)]
theorem wdr_mid {S : Nat → Nat} {k j : Nat} (h1 : 4 * k + 1 ≤ j) (h2 : j ≤ 4 * (S 0 - 1)) : wdr S k j = S (j + 4) := by
  unfold wdr wdS
  rw [if_neg (by omega), if_pos (by omega)]
theorem wdr_hi {S : Nat → Nat} {k j : Nat} (hk : k < S 0) (h : 4 * (S 0 - 1) < j) : wdr S k j = S j := by
  unfold wdr wdS
  rw [if_neg (by omega), if_neg (by omega)]
theorem wdr_m4 {S : Nat → Nat} {k t i : Nat} (h1 : k ≤ t) (h2 : t < S 0 - 1) (hi : 1 ≤ i) (hi4 : i ≤ 4) : wdr S k (4 * t + i) = S (4 * (t + 1) + i) := by
  rw [wdr_mid (by omega) (by omega), show 4 * t + i + 4 = 4 * (t + 1) + i by omega]
theorem wdr_eA {S : Nat → Nat} {k t : Nat} (ht : t < k) : ecl (wdr S k) t = ecl S t := by
  unfold ecl
  rw [wdr_lo (j := 4 * t + 1) (by omega) (by omega), wdr_lo (j := 4 * t + 2) (by omega) (by omega), wdr_lo (j := 4 * t + 3) (by omega) (by omega), wdr_lo (j := 4 * t + 4) (by omega) (by omega)]
theorem wdr_eB {S : Nat → Nat} {k t : Nat} (h1 : k ≤ t) (h2 : t < S 0 - 1) : ecl (wdr S k) t = ecl S (t + 1) := by
  unfold ecl
  rw [wdr_m4 (i := 1) h1 h2 (by decide) (by decide), wdr_m4 (i := 2) h1 h2 (by decide) (by decide), wdr_m4 (i := 3) h1 h2 (by decide) (by decide), wdr_m4 (i := 4) h1 h2 (by decide) (by decide)]
theorem wdr_CX {S : Nat → Nat} {k : Nat} (hk : k < S 0) (h12 : S 0 ≤ 12) : CX (wdr S k) = CX S := by
  funext i
  unfold CX
  by_cases h : i < 12
  · rw [if_pos h, if_pos h, wdr_hi hk (by omega)]
  · rw [if_neg h, if_neg h]
theorem wdr_cl {S cl : Nat → Nat} {k : Nat} (hk : k < S 0) (hcl : ∀ t, t < S 0 → cl t = ecl S t) : ∀ t, t < wdr S k 0 → dcS cl k (S 0 - 1 - k) t = ecl (wdr S k) t := fun t ht => by
  rw [wdr_0] at ht
  unfold dcS
  by_cases h : t < k
  · rw [if_neg (by omega), wdr_eA h]
    exact hcl t (by omega)
  · rw [if_pos (by omega), wdr_eB (by omega) ht]
    exact hcl (t + 1) (by omega)
theorem wdr_VC {S : Nat → Nat} {k : Nat} (hk : k < S 0) (hV : VC S) : VC (wdr S k) := by
  have h12 := hV.2.1
  refine ⟨fun j hj => ?_, ?_, fun t ht => ?_⟩
  · by_cases h0 : j = 0
    · rw [h0, wdr_0]
      omega
    · by_cases h1 : j ≤ 4 * k
      · rw [wdr_lo h0 h1]
        exact hV.1 j hj
      · by_cases h2 : j ≤ 4 * (S 0 - 1)
        · rw [wdr_mid (by omega) h2]
          exact hV.1 _ (by omega)
        · rw [wdr_hi hk (by omega)]
          exact hV.1 j hj
  · rw [wdr_0]
    omega
  · rw [wdr_0] at ht
    by_cases h : t < k
    · rw [wdr_lo (j := 4 * t + 1) (by omega) (by omega), wdr_lo (j := 4 * t + 2) (by omega) (by omega), wdr_lo (j := 4 * t + 3) (by omega) (by omega), wdr_lo (j := 4 * t + 4) (by omega) (by omega)]
      exact hV.2.2 t (by omega)
    · have h1 : k ≤ t := by omega
      rw [wdr_m4 (i := 1) h1 ht (by decide) (by decide), wdr_m4 (i := 2) h1 ht (by decide) (by decide), wdr_m4 (i := 3) h1 ht (by decide) (by decide), wdr_m4 (i := 4) h1 ht (by decide) (by decide)]
      exact hV.2.2 (t + 1) (by omega)
/-- nothing past the row -/
theorem upn_ZN {n i v : Nat} {S : Nat → Nat} (hi : i < n) (h : ZN n S) : ZN n (upn S i v) := fun j hj => by
  rw [upn_ne (by omega)]
  exact h j hj
theorem putN_ZN {n o m : Nat} {f S : Nat → Nat} (hi : o + m ≤ n) (h : ZN n S) : ZN n (putN o m f S) := fun j hj => by
  rw [putN, if_neg (by omega)]
  exact h j hj
theorem addS_ZN {S : Nat → Nat} {a b c d : Nat} (h12 : S 0 < 12) (h : ZN 63 S) : ZN 63 (addS S a b c d) := by
  unfold addS
  exact upn_ZN (by decide) (upn_ZN (by omega) (upn_ZN (by omega) (upn_ZN (by omega) (upn_ZN (by omega) h))))
theorem crO_ZN {S : Nat → Nat} {i p : Nat} (hi : i < 12) (h : ZN 63 S) : ZN 63 (crO S i p) := by
  unfold crO
  exact upn_ZN (by decide) (upn_ZN (by omega) h)
theorem rbO_ZN {S : Nat → Nat} {i p : Nat} (hi : i < 12) (h : ZN 63 S) : ZN 63 (rbO S i p) := by
  unfold rbO
  exact upn_ZN (by decide) (upn_ZN (by omega) h)
theorem raO_ZN {S : Nat → Nat} (h : ZN 63 S) : ZN 63 (raO S) := by
  unfold raO
  exact putN_ZN (by decide) (upn_ZN (by decide) h)
theorem stO_ZN {S : Nat → Nat} (h : ZN 63 S) : ZN 63 (stO S) := by
  unfold stO
  exact upn_ZN (by decide) (putN_ZN (by decide) h)
theorem wdr_ZN {S : Nat → Nat} {k : Nat} (hk : k < S 0) (h12 : S 0 ≤ 12) (h : ZN 63 S) : ZN 63 (wdr S k) := fun j hj => by
  rw [wdr_hi hk (by omega)]
  exact h j hj
theorem blk_ZN (bf : Nat → Nat) (k : Nat) : ZN 63 (blk bf k) := fun j hj => if_neg (by omega)
/-- a saved state of the class stands for a row -/
def REP (v : SV) (T : Nat → Nat) : Prop := VC T ∧ v.2 = (N (T 0), L (pk (CX T)), N (T 61), N (T 62)) ∧ ∀ k, k < T 0 → v.1 k = N (ecl T k)
theorem REP_nw {S cl : Nat → Nat} {old : Nat → Int32} (hV : VC S) (hcl : ∀ k, k < S 0 → cl k = ecl S k) : REP (nwV S cl old) S :=
  ⟨hV, rfl, fun k hk => by
    have := hV.2.1
    show cp12 (aN cl) old k = _
    rw [cp12_lt (by omega)]
    show N (cl k) = _
    rw [hcl k hk]⟩
theorem N_all (v : Int32) : N v.toBitVec.toNat = v := by
  apply Int32.toBitVec_inj.mp
  show BitVec.ofNat 32 v.toBitVec.toNat = v.toBitVec
  rw [BitVec.ofNat_toNat, BitVec.setWidth_eq]
theorem REP_v {v : SV} {T : Nat → Nat} (h : REP v T) : v = (v.1, N (T 0), L (pk (CX T)), N (T 61), N (T 62)) := by
  rw [← h.2.1]
theorem REP_back {v : SV} {T : Nat → Nat} (cl : Nat → Nat) (h : REP v T) : ∃ F, cp12 v.1 (aN cl) = aN F ∧ ∀ k, k < T 0 → F k = ecl T k := by
  refine ⟨fun j => if j < 12 then (if j < T 0 then ecl T j else (v.1 j).toBitVec.toNat) else cl j, ?_, ?_⟩
  · funext j
    show _ = N (if j < 12 then (if j < T 0 then ecl T j else (v.1 j).toBitVec.toNat) else cl j)
    by_cases h1 : j < 12
    · rw [cp12_lt h1, if_pos h1]
      by_cases h2 : j < T 0
      · rw [if_pos h2]
        exact h.2.2 j h2
      · rw [if_neg h2, N_all]
    · rw [if_neg h1]
      unfold cp12 va_cpy
      rw [if_neg (by omega)]
      rfl
  · intro k hk
    have := h.1.2.1
    show (if k < 12 then (if k < T 0 then ecl T k else (v.1 k).toBitVec.toNat) else cl k) = _
    rw [if_pos (by omega), if_pos hk]
/-- the saved states stand for the rows saved -/
def SVI (r sc : Nat) (bf : Nat → Nat) (sv : Nat → SV) : Prop := ∀ i, i < sc → REP (sv ((r + i) % 6)) (blk bf i)
theorem SVI_undo {r sc : Nat} {bf : Nat → Nat} {sv : Nat → SV} (h : SVI r (sc + 1) bf sv) : SVI r sc bf sv ∧ REP (sv ((r + sc) % 6)) (blk bf sc) :=
  ⟨fun i hi => h i (by omega), h sc (by omega)⟩
theorem upS_ne {sv : Nat → SV} {i j : Nat} {v : SV} (h : ¬ i = j) : upS sv j v i = sv i := if_neg h
theorem upS_at {sv : Nat → SV} {j : Nat} {v : SV} : upS sv j v j = v := if_pos rfl
theorem SVI_save {r sc : Nat} {bf S : Nat → Nat} {sv : Nat → SV} {v : SV} (hr : r < 6) (hsc : sc ≤ 6) (hz : ZN 63 S) (hv : REP v S) (h : SVI r sc bf sv) : SVI (svR r sc) (svK sc) (sBf sc S bf) (upS sv (svJ r sc) v) := by
  by_cases h6 : sc = 6
  · subst h6
    have e1 : svR r 6 = (r + 1) % 6 := if_pos rfl
    have e2 : svK 6 = 6 := if_pos rfl
    have e3 : svJ r 6 = r := by
      unfold svJ
      omega
    have e4 : sBf 6 S bf = putN 315 63 S (dnB bf) := if_pos rfl
    rw [e1, e2, e3, e4]
    intro i hi
    by_cases h5 : i = 5
    · subst h5
      rw [show ((r + 1) % 6 + 5) % 6 = r by omega, upS_at]
      have e : blk (putN 315 63 S (dnB bf)) 5 = S := by
        funext j
        unfold blk
        by_cases hj : j < 63
        · rw [if_pos hj, putN, if_pos (by omega), show j + 63 * 5 - 315 = j by omega]
        · rw [if_neg hj]
          exact (hz j (by omega)).symm
      rw [e]
      exact hv
    · rw [upS_ne (by omega), show ((r + 1) % 6 + i) % 6 = (r + (i + 1)) % 6 by omega]
      have e : blk (putN 315 63 S (dnB bf)) i = blk bf (i + 1) := by
        funext j
        unfold blk
        by_cases hj : j < 63
        · rw [if_pos hj, if_pos hj, putN, if_neg (by omega), dnB, fil, if_pos (by omega), show j + 63 * i + 63 = j + 63 * (i + 1) by omega]
        · rw [if_neg hj, if_neg hj]
      rw [e]
      exact h (i + 1) (by omega)
  · have e1 : svR r sc = r := if_neg h6
    have e2 : svK sc = sc + 1 := if_neg h6
    have e4 : sBf sc S bf = putN (63 * sc) 63 S bf := if_neg h6
    rw [e1, e2, e4]
    intro i hi
    by_cases h5 : i = sc
    · subst h5
      rw [show svJ r i = (r + i) % 6 by rfl, upS_at]
      have e : blk (putN (63 * i) 63 S bf) i = S := by
        funext j
        unfold blk
        by_cases hj : j < 63
        · rw [if_pos hj, putN, if_pos (by omega), show j + 63 * i - 63 * i = j by omega]
        · rw [if_neg hj]
          exact (hz j (by omega)).symm
      rw [e]
      exact hv
    · rw [upS_ne (by unfold svJ; omega)]
      have e : blk (putN (63 * sc) 63 S bf) i = blk bf i := by
        funext j
        unfold blk
        by_cases hj : j < 63
        · rw [if_pos hj, if_pos hj, putN, if_neg (by omega)]
        · rw [if_neg hj, if_neg hj]
      rw [e]
      exact h i (by omega)
theorem svR_lt {r sc : Nat} (hr : r < 6) : svR r sc < 6 := by
  unfold svR
  split
  · omega
  · exact hr
theorem svK_le {sc : Nat} (hsc : sc ≤ 6) : svK sc ≤ 6 := by
  unfold svK
  split
  · decide
  · omega
theorem sKn_eq (sc : Nat) : sKn sc = svK sc := rfl
