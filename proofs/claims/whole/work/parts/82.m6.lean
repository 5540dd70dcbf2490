/-! THE SAME VALUES ON BOTH SIDES (by hand) -/
theorem lf_LE (S : Nat → Nat) (k : Nat) : lfA (bad (PRP S)) (PRP S) k = LE S k := by
  rw [bad_con (PRP_16 S)]
  unfold lfA LE
  by_cases h : conF (PRP S) = true
  · rw [if_pos h, if_pos h]
  · rw [if_neg h, if_neg h]
theorem fx_pt : ∀ a, a < 16 → (if fxI a = -1 then 0 else 1) = pc4 ((decide (pc4 a = 1)).toNat) := by decide +kernel
theorem sum12 {f g : Nat → Nat} (h : ∀ k, k < 12 → f k = pc4 (g k)) : itN (fun k x => f k + x) 0 12 = cntF g := by
  show f 11 + (f 10 + (f 9 + (f 8 + (f 7 + (f 6 + (f 5 + (f 4 + (f 3 + (f 2 + (f 1 + (f 0 + 0))))))))))) = _
  unfold cntF
  have h0 := h 0 (by decide)
  have h1 := h 1 (by decide)
  have h2 := h 2 (by decide)
  have h3 := h 3 (by decide)
  have h4 := h 4 (by decide)
  have h5 := h 5 (by decide)
  have h6 := h 6 (by decide)
  have h7 := h 7 (by decide)
  have h8 := h 8 (by decide)
  have h9 := h 9 (by decide)
  have h10 := h 10 (by decide)
  have h11 := h 11 (by decide)
  omega
theorem sum12b {f g : Nat → Nat} (h : ∀ k, k < 12 → f k = pc4 (g k)) : itN (fun k x => x + f k) 0 12 = cntF g := by
  show (((((((((((0 + f 0) + f 1) + f 2) + f 3) + f 4) + f 5) + f 6) + f 7) + f 8) + f 9) + f 10) + f 11 = _
  unfold cntF
  have h0 := h 0 (by decide)
  have h1 := h 1 (by decide)
  have h2 := h 2 (by decide)
  have h3 := h 3 (by decide)
  have h4 := h 4 (by decide)
  have h5 := h 5 (by decide)
  have h6 := h 6 (by decide)
  have h7 := h 7 (by decide)
  have h8 := h 8 (by decide)
  have h9 := h 9 (by decide)
  have h10 := h 10 (by decide)
  have h11 := h 11 (by decide)
  omega
/-- all fixed -/
theorem fx_on (S : Nat → Nat) : fxN (bad (PRP S)) (PRP S) 12 = onesF (LE S) :=
  sum12 (f := fun k => if fxI (lfA (bad (PRP S)) (PRP S) k) = -1 then 0 else 1) (fun k hk => by
    show (if fxI (lfA (bad (PRP S)) (PRP S) k) = -1 then 0 else 1) = _
    rw [lf_LE]
    exact fx_pt _ (LE_16 S k hk))
/-- all places left -/
theorem mn_cn (S : Nat → Nat) : mnN (bad (PRP S)) (PRP S) 12 = cntF (LE S) :=
  sum12 (f := fun k => pc4 (lfA (bad (PRP S)) (PRP S) k)) (fun k _ => by
    show pc4 (lfA (bad (PRP S)) (PRP S) k) = _
    rw [lf_LE])
theorem pl_all (ib : Bool) (mk tr : Nat → Nat) : ∀ n, plB ib mk tr n = true ↔ ∀ k, k < n → lfA ib mk k = tr k
  | 0 => ⟨fun _ k hk => absurd hk (Nat.not_lt_zero k), fun _ => rfl⟩
  | n + 1 => by
    rw [plB_s, Bool.and_eq_true, decide_eq_true_eq, pl_all ib mk tr n]
    constructor
    · intro h k hk
      by_cases e : k = n
      · rw [e]
        exact h.2
      · exact h.1 k (by omega)
    · intro h
      exact ⟨fun k hk => h k (by omega), h n (by omega)⟩
/-- plain -/
theorem pl_pk (S : Nat → Nat) : plB (bad (PRP S)) (PRP S) (trF S odC 13824) 12 = decide (pk (LE S) = pk (SVU S)) := by
  rw [Bool.eq_iff_iff, pl_all, decide_eq_true_eq, ← SVU_tr]
  constructor
  · intro h
    exact zk_congr (fun j hj => by rw [← lf_LE]; exact h j hj)
  · intro h k hk
    rw [lf_LE]
    exact zk_inj (LE_16 S) (cus_16 S 13824) h k hk
theorem and15 : ∀ a, a < 16 → 15 &&& a = a := by decide
theorem dif15 : ∀ a, a < 16 → dif a 15 = 0 := by decide
theorem or_dif : ∀ a, a < 16 → ∀ m, m < 16 → a ||| dif (dif 15 m) a = a ||| dif 15 m := by decide +kernel
/-- crosses -/
theorem cr_cn {S : Nat → Nat} (hV : VC S) : crN S 12 = cntF (fun i => 15 &&& CX S i) :=
  sum12b (f := fun k => pc4 (S (k + 49))) (fun k hk => by
    show pc4 (S (k + 49)) = pc4 (15 &&& CX S k)
    rw [and15 _ (CX_16 hV k hk), CX_at hk])
/-- crosses that settle makes -/
theorem st_cn (S : Nat → Nat) : stN S 12 = cntF (fun i => dif (dif 15 (PRP S i)) (CX S i)) :=
  sum12 (f := fun k => pc4 (frs S k)) (fun k hk => by
    show pc4 (dif (dif 15 (PRP S k)) (S (k + 49))) = pc4 (dif (dif 15 (PRP S k)) (CX S k))
    rw [CX_at hk])
theorem VC_lo {S T : Nat → Nat} (hV : VC S) (h : ∀ j, j < 49 → T j = S j) (h2 : ∀ j, j < 12 → T (j + 49) < 16) : VC T := by
  refine ⟨fun j hj => ?_, ?_, fun k hk => ?_⟩
  · by_cases h49 : j < 49
    · rw [h j h49]
      exact hV.1 j hj
    · have := h2 (j - 49) (by omega)
      rw [show j - 49 + 49 = j by omega] at this
      exact this
  · rw [h 0 (by decide)]
    exact hV.2.1
  · rw [h 0 (by decide)] at hk
    have := hV.2.1
    rw [h (4 * k + 1) (by omega), h (4 * k + 2) (by omega), h (4 * k + 3) (by omega), h (4 * k + 4) (by omega)]
    exact hV.2.2 k hk
theorem ecl_lo {S T : Nat → Nat} (h : ∀ j, j < 49 → T j = S j) {k : Nat} (hk : k < 12) : ecl T k = ecl S k := by
  unfold ecl
  rw [h (4 * k + 1) (by omega), h (4 * k + 2) (by omega), h (4 * k + 3) (by omega), h (4 * k + 4) (by omega)]
theorem cl_lo {S T cl : Nat → Nat} (hV : VC S) (h : ∀ j, j < 49 → T j = S j) (hcl : ∀ k, k < S 0 → cl k = ecl S k) : ∀ k, k < T 0 → cl k = ecl T k := fun k hk => by
  rw [h 0 (by decide)] at hk
  have := hV.2.1
  rw [ecl_lo h (by omega)]
  exact hcl k hk
/-- settle -/
theorem stO_lo {S : Nat → Nat} : ∀ j, j < 49 → stO S j = S j := fun j hj => by
  unfold stO
  rw [upn_ne (by omega), putN, if_neg (by omega)]
theorem stO_at {S : Nat → Nat} {i : Nat} (hi : i < 12) : stO S (i + 49) = S (i + 49) ||| frs S i := by
  unfold stO
  rw [upn_ne (by omega), putN, if_pos (by omega), show i + 49 - 49 = i by omega]
theorem stO_61 (S : Nat → Nat) : stO S 61 = S 61 + stN S 12 := upn_at
theorem stO_62 (S : Nat → Nat) : stO S 62 = S 62 := by
  unfold stO
  rw [upn_ne (by decide), putN, if_neg (by decide)]
theorem stO_VC {S : Nat → Nat} (hV : VC S) : VC (stO S) := VC_lo hV stO_lo (fun j hj => by
  rw [stO_at hj]
  exact or_16 (hV.1 _ (by omega)) (dif_16 (dif_16 (by decide))))
theorem stO_CX {S : Nat → Nat} (hV : VC S) : pk (CX (stO S)) = pk (fun i => CX S i ||| dif 15 (PRP S i)) := zk_congr (fun j hj => by
  show CX (stO S) j = CX S j ||| dif 15 (PRP S j)
  rw [CX_at hj, stO_at hj, CX_at hj]
  exact or_dif _ (hV.1 _ (by omega)) _ (PRP_16 S j hj))
/-- rubOut -/
theorem rbO_ne {S : Nat → Nat} {i p j : Nat} (h1 : ¬ j = i + 49) (h2 : ¬ j = 62) : rbO S i p j = S j := by
  unfold rbO
  rw [upn_ne h2, upn_ne h1]
theorem rbO_62 (S : Nat → Nat) (i p : Nat) : rbO S i p 62 = S 62 + 1 := upn_at
theorem rbO_at {S : Nat → Nat} {i p : Nat} (hi : i < 12) : rbO S i p (i + 49) = dif (S (i + 49)) (2 ^ p) := by
  unfold rbO
  rw [upn_ne (by omega), upn_at]
theorem rbO_lo {S : Nat → Nat} {i p : Nat} : ∀ j, j < 49 → rbO S i p j = S j := fun j hj => rbO_ne (by omega) (by omega)
theorem rbO_VC {S : Nat → Nat} {i p : Nat} (hV : VC S) : VC (rbO S i p) := VC_lo hV rbO_lo (fun j hj => by
  by_cases e : j = i
  · rw [e, rbO_at (by omega)]
    exact dif_16 (hV.1 _ (by omega))
  · rw [rbO_ne (by omega) (by omega)]
    exact hV.1 _ (by omega))
theorem dif_zr (a : Nat) : dif a 0 = a := by
  unfold dif
  rw [Nat.and_zero, Nat.xor_zero]
theorem rbO_CX {S : Nat → Nat} {i p : Nat} : pk (CX (rbO S i p)) = pk (fun j => dif (CX S j) (sgl i (2 ^ p) j)) := zk_congr (fun j hj => by
  show CX (rbO S i p) j = dif (CX S j) (sgl i (2 ^ p) j)
  rw [CX_at hj, CX_at hj]
  unfold sgl
  by_cases e : j = i
  · rw [e, rbO_at (by omega), if_pos rfl]
  · rw [rbO_ne (by omega) (by omega), if_neg e, dif_zr])
/-- rubAllOut -/
theorem raO_lo {S : Nat → Nat} : ∀ j, j < 49 → raO S j = S j := fun j hj => by
  unfold raO
  rw [putN, if_neg (by omega), upn_ne (by omega)]
theorem raO_at {S : Nat → Nat} {i : Nat} (hi : i < 12) : raO S (i + 49) = 0 := by
  unfold raO
  rw [putN, if_pos (by omega)]
theorem raO_61 (S : Nat → Nat) : raO S 61 = S 61 := by
  unfold raO
  rw [putN, if_neg (by decide), upn_ne (by decide)]
theorem raO_62 (S : Nat → Nat) : raO S 62 = S 62 + crN S 12 := by
  unfold raO
  rw [putN, if_neg (by decide), upn_at]
theorem raO_VC {S : Nat → Nat} (hV : VC S) : VC (raO S) := VC_lo hV raO_lo (fun j hj => by
  rw [raO_at hj]
  decide)
theorem raO_CX {S : Nat → Nat} (hV : VC S) : pk (CX (raO S)) = pk (fun i => dif (CX S i) 15) := zk_congr (fun j hj => by
  show CX (raO S) j = dif (CX S j) 15
  rw [dif15 _ (CX_16 hV j hj), CX_at hj, raO_at hj])
/-- one alone -/
theorem cnt_pt : ∀ i, i < 12 → (if 0 = i then 1 else 0) + (if 1 = i then 1 else 0) + (if 2 = i then 1 else 0) + (if 3 = i then 1 else 0) + (if 4 = i then 1 else 0) + (if 5 = i then 1 else 0) + (if 6 = i then 1 else 0) + (if 7 = i then 1 else 0) + (if 8 = i then 1 else 0) + (if 9 = i then 1 else 0) + (if 10 = i then 1 else 0) + (if 11 = i then 1 else 0) = 1 := by decide
theorem cnt_one {G : Nat → Nat} {i : Nat} (hi : i < 12) (h : ∀ j, j < 12 → pc4 (G j) = if j = i then 1 else 0) : cntF G = 1 := by
  unfold cntF
  rw [h 0 (by decide), h 1 (by decide), h 2 (by decide), h 3 (by decide), h 4 (by decide), h 5 (by decide), h 6 (by decide), h 7 (by decide), h 8 (by decide), h 9 (by decide), h 10 (by decide), h 11 (by decide)]
  exact cnt_pt i hi
theorem one_cr : ∀ a, a < 16 → ∀ p, p < 4 → bt a p = false → pc4 (dif (2 ^ p) a) = 1 := by decide +kernel
theorem one_rb : ∀ a, a < 16 → ∀ p, p < 4 → bt a p = true → pc4 (2 ^ p &&& a) = 1 := by decide +kernel
theorem cross_1 {S : Nat → Nat} {i p : Nat} (hV : VC S) (hi : i < 12) (hp : p < 4) (h : bt (CX S i) p = false) : cntF (fun j => dif (sgl i (2 ^ p) j) (CX S j)) = 1 := cnt_one hi (fun j hj => by
  show pc4 (dif (sgl i (2 ^ p) j) (CX S j)) = _
  unfold sgl
  by_cases e : j = i
  · rw [if_pos e, if_pos e, e]
    exact one_cr _ (CX_16 hV i hi) p hp h
  · rw [if_neg e, if_neg e, dif_0]
    rfl)
theorem rub_1 {S : Nat → Nat} {i p : Nat} (hV : VC S) (hi : i < 12) (hp : p < 4) (h : bt (CX S i) p = true) : cntF (fun j => sgl i (2 ^ p) j &&& CX S j) = 1 := cnt_one hi (fun j hj => by
  show pc4 (sgl i (2 ^ p) j &&& CX S j) = _
  unfold sgl
  by_cases e : j = i
  · rw [if_pos e, if_pos e, e]
    exact one_rb _ (CX_16 hV i hi) p hp h
  · rw [if_neg e, if_neg e, Nat.zero_and]
    rfl)
