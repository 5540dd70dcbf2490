/-! THE REFERENCE: propagation (gen_k5.py) -/
def Z12 (f : Nat → Nat) : Prop := ∀ j, 12 ≤ j → f j = 0
theorem fil_z {f g : Nat → Nat} (hf : Z12 f) (hg : Z12 g) : fil 12 f g = f := by
  funext j
  unfold fil
  by_cases h : j < 12
  · rw [if_pos h]
  · rw [if_neg h, hf j (by omega), hg j (by omega)]
/-- what is left at first -/
def FR (S : Nat → Nat) : Nat → Nat := fun j => if j < 12 then dif 15 (S (j + 49)) else 0
theorem FR_z (S : Nat → Nat) : Z12 (FR S) := fun j h => if_neg (by omega)
theorem FR_16 (S : Nat → Nat) : ∀ j, j < 12 → FR S j < 16 := fun j h => by
  rw [FR, if_pos h]
  exact dif_16 (by decide)
theorem fil_FR {S g : Nat → Nat} (hg : Z12 g) : fil 12 (frS S) g = FR S := by
  funext j
  unfold fil FR frS
  by_cases h : j < 12
  · rw [if_pos h, if_pos h]
  · rw [if_neg h, if_neg h, hg j (by omega)]
def rld (S f : Nat → Nat) (k p : Nat) : Bool := bt (f k) p && !decide (rbI S f k p = -1)
def rmN (S f : Nat → Nat) (k : Nat) : Nat → Nat := itN (fun p m => if rld S f k p then dif m (2 ^ p) else m) (f k)
def msk (S f : Nat → Nat) (k : Nat) : Nat → Nat := fun j => if j < k then rmN S f j 4 else f j
/-- one round -/
def rnd (S f : Nat → Nat) : Nat → Nat := msk S f 12
def moreK (S f : Nat → Nat) (k : Nat) : Bool := anyN (rld S f k) 4
def more (S f : Nat → Nat) : Bool := anyN (moreK S f) 12
def itr (S : Nat → Nat) : Nat → (Nat → Nat) → Nat → Nat
  | 0, f => f
  | n + 1, f => if more S f then itr S n (rnd S f) else f
def trn (S : Nat → Nat) : Nat → (Nat → Nat) → Nat
  | 0, _ => 0
  | n + 1, f => if more S f then trn S n (rnd S f) + 1 else 0
def badK (f : Nat → Nat) (i : Nat) : Bool := decide (f (4 * i) = 0) || decide (f (4 * i + 1) = 0) || decide (f (4 * i + 2) = 0) || decide (f (4 * i + 3) = 0) || !decide ((((f (4 * i) ||| f (4 * i + 1)) ||| f (4 * i + 2)) ||| f (4 * i + 3)) = 15)
def bad (f : Nat → Nat) : Bool := anyN (badK f) 3
def meas (f : Nat → Nat) : Nat → Nat := itN (fun k x => x + pc4 (f k)) 0
def PRP (S : Nat → Nat) : Nat → Nat := itr S 49 (FR S)
def TRP (S : Nat → Nat) : Nat := trn S 49 (FR S)
theorem upn_upn {S : Nat → Nat} {i a b : Nat} : upn (upn S i a) i b = upn S i b := by
  funext j
  unfold upn
  by_cases h : j = i
  · rw [if_pos h, if_pos h]
  · rw [if_neg h, if_neg h, if_neg h]
theorem upn_at {S : Nat → Nat} {i a : Nat} : upn S i a i = a := if_pos rfl
theorem upn_ne {S : Nat → Nat} {i j a : Nat} (h : ¬ j = i) : upn S i a j = S j := if_neg h
theorem upn_same {S : Nat → Nat} {i a : Nat} (h : S i = a) : upn S i a = S := by
  funext j
  unfold upn
  by_cases e : j = i
  · rw [if_pos e, ← h, e]
  · rw [if_neg e]
theorem msk_0 {S f : Nat → Nat} {k : Nat} : upn (msk S f k) k (rmN S f k 0) = msk S f k := upn_same (if_neg (Nat.lt_irrefl k))
theorem msk_4 {S f : Nat → Nat} {k : Nat} : upn (msk S f k) k (rmN S f k 4) = msk S f (k + 1) := by
  funext j
  unfold upn msk
  by_cases e : j = k
  · subst e
    rw [if_pos rfl, if_pos (by omega)]
  · rw [if_neg e]
    by_cases h : j < k
    · rw [if_pos h, if_pos (by omega)]
    · rw [if_neg h, if_neg (by omega)]
theorem msk_st {S f : Nat → Nat} {k : Nat} : msk S f 0 = f := by
  funext j
  exact if_neg (by omega)
theorem rmN_16 {S f : Nat → Nat} {k : Nat} (h : f k < 16) (p : Nat) : rmN S f k p < 16 := by
  induction p with
  | zero => exact h
  | succ p ih =>
    show (if rld S f k p then dif (rmN S f k p) (2 ^ p) else rmN S f k p) < 16
    split
    · exact dif_16 ih
    · exact ih
theorem rnd_16 {S f : Nat → Nat} (h : ∀ j, j < 12 → f j < 16) : ∀ j, j < 12 → rnd S f j < 16 := fun j hj => by
  rw [rnd, msk, if_pos hj]
  exact rmN_16 (h j hj) 4
theorem rnd_z {S f : Nat → Nat} (h : Z12 f) : Z12 (rnd S f) := fun j hj => by
  rw [rnd, msk, if_neg (by omega)]
  exact h j hj
def rmB (m : Nat) (r0 r1 r2 r3 : Bool) : Nat := itN (fun p m => if (match p with | 0 => r0 | 1 => r1 | 2 => r2 | _ => r3) then dif m (2 ^ p) else m) m 4
theorem rm_all : ((List.range 16).all fun m => [true, false].all fun r0 => [true, false].all fun r1 => [true, false].all fun r2 => [true, false].all fun r3 => (r0 && !bt m 0) || (r1 && !bt m 1) || (r2 && !bt m 2) || (r3 && !bt m 3) || decide (pc4 (rmB m r0 r1 r2 r3) + (r0.toNat + r1.toNat + r2.toNat + r3.toNat) = pc4 m)) = true := by decide +kernel
theorem bool_mem (b : Bool) : b ∈ [true, false] := by cases b <;> decide
theorem rm_fin (m : Nat) (hm : m < 16) (r0 r1 r2 r3 : Bool) (h0 : r0 = true → bt m 0 = true) (h1 : r1 = true → bt m 1 = true) (h2 : r2 = true → bt m 2 = true) (h3 : r3 = true → bt m 3 = true) : pc4 (rmB m r0 r1 r2 r3) + (r0.toNat + r1.toNat + r2.toNat + r3.toNat) = pc4 m := by
  have a := List.all_eq_true.mp (List.all_eq_true.mp (List.all_eq_true.mp (List.all_eq_true.mp (List.all_eq_true.mp rm_all m (List.mem_range.mpr hm)) r0 (bool_mem r0)) r1 (bool_mem r1)) r2 (bool_mem r2)) r3 (bool_mem r3)
  have e : ∀ (r b : Bool), (r = true → b = true) → (r && !b) = false := fun r b h => by cases r <;> cases b <;> simp_all
  rw [e _ _ h0, e _ _ h1, e _ _ h2, e _ _ h3] at a
  simpa using a
theorem rmN_pc {S f : Nat → Nat} {k : Nat} (h : f k < 16) : pc4 (rmN S f k 4) + ((rld S f k 0).toNat + (rld S f k 1).toNat + (rld S f k 2).toNat + (rld S f k 3).toNat) = pc4 (f k) :=
  rm_fin (f k) h (rld S f k 0) (rld S f k 1) (rld S f k 2) (rld S f k 3) (fun z => (Bool.and_eq_true_iff.mp z).1) (fun z => (Bool.and_eq_true_iff.mp z).1) (fun z => (Bool.and_eq_true_iff.mp z).1) (fun z => (Bool.and_eq_true_iff.mp z).1)
theorem more_pos {S f : Nat → Nat} {k : Nat} (h : moreK S f k = true) : 1 ≤ (rld S f k 0).toNat + (rld S f k 1).toNat + (rld S f k 2).toNat + (rld S f k 3).toNat := by
  have h2 : ((((false || rld S f k 0) || rld S f k 1) || rld S f k 2) || rld S f k 3) = true := h
  revert h2
  cases rld S f k 0 <;> cases rld S f k 1 <;> cases rld S f k 2 <;> cases rld S f k 3 <;> decide
theorem meas_rnd {S f : Nat → Nat} (h : ∀ j, j < 12 → f j < 16) : ∀ n, n ≤ 12 → meas (rnd S f) n + (anyN (moreK S f) n).toNat ≤ meas f n := by
  intro n
  induction n with
  | zero => exact fun _ => Nat.le_refl _
  | succ n ih =>
    intro hn
    have i1 := ih (by omega)
    have i2 := rmN_pc (S := S) (h n (by omega))
    have e1 : meas (rnd S f) (n + 1) = meas (rnd S f) n + pc4 (rmN S f n 4) := by
      show meas (rnd S f) n + pc4 (rnd S f n) = _
      rw [rnd, msk, if_pos (show n < 12 by omega)]
    have e2 : meas f (n + 1) = meas f n + pc4 (f n) := rfl
    rw [e1, e2, anyN_succ]
    cases hm : moreK S f n with
    | false =>
      rw [Bool.or_false]
      omega
    | true =>
      have i3 := more_pos hm
      rw [Bool.or_true]
      simp only [Bool.toNat_true]
      omega
theorem rmN_no {S f : Nat → Nat} {k : Nat} (h : moreK S f k = false) : rmN S f k 4 = f k := by
  have h2 : ((((false || rld S f k 0) || rld S f k 1) || rld S f k 2) || rld S f k 3) = false := h
  simp only [Bool.or_eq_false_iff] at h2
  obtain ⟨⟨⟨⟨-, a⟩, b⟩, c⟩, d⟩ := h2
  simp [rmN, itN, a, b, c, d]
theorem anyN_false {f : Nat → Bool} {n : Nat} (h : anyN f n = false) : ∀ k, k < n → f k = false := by
  induction n with
  | zero => exact fun k hk => absurd hk (by omega)
  | succ n ih =>
    intro k hk
    rw [anyN_succ, Bool.or_eq_false_iff] at h
    by_cases e : k = n
    · rw [e]
      exact h.2
    · exact ih h.1 k (by omega)
theorem rnd_no {S f : Nat → Nat} (h : more S f = false) : rnd S f = f := by
  funext j
  unfold rnd msk
  by_cases hj : j < 12
  · rw [if_pos hj]
    exact rmN_no (anyN_false h j hj)
  · rw [if_neg hj]
theorem itr_16 {S : Nat → Nat} : ∀ (n : Nat) {f : Nat → Nat}, (∀ j, j < 12 → f j < 16) → ∀ j, j < 12 → itr S n f j < 16
  | 0, _, h => h
  | n + 1, f, h => by
    intro j hj
    rw [itr]
    split
    · exact itr_16 n (rnd_16 h) j hj
    · exact h j hj
theorem itr_z {S : Nat → Nat} : ∀ (n : Nat) {f : Nat → Nat}, Z12 f → Z12 (itr S n f)
  | 0, _, h => h
  | n + 1, f, h => by
    intro j hj
    rw [itr]
    split
    · exact itr_z n (rnd_z h) j hj
    · exact h j hj
theorem meas_le (f : Nat → Nat) (n : Nat) : meas f n ≤ 4 * n := by
  induction n with
  | zero => exact Nat.le_refl _
  | succ n ih =>
    have := pc4_le (f n)
    show meas f n + pc4 (f n) ≤ 4 * (n + 1)
    omega
theorem k_prop_end {X : Nat × (Nat → Int32)} {c : CT} {S bf : Nat → Nat} {kn : Nat} {kp : Nat → Nat} {ik : Bool} {od bu : Nat → Nat} {le th : Nat} {t : Nat} {ib : Bool} {sp : Nat → Nat} {so : Nat} {al br tr : Nat → Nat} {at_ : Nat} {iw : Bool} {ha : Int64} {se : Nat → Int32} {o : Nat → Int64} {f : Nat → Nat} (hF : ∀ j, j < 12 → f j < 16) : Runs 4 mX7_propagates 11 [some (.ref 23), some (.int (bI false)), none, none] [] (MP X c S bf kn kp ik od bu le th f f t ib sp so al br tr at_ iw ha se o) (.inl none) (MP X c S bf kn kp ik od bu le th f f t (bad f) sp so al br tr at_ iw ha se o) 0 := by
  refine Runs.go 2 (cs := []) (pc' := bif decide ((bI false) = 0) then 131 else 15) (pl' := [some (.ref 23), some (.int (bI false)), none, none]) (st' := []) (h' := (MP X c S bf kn kp ik od bu le th f f t ib sp so al br tr at_ iw ha se o)) rfl trivial ?_
  refine Runs.brT (decide_eq_true ((bI_0 _).mpr rfl)) ?_
  refine Runs.go 5 (cs := [(N 0 : Int32) = 0 ∨ (N 0 : Int32) = 1]) (pc' := 138) (pl' := [some (.ref 23), some (.int (bI false)), some (.int (N 0)), none]) (st' := []) (h' := (MP X c S bf kn kp ik od bu le th f f t false sp so al br tr at_ iw ha se o)) rfl ⟨(Or.inl rfl), trivial⟩ ?_
  refine Runs.wk (pl' := [some (.ref 23), none, some (.int (N 0)), none]) (st' := []) (h' := (MP X c S bf kn kp ik od bu le th f f t (anyN (badK f) 0) sp so al br tr at_ iw ha se o)) ⟨Or.inr rfl, Or.inl rfl, Or.inr rfl, Or.inl rfl, trivial⟩ rfl rfl ?_
  refine Runs.loopN (fun i => [some (.ref 23), none, some (.int (N (4 * i))), none]) (fun i => (MP X c S bf kn kp ik od bu le th f f t (anyN (badK f) i) sp so al br tr at_ iw ha se o)) (fun i => True) 3 trivial (fun i hi I1 K1 => ?_) (fun I1 => ?_)
  · show Runs _ _ 138 [some (.ref 23), none, some (.int (N (4 * i))), none] [] (MP X c S bf kn kp ik od bu le th f f t (anyN (badK f) i) sp so al br tr at_ iw ha se o) _ _ _
    refine Runs.go 3 (cs := []) (pc' := bif decide ((N 12) ≤ (N (4 * i))) then 246 else 144) (pl' := [some (.ref 23), none, some (.int (N (4 * i))), none]) (st' := []) (h' := (MP X c S bf kn kp ik od bu le th f f t (anyN (badK f) i) sp so al br tr at_ iw ha se o)) rfl trivial ?_
    refine Runs.brF (decide_eq_false (fun zq9 => absurd ((N_le (a := 12) (b := 4 * i) (by omega) (by omega)).mp zq9) (by omega))) ?_
    refine Runs.go 1 (cs := []) (pc' := 145) (pl' := [some (.ref 23), none, some (.int (N (4 * i))), none]) (st' := [.ref 23]) (h' := (MP X c S bf kn kp ik od bu le th f f t (anyN (badK f) i) sp so al br tr at_ iw ha se o)) rfl trivial ?_
    refine Runs.join 237 [some (.ref 23), none, some (.int (N (4 * i))), none] [.int (bI (anyN (badK f) i || (decide (f (4 * i) = 0) || decide (f (4 * i + 1) = 0) || decide (f (4 * i + 2) = 0) || decide (f (4 * i + 3) = 0) || !decide ((((f (4 * i) ||| f (4 * i + 1)) ||| f (4 * i + 2)) ||| f (4 * i + 3)) = 15)))), .ref 23] (MP X c S bf kn kp ik od bu le th f f t (anyN (badK f) i) sp so al br tr at_ iw ha se o) (fun J1 => ?_) ?_
    · show Runs _ _ 145 _ _ _ _ _ _
      refine Runs.go 3 (cs := []) (pc' := bif decide (¬ (bI (anyN (badK f) i)) = 0) then 232 else 152) (pl' := [some (.ref 23), none, some (.int (N (4 * i))), none]) (st' := [.ref 23]) (h' := (MP X c S bf kn kp ik od bu le th f f t (anyN (badK f) i) sp so al br tr at_ iw ha se o)) rfl trivial ?_
      refine Runs.br (fun z1 => ?_) (fun z1 => ?_)
      · replace z1 : ¬ ((anyN (badK f) i) = false) := mt (bI_0 _).mpr (of_decide_eq_true z1)
        refine Runs.go 2 (cs := []) (pc' := 237) (pl' := [some (.ref 23), none, some (.int (N (4 * i))), none]) (st' := [.int (N 1), .ref 23]) (h' := (MP X c S bf kn kp ik od bu le th f f t (anyN (badK f) i) sp so al br tr at_ iw ha se o)) rfl trivial ?_
        exact Runs.wk (pl' := [some (.ref 23), none, some (.int (N (4 * i))), none]) (st' := [.int (bI (anyN (badK f) i || (decide (f (4 * i) = 0) || decide (f (4 * i + 1) = 0) || decide (f (4 * i + 2) = 0) || decide (f (4 * i + 3) = 0) || !decide ((((f (4 * i) ||| f (4 * i + 1)) ||| f (4 * i + 2)) ||| f (4 * i + 3)) = 15)))), .ref 23]) (h' := (MP X c S bf kn kp ik od bu le th f f t (anyN (badK f) i) sp so al br tr at_ iw ha se o)) ⟨Or.inr rfl, Or.inl rfl, Or.inr rfl, Or.inl rfl, trivial⟩ (congrArg (fun zq9 => ([.int zq9, .ref 23] : List Value)) (bIT (by rw [bT z1]; try simp [])).symm) rfl J1
      · replace z1 : (anyN (badK f) i) = false := (bI_0 _).mp (Classical.not_not.mp (of_decide_eq_false z1))
        refine Runs.topI 4 (cs := [vp_in (N (4 * i)) 12]) (pc' := 158) (pl' := [some (.ref 23), none, some (.int (N (4 * i))), none]) (v := aN f (N (4 * i)).toNatClampNeg) (v' := N (f (4 * i))) (st' := [.ref 23]) (h' := (MP X c S bf kn kp ik od bu le th f f t (anyN (badK f) i) sp so al br tr at_ iw ha se o)) rfl ⟨(N_in (by omega) (by decide)), trivial⟩ (aN_at (by omega)) ?_
        have b2 := hF (4 * i) (by omega)
        refine Runs.go 1 (cs := []) (pc' := bif decide ((N (f (4 * i))) = 0) then 232 else 161) (pl' := [some (.ref 23), none, some (.int (N (4 * i))), none]) (st' := [.ref 23]) (h' := (MP X c S bf kn kp ik od bu le th f f t (anyN (badK f) i) sp so al br tr at_ iw ha se o)) rfl trivial ?_
        refine Runs.br (fun z3 => ?_) (fun z3 => ?_)
        · replace z3 : f (4 * i) = 0 := (N_eq (a := f (4 * i)) (b := 0) (by omega) (by omega)).mp (of_decide_eq_true z3)
          refine Runs.go 2 (cs := []) (pc' := 237) (pl' := [some (.ref 23), none, some (.int (N (4 * i))), none]) (st' := [.int (N 1), .ref 23]) (h' := (MP X c S bf kn kp ik od bu le th f f t (anyN (badK f) i) sp so al br tr at_ iw ha se o)) rfl trivial ?_
          exact Runs.wk (pl' := [some (.ref 23), none, some (.int (N (4 * i))), none]) (st' := [.int (bI (anyN (badK f) i || (decide (f (4 * i) = 0) || decide (f (4 * i + 1) = 0) || decide (f (4 * i + 2) = 0) || decide (f (4 * i + 3) = 0) || !decide ((((f (4 * i) ||| f (4 * i + 1)) ||| f (4 * i + 2)) ||| f (4 * i + 3)) = 15)))), .ref 23]) (h' := (MP X c S bf kn kp ik od bu le th f f t (anyN (badK f) i) sp so al br tr at_ iw ha se o)) ⟨Or.inr rfl, Or.inl rfl, Or.inr rfl, Or.inl rfl, trivial⟩ (congrArg (fun zq9 => ([.int zq9, .ref 23] : List Value)) (bIT (by first | (exfalso; omega) | (rw [z1]; try simp [z3]))).symm) rfl J1
        · replace z3 : ¬ (f (4 * i) = 0) := mt (N_eq (a := f (4 * i)) (b := 0) (by omega) (by omega)).mpr (of_decide_eq_false z3)
          refine Runs.topI 5 (cs := []) (pc' := 168) (pl' := [some (.ref 23), none, some (.int (N (4 * i))), none]) (v := (N (4 * i)) + (N 1)) (v' := N (4 * i + 1)) (st' := [.ref 29, .ref 23]) (h' := (MP X c S bf kn kp ik od bu le th f f t (anyN (badK f) i) sp so al br tr at_ iw ha se o)) rfl trivial (NA (by omega)) ?_
          refine Runs.topI 1 (cs := [vp_in (N (4 * i + 1)) 12]) (pc' := 169) (pl' := [some (.ref 23), none, some (.int (N (4 * i))), none]) (v := aN f (N (4 * i + 1)).toNatClampNeg) (v' := N (f (4 * i + 1))) (st' := [.ref 23]) (h' := (MP X c S bf kn kp ik od bu le th f f t (anyN (badK f) i) sp so al br tr at_ iw ha se o)) rfl ⟨(N_in (by omega) (by decide)), trivial⟩ (aN_at (by omega)) ?_
          have b4 := hF (4 * i + 1) (by omega)
          refine Runs.go 1 (cs := []) (pc' := bif decide ((N (f (4 * i + 1))) = 0) then 232 else 172) (pl' := [some (.ref 23), none, some (.int (N (4 * i))), none]) (st' := [.ref 23]) (h' := (MP X c S bf kn kp ik od bu le th f f t (anyN (badK f) i) sp so al br tr at_ iw ha se o)) rfl trivial ?_
          refine Runs.br (fun z5 => ?_) (fun z5 => ?_)
          · replace z5 : f (4 * i + 1) = 0 := (N_eq (a := f (4 * i + 1)) (b := 0) (by omega) (by omega)).mp (of_decide_eq_true z5)
            refine Runs.go 2 (cs := []) (pc' := 237) (pl' := [some (.ref 23), none, some (.int (N (4 * i))), none]) (st' := [.int (N 1), .ref 23]) (h' := (MP X c S bf kn kp ik od bu le th f f t (anyN (badK f) i) sp so al br tr at_ iw ha se o)) rfl trivial ?_
            exact Runs.wk (pl' := [some (.ref 23), none, some (.int (N (4 * i))), none]) (st' := [.int (bI (anyN (badK f) i || (decide (f (4 * i) = 0) || decide (f (4 * i + 1) = 0) || decide (f (4 * i + 2) = 0) || decide (f (4 * i + 3) = 0) || !decide ((((f (4 * i) ||| f (4 * i + 1)) ||| f (4 * i + 2)) ||| f (4 * i + 3)) = 15)))), .ref 23]) (h' := (MP X c S bf kn kp ik od bu le th f f t (anyN (badK f) i) sp so al br tr at_ iw ha se o)) ⟨Or.inr rfl, Or.inl rfl, Or.inr rfl, Or.inl rfl, trivial⟩ (congrArg (fun zq9 => ([.int zq9, .ref 23] : List Value)) (bIT (by first | (exfalso; omega) | (rw [z1]; try simp [z3, z5]))).symm) rfl J1
          · replace z5 : ¬ (f (4 * i + 1) = 0) := mt (N_eq (a := f (4 * i + 1)) (b := 0) (by omega) (by omega)).mpr (of_decide_eq_false z5)
            refine Runs.topI 5 (cs := []) (pc' := 179) (pl' := [some (.ref 23), none, some (.int (N (4 * i))), none]) (v := (N (4 * i)) + (N 2)) (v' := N (4 * i + 2)) (st' := [.ref 29, .ref 23]) (h' := (MP X c S bf kn kp ik od bu le th f f t (anyN (badK f) i) sp so al br tr at_ iw ha se o)) rfl trivial (NA (by omega)) ?_
            refine Runs.topI 1 (cs := [vp_in (N (4 * i + 2)) 12]) (pc' := 180) (pl' := [some (.ref 23), none, some (.int (N (4 * i))), none]) (v := aN f (N (4 * i + 2)).toNatClampNeg) (v' := N (f (4 * i + 2))) (st' := [.ref 23]) (h' := (MP X c S bf kn kp ik od bu le th f f t (anyN (badK f) i) sp so al br tr at_ iw ha se o)) rfl ⟨(N_in (by omega) (by decide)), trivial⟩ (aN_at (by omega)) ?_
            have b6 := hF (4 * i + 2) (by omega)
            refine Runs.go 1 (cs := []) (pc' := bif decide ((N (f (4 * i + 2))) = 0) then 232 else 183) (pl' := [some (.ref 23), none, some (.int (N (4 * i))), none]) (st' := [.ref 23]) (h' := (MP X c S bf kn kp ik od bu le th f f t (anyN (badK f) i) sp so al br tr at_ iw ha se o)) rfl trivial ?_
            refine Runs.br (fun z7 => ?_) (fun z7 => ?_)
            · replace z7 : f (4 * i + 2) = 0 := (N_eq (a := f (4 * i + 2)) (b := 0) (by omega) (by omega)).mp (of_decide_eq_true z7)
              refine Runs.go 2 (cs := []) (pc' := 237) (pl' := [some (.ref 23), none, some (.int (N (4 * i))), none]) (st' := [.int (N 1), .ref 23]) (h' := (MP X c S bf kn kp ik od bu le th f f t (anyN (badK f) i) sp so al br tr at_ iw ha se o)) rfl trivial ?_
              exact Runs.wk (pl' := [some (.ref 23), none, some (.int (N (4 * i))), none]) (st' := [.int (bI (anyN (badK f) i || (decide (f (4 * i) = 0) || decide (f (4 * i + 1) = 0) || decide (f (4 * i + 2) = 0) || decide (f (4 * i + 3) = 0) || !decide ((((f (4 * i) ||| f (4 * i + 1)) ||| f (4 * i + 2)) ||| f (4 * i + 3)) = 15)))), .ref 23]) (h' := (MP X c S bf kn kp ik od bu le th f f t (anyN (badK f) i) sp so al br tr at_ iw ha se o)) ⟨Or.inr rfl, Or.inl rfl, Or.inr rfl, Or.inl rfl, trivial⟩ (congrArg (fun zq9 => ([.int zq9, .ref 23] : List Value)) (bIT (by first | (exfalso; omega) | (rw [z1]; try simp [z3, z5, z7]))).symm) rfl J1
            · replace z7 : ¬ (f (4 * i + 2) = 0) := mt (N_eq (a := f (4 * i + 2)) (b := 0) (by omega) (by omega)).mpr (of_decide_eq_false z7)
              refine Runs.topI 5 (cs := []) (pc' := 190) (pl' := [some (.ref 23), none, some (.int (N (4 * i))), none]) (v := (N (4 * i)) + (N 3)) (v' := N (4 * i + 3)) (st' := [.ref 29, .ref 23]) (h' := (MP X c S bf kn kp ik od bu le th f f t (anyN (badK f) i) sp so al br tr at_ iw ha se o)) rfl trivial (NA (by omega)) ?_
              refine Runs.topI 1 (cs := [vp_in (N (4 * i + 3)) 12]) (pc' := 191) (pl' := [some (.ref 23), none, some (.int (N (4 * i))), none]) (v := aN f (N (4 * i + 3)).toNatClampNeg) (v' := N (f (4 * i + 3))) (st' := [.ref 23]) (h' := (MP X c S bf kn kp ik od bu le th f f t (anyN (badK f) i) sp so al br tr at_ iw ha se o)) rfl ⟨(N_in (by omega) (by decide)), trivial⟩ (aN_at (by omega)) ?_
              have b8 := hF (4 * i + 3) (by omega)
              refine Runs.go 1 (cs := []) (pc' := bif decide ((N (f (4 * i + 3))) = 0) then 232 else 194) (pl' := [some (.ref 23), none, some (.int (N (4 * i))), none]) (st' := [.ref 23]) (h' := (MP X c S bf kn kp ik od bu le th f f t (anyN (badK f) i) sp so al br tr at_ iw ha se o)) rfl trivial ?_
              refine Runs.br (fun z9 => ?_) (fun z9 => ?_)
              · replace z9 : f (4 * i + 3) = 0 := (N_eq (a := f (4 * i + 3)) (b := 0) (by omega) (by omega)).mp (of_decide_eq_true z9)
                refine Runs.go 2 (cs := []) (pc' := 237) (pl' := [some (.ref 23), none, some (.int (N (4 * i))), none]) (st' := [.int (N 1), .ref 23]) (h' := (MP X c S bf kn kp ik od bu le th f f t (anyN (badK f) i) sp so al br tr at_ iw ha se o)) rfl trivial ?_
                exact Runs.wk (pl' := [some (.ref 23), none, some (.int (N (4 * i))), none]) (st' := [.int (bI (anyN (badK f) i || (decide (f (4 * i) = 0) || decide (f (4 * i + 1) = 0) || decide (f (4 * i + 2) = 0) || decide (f (4 * i + 3) = 0) || !decide ((((f (4 * i) ||| f (4 * i + 1)) ||| f (4 * i + 2)) ||| f (4 * i + 3)) = 15)))), .ref 23]) (h' := (MP X c S bf kn kp ik od bu le th f f t (anyN (badK f) i) sp so al br tr at_ iw ha se o)) ⟨Or.inr rfl, Or.inl rfl, Or.inr rfl, Or.inl rfl, trivial⟩ (congrArg (fun zq9 => ([.int zq9, .ref 23] : List Value)) (bIT (by first | (exfalso; omega) | (rw [z1]; try simp [z3, z5, z7, z9]))).symm) rfl J1
              · replace z9 : ¬ (f (4 * i + 3) = 0) := mt (N_eq (a := f (4 * i + 3)) (b := 0) (by omega) (by omega)).mpr (of_decide_eq_false z9)
                refine Runs.topI 4 (cs := [vp_in (N (4 * i)) 12]) (pc' := 200) (pl' := [some (.ref 23), none, some (.int (N (4 * i))), none]) (v := aN f (N (4 * i)).toNatClampNeg) (v' := N (f (4 * i))) (st' := [.ref 23]) (h' := (MP X c S bf kn kp ik od bu le th f f t (anyN (badK f) i) sp so al br tr at_ iw ha se o)) rfl ⟨(N_in (by omega) (by decide)), trivial⟩ (aN_at (by omega)) ?_
                have b10 := hF (4 * i) (by omega)
                refine Runs.topI 5 (cs := []) (pc' := 207) (pl' := [some (.ref 23), none, some (.int (N (4 * i))), none]) (v := (N (4 * i)) + (N 1)) (v' := N (4 * i + 1)) (st' := [.ref 29, .int (N (f (4 * i))), .ref 23]) (h' := (MP X c S bf kn kp ik od bu le th f f t (anyN (badK f) i) sp so al br tr at_ iw ha se o)) rfl trivial (NA (by omega)) ?_
                refine Runs.topI 1 (cs := [vp_in (N (4 * i + 1)) 12]) (pc' := 208) (pl' := [some (.ref 23), none, some (.int (N (4 * i))), none]) (v := aN f (N (4 * i + 1)).toNatClampNeg) (v' := N (f (4 * i + 1))) (st' := [.int (N (f (4 * i))), .ref 23]) (h' := (MP X c S bf kn kp ik od bu le th f f t (anyN (badK f) i) sp so al br tr at_ iw ha se o)) rfl ⟨(N_in (by omega) (by decide)), trivial⟩ (aN_at (by omega)) ?_
                have b11 := hF (4 * i + 1) (by omega)
                refine Runs.topI 1 (cs := []) (pc' := 209) (pl' := [some (.ref 23), none, some (.int (N (4 * i))), none]) (v := (N (f (4 * i))) ||| (N (f (4 * i + 1)))) (v' := N ((f (4 * i)) ||| (f (4 * i + 1)))) (st' := [.ref 23]) (h' := (MP X c S bf kn kp ik od bu le th f f t (anyN (badK f) i) sp so al br tr at_ iw ha se o)) rfl trivial (N_or _ _) ?_
                refine Runs.topI 5 (cs := []) (pc' := 216) (pl' := [some (.ref 23), none, some (.int (N (4 * i))), none]) (v := (N (4 * i)) + (N 2)) (v' := N (4 * i + 2)) (st' := [.ref 29, .int (N ((f (4 * i)) ||| (f (4 * i + 1)))), .ref 23]) (h' := (MP X c S bf kn kp ik od bu le th f f t (anyN (badK f) i) sp so al br tr at_ iw ha se o)) rfl trivial (NA (by omega)) ?_
                refine Runs.topI 1 (cs := [vp_in (N (4 * i + 2)) 12]) (pc' := 217) (pl' := [some (.ref 23), none, some (.int (N (4 * i))), none]) (v := aN f (N (4 * i + 2)).toNatClampNeg) (v' := N (f (4 * i + 2))) (st' := [.int (N ((f (4 * i)) ||| (f (4 * i + 1)))), .ref 23]) (h' := (MP X c S bf kn kp ik od bu le th f f t (anyN (badK f) i) sp so al br tr at_ iw ha se o)) rfl ⟨(N_in (by omega) (by decide)), trivial⟩ (aN_at (by omega)) ?_
                have b12 := hF (4 * i + 2) (by omega)
                refine Runs.topI 1 (cs := []) (pc' := 218) (pl' := [some (.ref 23), none, some (.int (N (4 * i))), none]) (v := (N ((f (4 * i)) ||| (f (4 * i + 1)))) ||| (N (f (4 * i + 2)))) (v' := N (((f (4 * i)) ||| (f (4 * i + 1))) ||| (f (4 * i + 2)))) (st' := [.ref 23]) (h' := (MP X c S bf kn kp ik od bu le th f f t (anyN (badK f) i) sp so al br tr at_ iw ha se o)) rfl trivial (N_or _ _) ?_
                refine Runs.topI 5 (cs := []) (pc' := 225) (pl' := [some (.ref 23), none, some (.int (N (4 * i))), none]) (v := (N (4 * i)) + (N 3)) (v' := N (4 * i + 3)) (st' := [.ref 29, .int (N (((f (4 * i)) ||| (f (4 * i + 1))) ||| (f (4 * i + 2)))), .ref 23]) (h' := (MP X c S bf kn kp ik od bu le th f f t (anyN (badK f) i) sp so al br tr at_ iw ha se o)) rfl trivial (NA (by omega)) ?_
                refine Runs.topI 1 (cs := [vp_in (N (4 * i + 3)) 12]) (pc' := 226) (pl' := [some (.ref 23), none, some (.int (N (4 * i))), none]) (v := aN f (N (4 * i + 3)).toNatClampNeg) (v' := N (f (4 * i + 3))) (st' := [.int (N (((f (4 * i)) ||| (f (4 * i + 1))) ||| (f (4 * i + 2)))), .ref 23]) (h' := (MP X c S bf kn kp ik od bu le th f f t (anyN (badK f) i) sp so al br tr at_ iw ha se o)) rfl ⟨(N_in (by omega) (by decide)), trivial⟩ (aN_at (by omega)) ?_
                have b13 := hF (4 * i + 3) (by omega)
                have ho1 := or_16 (hF (4 * i) (by omega)) (hF (4 * i + 1) (by omega))
                have ho2 := or_16 ho1 (hF (4 * i + 2) (by omega))
                have ho3 := or_16 ho2 (hF (4 * i + 3) (by omega))
                refine Runs.topI 1 (cs := []) (pc' := 227) (pl' := [some (.ref 23), none, some (.int (N (4 * i))), none]) (v := (N (((f (4 * i)) ||| (f (4 * i + 1))) ||| (f (4 * i + 2)))) ||| (N (f (4 * i + 3)))) (v' := N ((((f (4 * i)) ||| (f (4 * i + 1))) ||| (f (4 * i + 2))) ||| (f (4 * i + 3)))) (st' := [.ref 23]) (h' := (MP X c S bf kn kp ik od bu le th f f t (anyN (badK f) i) sp so al br tr at_ iw ha se o)) rfl trivial (N_or _ _) ?_
                refine Runs.go 2 (cs := []) (pc' := bif decide ((N ((((f (4 * i)) ||| (f (4 * i + 1))) ||| (f (4 * i + 2))) ||| (f (4 * i + 3)))) = (N 15)) then 236 else 232) (pl' := [some (.ref 23), none, some (.int (N (4 * i))), none]) (st' := [.ref 23]) (h' := (MP X c S bf kn kp ik od bu le th f f t (anyN (badK f) i) sp so al br tr at_ iw ha se o)) rfl trivial ?_
                refine Runs.br (fun z14 => ?_) (fun z14 => ?_)
                · replace z14 : ((((f (4 * i)) ||| (f (4 * i + 1))) ||| (f (4 * i + 2))) ||| (f (4 * i + 3))) = 15 := (N_eq (a := ((((f (4 * i)) ||| (f (4 * i + 1))) ||| (f (4 * i + 2))) ||| (f (4 * i + 3)))) (b := 15) (by omega) (by omega)).mp (of_decide_eq_true z14)
                  refine Runs.go 1 (cs := []) (pc' := 237) (pl' := [some (.ref 23), none, some (.int (N (4 * i))), none]) (st' := [.int (N 0), .ref 23]) (h' := (MP X c S bf kn kp ik od bu le th f f t (anyN (badK f) i) sp so al br tr at_ iw ha se o)) rfl trivial ?_
                  exact Runs.wk (pl' := [some (.ref 23), none, some (.int (N (4 * i))), none]) (st' := [.int (bI (anyN (badK f) i || (decide (f (4 * i) = 0) || decide (f (4 * i + 1) = 0) || decide (f (4 * i + 2) = 0) || decide (f (4 * i + 3) = 0) || !decide ((((f (4 * i) ||| f (4 * i + 1)) ||| f (4 * i + 2)) ||| f (4 * i + 3)) = 15)))), .ref 23]) (h' := (MP X c S bf kn kp ik od bu le th f f t (anyN (badK f) i) sp so al br tr at_ iw ha se o)) ⟨Or.inr rfl, Or.inl rfl, Or.inr rfl, Or.inl rfl, trivial⟩ (congrArg (fun zq9 => ([.int zq9, .ref 23] : List Value)) (bIF (by first | (exfalso; omega) | (rw [z1]; try simp [z3, z5, z7, z9, z14]))).symm) rfl J1
                · replace z14 : ¬ (((((f (4 * i)) ||| (f (4 * i + 1))) ||| (f (4 * i + 2))) ||| (f (4 * i + 3))) = 15) := mt (N_eq (a := ((((f (4 * i)) ||| (f (4 * i + 1))) ||| (f (4 * i + 2))) ||| (f (4 * i + 3)))) (b := 15) (by omega) (by omega)).mpr (of_decide_eq_false z14)
                  refine Runs.go 2 (cs := []) (pc' := 237) (pl' := [some (.ref 23), none, some (.int (N (4 * i))), none]) (st' := [.int (N 1), .ref 23]) (h' := (MP X c S bf kn kp ik od bu le th f f t (anyN (badK f) i) sp so al br tr at_ iw ha se o)) rfl trivial ?_
                  exact Runs.wk (pl' := [some (.ref 23), none, some (.int (N (4 * i))), none]) (st' := [.int (bI (anyN (badK f) i || (decide (f (4 * i) = 0) || decide (f (4 * i + 1) = 0) || decide (f (4 * i + 2) = 0) || decide (f (4 * i + 3) = 0) || !decide ((((f (4 * i) ||| f (4 * i + 1)) ||| f (4 * i + 2)) ||| f (4 * i + 3)) = 15)))), .ref 23]) (h' := (MP X c S bf kn kp ik od bu le th f f t (anyN (badK f) i) sp so al br tr at_ iw ha se o)) ⟨Or.inr rfl, Or.inl rfl, Or.inr rfl, Or.inl rfl, trivial⟩ (congrArg (fun zq9 => ([.int zq9, .ref 23] : List Value)) (bIT (by first | (exfalso; omega) | (rw [z1]; try simp [z3, z5, z7, z9, z14]))).symm) rfl J1
    refine Runs.goL 2 (cs := [(bI (anyN (badK f) i || (decide (f (4 * i) = 0) || decide (f (4 * i + 1) = 0) || decide (f (4 * i + 2) = 0) || decide (f (4 * i + 3) = 0) || !decide ((((f (4 * i) ||| f (4 * i + 1)) ||| f (4 * i + 2)) ||| f (4 * i + 3)) = 15))) : Int32) = 0 ∨ (bI (anyN (badK f) i || (decide (f (4 * i) = 0) || decide (f (4 * i + 1) = 0) || decide (f (4 * i + 2) = 0) || decide (f (4 * i + 3) = 0) || !decide ((((f (4 * i) ||| f (4 * i + 1)) ||| f (4 * i + 2)) ||| f (4 * i + 3)) = 15))) : Int32) = 1]) (pc' := 243) (pl1 := [some (.ref 23), none, some (.int (N (4 * i) + N 4)), none]) (pl' := [some (.ref 23), none, some (.int (N (4 * i + 4))), none]) (st' := []) (h' := (MP X c S bf kn kp ik od bu le th f f t (anyN (badK f) i || (decide (f (4 * i) = 0) || decide (f (4 * i + 1) = 0) || decide (f (4 * i + 2) = 0) || decide (f (4 * i + 3) = 0) || !decide ((((f (4 * i) ||| f (4 * i + 1)) ||| f (4 * i + 2)) ||| f (4 * i + 3)) = 15))) sp so al br tr at_ iw ha se o)) rfl ⟨(bI_01 _), trivial⟩ (congrArg (fun zq9 => ([some (.ref 23), none, some (.int zq9), none] : PL)) (NA (by omega))) ?_
    refine Runs.go 1 (cs := []) (pc' := 138) (pl' := [some (.ref 23), none, some (.int (N (4 * i + 4))), none]) (st' := []) (h' := (MP X c S bf kn kp ik od bu le th f f t (anyN (badK f) i || (decide (f (4 * i) = 0) || decide (f (4 * i + 1) = 0) || decide (f (4 * i + 2) = 0) || decide (f (4 * i + 3) = 0) || !decide ((((f (4 * i) ||| f (4 * i + 1)) ||| f (4 * i + 2)) ||| f (4 * i + 3)) = 15))) sp so al br tr at_ iw ha se o)) rfl trivial ?_
    exact Runs.wk (pl' := [some (.ref 23), none, some (.int (N (4 * i + 4))), none]) (st' := []) (h' := (MP X c S bf kn kp ik od bu le th f f t (anyN (badK f) (i + 1)) sp so al br tr at_ iw ha se o)) ⟨Or.inr rfl, Or.inl rfl, Or.inr rfl, Or.inl rfl, trivial⟩ rfl rfl (K1 trivial)
  · show Runs _ _ 138 _ [] _ _ _ _
    show Runs _ _ 138 [some (.ref 23), none, some (.int (N 12)), none] [] (MP X c S bf kn kp ik od bu le th f f t (anyN (badK f) 3) sp so al br tr at_ iw ha se o) _ _ _
    refine Runs.go 3 (cs := []) (pc' := bif decide ((N 12) ≤ (N 12)) then 246 else 144) (pl' := [some (.ref 23), none, some (.int (N 12)), none]) (st' := []) (h' := (MP X c S bf kn kp ik od bu le th f f t (anyN (badK f) 3) sp so al br tr at_ iw ha se o)) rfl trivial ?_
    refine Runs.brT (decide_eq_true (by decide)) ?_
    exact Runs.retE (cs := []) rfl trivial rfl rfl
theorem k_prop_while {X : Nat × (Nat → Int32)} {c : CT} {S bf : Nat → Nat} {kn : Nat} {kp : Nat → Nat} {ik : Bool} {od bu : Nat → Nat} {le th : Nat} {t : Nat} {ib : Bool} {sp : Nat → Nat} {so : Nat} {al br tr : Nat → Nat} {at_ : Nat} {iw : Bool} {ha : Int64} {se : Nat → Int32} {o : Nat → Int64} (hV : VC S) : ∀ (n : Nat) (f : Nat → Nat) (t : Nat), meas f 12 < n → Z12 f → (∀ j, j < 12 → f j < 16) → Runs 4 mX7_propagates 11 [some (.ref 23), some (.int (bI true)), none, none] [] (MP X c S bf kn kp ik od bu le th f f t ib sp so al br tr at_ iw ha se o) (.inl none) (MP X c S bf kn kp ik od bu le th (itr S n f) (itr S n f) (t + trn S n f) (bad (itr S n f)) sp so al br tr at_ iw ha se o) 0 := by
  intro n
  induction n with
  | zero => exact fun f t h => absurd h (by omega)
  | succ n ih =>
    intro f t hn hZ hF
    refine Runs.go 2 (cs := []) (pc' := bif decide ((bI true) = 0) then 131 else 15) (pl' := [some (.ref 23), some (.int (bI true)), none, none]) (st' := []) (h' := (MP X c S bf kn kp ik od bu le th f f t ib sp so al br tr at_ iw ha se o)) rfl trivial ?_
    refine Runs.brF (decide_eq_false (fun zq9 => absurd ((bI_0 _).mp zq9) (by decide))) ?_
    refine Runs.go 4 (cs := []) (pc' := 19) (pl' := [some (.ref 23), some (.int (N 0)), some (.int (N 0)), none]) (st' := []) (h' := (MP X c S bf kn kp ik od bu le th f f t ib sp so al br tr at_ iw ha se o)) rfl trivial ?_
    refine Runs.wk (pl' := [some (.ref 23), some (.int (bI (anyN (moreK S f) 0))), some (.int (N 0)), none]) (st' := []) (h' := (MP X c S bf kn kp ik od bu le th (msk S f 0) f t ib sp so al br tr at_ iw ha se o)) ⟨Or.inr rfl, Or.inr rfl, Or.inr rfl, Or.inl rfl, trivial⟩ rfl (by rw [msk_st (k := 0)]) ?_
    refine Runs.loopN (fun k => [some (.ref 23), some (.int (bI (anyN (moreK S f) k))), some (.int (N k)), none]) (fun k => (MP X c S bf kn kp ik od bu le th (msk S f k) f t ib sp so al br tr at_ iw ha se o)) (fun k => True) 12 trivial (fun k hk I1 K1 => ?_) (fun I1 => ?_)
    · show Runs _ _ 19 [some (.ref 23), some (.int (bI (anyN (moreK S f) k))), some (.int (N k)), none] [] (MP X c S bf kn kp ik od bu le th (msk S f k) f t ib sp so al br tr at_ iw ha se o) _ _ _
      refine Runs.go 3 (cs := []) (pc' := bif decide ((N 12) ≤ (N k)) then 84 else 25) (pl' := [some (.ref 23), some (.int (bI (anyN (moreK S f) k))), some (.int (N k)), none]) (st' := []) (h' := (MP X c S bf kn kp ik od bu le th (msk S f k) f t ib sp so al br tr at_ iw ha se o)) rfl trivial ?_
      refine Runs.brF (decide_eq_false (fun zq9 => absurd ((N_le (a := 12) (b := k) (by omega) (by omega)).mp zq9) (by omega))) ?_
      refine Runs.go 2 (cs := []) (pc' := 27) (pl' := [some (.ref 23), some (.int (bI (anyN (moreK S f) k))), some (.int (N k)), some (.int (N 0))]) (st' := []) (h' := (MP X c S bf kn kp ik od bu le th (msk S f k) f t ib sp so al br tr at_ iw ha se o)) rfl trivial ?_
      refine Runs.wk (pl' := [some (.ref 23), some (.int (bI (anyN (moreK S f) k || anyN (rld S f k) 0))), some (.int (N k)), some (.int (N 0))]) (st' := []) (h' := (MP X c S bf kn kp ik od bu le th (upn (msk S f k) k (rmN S f k 0)) f t ib sp so al br tr at_ iw ha se o)) ⟨Or.inr rfl, Or.inr (congrArg (fun zq9 => some (Value.int zq9)) (congrArg bI (by simp [anyN, itN]))), Or.inr rfl, Or.inr rfl, trivial⟩ rfl (by rw [msk_0]) ?_
      refine Runs.loopN (fun p => [some (.ref 23), some (.int (bI (anyN (moreK S f) k || anyN (rld S f k) p))), some (.int (N k)), some (.int (N p))]) (fun p => (MP X c S bf kn kp ik od bu le th (upn (msk S f k) k (rmN S f k p)) f t ib sp so al br tr at_ iw ha se o)) (fun p => True) 4 trivial (fun p hp I2 K2 => ?_) (fun I2 => ?_)
      · show Runs _ _ 27 [some (.ref 23), some (.int (bI (anyN (moreK S f) k || anyN (rld S f k) p))), some (.int (N k)), some (.int (N p))] [] (MP X c S bf kn kp ik od bu le th (upn (msk S f k) k (rmN S f k p)) f t ib sp so al br tr at_ iw ha se o) _ _ _
        have hpp := p2_lt hp
        refine Runs.go 3 (cs := []) (pc' := bif decide ((N 4) ≤ (N p)) then 78 else 32) (pl' := [some (.ref 23), some (.int (bI (anyN (moreK S f) k || anyN (rld S f k) p))), some (.int (N k)), some (.int (N p))]) (st' := []) (h' := (MP X c S bf kn kp ik od bu le th (upn (msk S f k) k (rmN S f k p)) f t ib sp so al br tr at_ iw ha se o)) rfl trivial ?_
        refine Runs.brF (decide_eq_false (fun zq9 => absurd ((N_le (a := 4) (b := p) (by omega) (by omega)).mp zq9) (by omega))) ?_
        refine Runs.topI 4 (cs := [vp_in (N k) 12]) (pc' := 38) (pl' := [some (.ref 23), some (.int (bI (anyN (moreK S f) k || anyN (rld S f k) p))), some (.int (N k)), some (.int (N p))]) (v := aN f (N k).toNatClampNeg) (v' := N (f k)) (st' := []) (h' := (MP X c S bf kn kp ik od bu le th (upn (msk S f k) k (rmN S f k p)) f t ib sp so al br tr at_ iw ha se o)) rfl ⟨(N_in (by omega) (by decide)), trivial⟩ (aN_at (by omega)) ?_
        have b1 := hF (k) (by omega)
        refine Runs.topI 2 (cs := []) (pc' := 40) (pl' := [some (.ref 23), some (.int (bI (anyN (moreK S f) k || anyN (rld S f k) p))), some (.int (N k)), some (.int (N p))]) (v := (N (f k)) >>> (N p &&& 31)) (v' := N ((f k) / 2 ^ p)) (st' := []) (h' := (MP X c S bf kn kp ik od bu le th (upn (msk S f k) k (rmN S f k p)) f t ib sp so al br tr at_ iw ha se o)) rfl trivial (N_shr (by omega) (by omega)) ?_
        refine Runs.topI 2 (cs := []) (pc' := 42) (pl' := [some (.ref 23), some (.int (bI (anyN (moreK S f) k || anyN (rld S f k) p))), some (.int (N k)), some (.int (N p))]) (v := (N ((f k) / 2 ^ p)) &&& (N 1)) (v' := N (((f k) / 2 ^ p) % 2)) (st' := []) (h' := (MP X c S bf kn kp ik od bu le th (upn (msk S f k) k (rmN S f k p)) f t ib sp so al br tr at_ iw ha se o)) rfl trivial (N_and1 _) ?_
        refine Runs.go 2 (cs := []) (pc' := bif decide (¬ (N (((f k) / 2 ^ p) % 2)) = (N 1)) then 72 else 46) (pl' := [some (.ref 23), some (.int (bI (anyN (moreK S f) k || anyN (rld S f k) p))), some (.int (N k)), some (.int (N p))]) (st' := []) (h' := (MP X c S bf kn kp ik od bu le th (upn (msk S f k) k (rmN S f k p)) f t ib sp so al br tr at_ iw ha se o)) rfl trivial ?_
        refine Runs.br (fun z2 => ?_) (fun z2 => ?_)
        · replace z2 : ¬ ((((f k) / 2 ^ p) % 2) = 1) := mt (N_eq (a := (((f k) / 2 ^ p) % 2)) (b := 1) (by omega) (by omega)).mpr (of_decide_eq_true z2)
          refine Runs.goL 1 (cs := []) (pc' := 75) (pl1 := [some (.ref 23), some (.int (bI (anyN (moreK S f) k || anyN (rld S f k) p))), some (.int (N k)), some (.int (N p + N 1))]) (pl' := [some (.ref 23), some (.int (bI (anyN (moreK S f) k || anyN (rld S f k) p))), some (.int (N k)), some (.int (N (p + 1)))]) (st' := []) (h' := (MP X c S bf kn kp ik od bu le th (upn (msk S f k) k (rmN S f k p)) f t ib sp so al br tr at_ iw ha se o)) rfl trivial (congrArg (fun zq9 => ([some (.ref 23), some (.int (bI (anyN (moreK S f) k || anyN (rld S f k) p))), some (.int (N k)), some (.int zq9)] : PL)) (NA (by omega))) ?_
          refine Runs.go 1 (cs := []) (pc' := 27) (pl' := [some (.ref 23), some (.int (bI (anyN (moreK S f) k || anyN (rld S f k) p))), some (.int (N k)), some (.int (N (p + 1)))]) (st' := []) (h' := (MP X c S bf kn kp ik od bu le th (upn (msk S f k) k (rmN S f k p)) f t ib sp so al br tr at_ iw ha se o)) rfl trivial ?_
          have hr : rld S f k p = false := by simp [rld, bt, z2]
          have he : rmN S f k (p + 1) = rmN S f k p := by show (if rld S f k p = true then dif (rmN S f k p) (2 ^ p) else rmN S f k p) = _; rw [hr]; rfl
          exact Runs.wk (pl' := [some (.ref 23), some (.int (bI (anyN (moreK S f) k || anyN (rld S f k) (p + 1)))), some (.int (N k)), some (.int (N (p + 1)))]) (st' := []) (h' := (MP X c S bf kn kp ik od bu le th (upn (msk S f k) k (rmN S f k (p + 1))) f t ib sp so al br tr at_ iw ha se o)) ⟨Or.inr rfl, Or.inr (congrArg (fun zq9 => some (Value.int zq9)) (congrArg bI (by rw [anyN_succ, hr]; simp))), Or.inr rfl, Or.inr rfl, trivial⟩ rfl (by rw [he]) (K2 trivial)
        · replace z2 : (((f k) / 2 ^ p) % 2) = 1 := (N_eq (a := (((f k) / 2 ^ p) % 2)) (b := 1) (by omega) (by omega)).mp (Classical.not_not.mp (of_decide_eq_false z2))
          refine Runs.go 3 (cs := []) (pc' := 49) (pl' := [some (.ref 23), some (.int (bI (anyN (moreK S f) k || anyN (rld S f k) p))), some (.int (N k)), some (.int (N p))]) (st' := [.int (N p), .int (N k), .ref 23]) (h' := (MP X c S bf kn kp ik od bu le th (upn (msk S f k) k (rmN S f k p)) f t ib sp so al br tr at_ iw ha se o)) rfl trivial ?_
          refine Runs.cal (y := mX7_ruledBy) (as := [.ref 23, .int (N k), .int (N p)]) (rest := []) (pc' := 52) (cs := []) (v := some (.int (rbI S f k p))) (h1 := (MP X c S bf kn kp ik od bu le th (upn (msk S f k) k (rmN S f k p)) f t ib sp so al br tr at_ iw ha se o)) rfl trivial (by decide) (k_ruledBy hV (by omega) (by omega) hF) ?_
          show Runs _ _ 52 _ [.int (rbI S f k p)] _ _ _ _
          refine Runs.go 2 (cs := []) (pc' := bif decide ((rbI S f k p) = (-1 : Int32)) then 72 else 56) (pl' := [some (.ref 23), some (.int (bI (anyN (moreK S f) k || anyN (rld S f k) p))), some (.int (N k)), some (.int (N p))]) (st' := []) (h' := (MP X c S bf kn kp ik od bu le th (upn (msk S f k) k (rmN S f k p)) f t ib sp so al br tr at_ iw ha se o)) rfl trivial ?_
          refine Runs.br (fun z3 => ?_) (fun z3 => ?_)
          · replace z3 : (rbI S f k p) = (-1 : Int32) := Iff.rfl.mp (of_decide_eq_true z3)
            refine Runs.goL 1 (cs := []) (pc' := 75) (pl1 := [some (.ref 23), some (.int (bI (anyN (moreK S f) k || anyN (rld S f k) p))), some (.int (N k)), some (.int (N p + N 1))]) (pl' := [some (.ref 23), some (.int (bI (anyN (moreK S f) k || anyN (rld S f k) p))), some (.int (N k)), some (.int (N (p + 1)))]) (st' := []) (h' := (MP X c S bf kn kp ik od bu le th (upn (msk S f k) k (rmN S f k p)) f t ib sp so al br tr at_ iw ha se o)) rfl trivial (congrArg (fun zq9 => ([some (.ref 23), some (.int (bI (anyN (moreK S f) k || anyN (rld S f k) p))), some (.int (N k)), some (.int zq9)] : PL)) (NA (by omega))) ?_
            refine Runs.go 1 (cs := []) (pc' := 27) (pl' := [some (.ref 23), some (.int (bI (anyN (moreK S f) k || anyN (rld S f k) p))), some (.int (N k)), some (.int (N (p + 1)))]) (st' := []) (h' := (MP X c S bf kn kp ik od bu le th (upn (msk S f k) k (rmN S f k p)) f t ib sp so al br tr at_ iw ha se o)) rfl trivial ?_
            have hr : rld S f k p = false := by simp [rld, bt, z2, z3]
            have he : rmN S f k (p + 1) = rmN S f k p := by show (if rld S f k p = true then dif (rmN S f k p) (2 ^ p) else rmN S f k p) = _; rw [hr]; rfl
            exact Runs.wk (pl' := [some (.ref 23), some (.int (bI (anyN (moreK S f) k || anyN (rld S f k) (p + 1)))), some (.int (N k)), some (.int (N (p + 1)))]) (st' := []) (h' := (MP X c S bf kn kp ik od bu le th (upn (msk S f k) k (rmN S f k (p + 1))) f t ib sp so al br tr at_ iw ha se o)) ⟨Or.inr rfl, Or.inr (congrArg (fun zq9 => some (Value.int zq9)) (congrArg bI (by rw [anyN_succ, hr]; simp))), Or.inr rfl, Or.inr rfl, trivial⟩ rfl (by rw [he]) (K2 trivial)
          · replace z3 : ¬ ((rbI S f k p) = (-1 : Int32)) := mt Iff.rfl.mpr (of_decide_eq_false z3)
            refine Runs.topI 5 (cs := [vp_in (N k) 12]) (pc' := 63) (pl' := [some (.ref 23), some (.int (bI (anyN (moreK S f) k || anyN (rld S f k) p))), some (.int (N k)), some (.int (N p))]) (v := aN (upn (msk S f k) k (rmN S f k p)) (N k).toNatClampNeg) (v' := N (rmN S f k p)) (st' := [.int (N k), .ref 29]) (h' := (MP X c S bf kn kp ik od bu le th (upn (msk S f k) k (rmN S f k p)) f t ib sp so al br tr at_ iw ha se o)) rfl ⟨(N_in (by omega) (by decide)), trivial⟩ ((aN_at (by omega)).trans (congrArg N upn_at)) ?_
            refine Runs.topI 3 (cs := []) (pc' := 66) (pl' := [some (.ref 23), some (.int (bI (anyN (moreK S f) k || anyN (rld S f k) p))), some (.int (N k)), some (.int (N p))]) (v := (N 1) <<< (N p &&& 31)) (v' := N (2 ^ p)) (st' := [.int (N (rmN S f k p)), .int (N k), .ref 29]) (h' := (MP X c S bf kn kp ik od bu le th (upn (msk S f k) k (rmN S f k p)) f t ib sp so al br tr at_ iw ha se o)) rfl trivial (NHL (by omega) (Nat.one_mul _)) ?_
            refine Runs.topI 3 (cs := []) (pc' := 69) (pl' := [some (.ref 23), some (.int (bI (anyN (moreK S f) k || anyN (rld S f k) p))), some (.int (N k)), some (.int (N p))]) (v := (N (rmN S f k p)) &&& ((N (2 ^ p)) ^^^ (-1 : Int32))) (v' := N (dif (rmN S f k p) (2 ^ p))) (st' := [.int (N k), .ref 29]) (h' := (MP X c S bf kn kp ik od bu le th (upn (msk S f k) k (rmN S f k p)) f t ib sp so al br tr at_ iw ha se o)) rfl trivial (N_dif _ _) ?_
            refine Runs.goH 1 (cs := [vp_in (N k) 12]) (pc' := 70) (pl' := [some (.ref 23), some (.int (bI (anyN (moreK S f) k || anyN (rld S f k) p))), some (.int (N k)), some (.int (N p))]) (st' := []) (h1 := (GP X c (aN S) (aN bf) (N kn) (aN kp) (bI ik) (aN od) (aN bu) (N le) (N th) (upd (aN (upn (msk S f k) k (rmN S f k p))) (N k).toNatClampNeg (N (dif (rmN S f k p) (2 ^ p)))) (aN f) (N t) (bI ib) (aN sp) (N so) (aN al) (aN br) (aN tr) (N at_) (bI iw) ha se o)) (h' := (MP X c S bf kn kp ik od bu le th (upn (msk S f k) k (dif (rmN S f k p) (2 ^ p))) f t ib sp so al br tr at_ iw ha se o)) rfl ⟨(N_in (by omega) (by decide)), trivial⟩ (congrArg (fun zq9 => (GP X c (aN S) (aN bf) (N kn) (aN kp) (bI ik) (aN od) (aN bu) (N le) (N th) zq9 (aN f) (N t) (bI ib) (aN sp) (N so) (aN al) (aN br) (aN tr) (N at_) (bI iw) ha se o)) ((aN_up (by omega)).trans (congrArg aN upn_upn))) ?_
            refine Runs.goL 3 (cs := []) (pc' := 75) (pl1 := [some (.ref 23), some (.int (N 1)), some (.int (N k)), some (.int (N p + N 1))]) (pl' := [some (.ref 23), some (.int (N 1)), some (.int (N k)), some (.int (N (p + 1)))]) (st' := []) (h' := (MP X c S bf kn kp ik od bu le th (upn (msk S f k) k (dif (rmN S f k p) (2 ^ p))) f t ib sp so al br tr at_ iw ha se o)) rfl trivial (congrArg (fun zq9 => ([some (.ref 23), some (.int (N 1)), some (.int (N k)), some (.int zq9)] : PL)) (NA (by omega))) ?_
            refine Runs.go 1 (cs := []) (pc' := 27) (pl' := [some (.ref 23), some (.int (N 1)), some (.int (N k)), some (.int (N (p + 1)))]) (st' := []) (h' := (MP X c S bf kn kp ik od bu le th (upn (msk S f k) k (dif (rmN S f k p) (2 ^ p))) f t ib sp so al br tr at_ iw ha se o)) rfl trivial ?_
            have hr : rld S f k p = true := by simp [rld, bt, z2, z3]
            have he : rmN S f k (p + 1) = dif (rmN S f k p) (2 ^ p) := by show (if rld S f k p = true then dif (rmN S f k p) (2 ^ p) else rmN S f k p) = _; rw [hr]; rfl
            exact Runs.wk (pl' := [some (.ref 23), some (.int (bI (anyN (moreK S f) k || anyN (rld S f k) (p + 1)))), some (.int (N k)), some (.int (N (p + 1)))]) (st' := []) (h' := (MP X c S bf kn kp ik od bu le th (upn (msk S f k) k (rmN S f k (p + 1))) f t ib sp so al br tr at_ iw ha se o)) ⟨Or.inr rfl, Or.inr (congrArg (fun zq9 => some (Value.int zq9)) (bIT (by rw [anyN_succ, hr]; simp))), Or.inr rfl, Or.inr rfl, trivial⟩ rfl (by rw [he]) (K2 trivial)
      · show Runs _ _ 27 _ [] _ _ _ _
        show Runs _ _ 27 [some (.ref 23), some (.int (bI (anyN (moreK S f) k || anyN (rld S f k) 4))), some (.int (N k)), some (.int (N 4))] [] (MP X c S bf kn kp ik od bu le th (upn (msk S f k) k (rmN S f k 4)) f t ib sp so al br tr at_ iw ha se o) _ _ _
        refine Runs.go 3 (cs := []) (pc' := bif decide ((N 4) ≤ (N 4)) then 78 else 32) (pl' := [some (.ref 23), some (.int (bI (anyN (moreK S f) k || anyN (rld S f k) 4))), some (.int (N k)), some (.int (N 4))]) (st' := []) (h' := (MP X c S bf kn kp ik od bu le th (upn (msk S f k) k (rmN S f k 4)) f t ib sp so al br tr at_ iw ha se o)) rfl trivial ?_
        refine Runs.brT (decide_eq_true (by decide)) ?_
        refine Runs.goL 1 (cs := []) (pc' := 81) (pl1 := [some (.ref 23), some (.int (bI (anyN (moreK S f) k || anyN (rld S f k) 4))), some (.int (N k + N 1)), some (.int (N 4))]) (pl' := [some (.ref 23), some (.int (bI (anyN (moreK S f) k || anyN (rld S f k) 4))), some (.int (N (k + 1))), some (.int (N 4))]) (st' := []) (h' := (MP X c S bf kn kp ik od bu le th (upn (msk S f k) k (rmN S f k 4)) f t ib sp so al br tr at_ iw ha se o)) rfl trivial (congrArg (fun zq9 => ([some (.ref 23), some (.int (bI (anyN (moreK S f) k || anyN (rld S f k) 4))), some (.int zq9), some (.int (N 4))] : PL)) (NA (by omega))) ?_
        refine Runs.go 1 (cs := []) (pc' := 19) (pl' := [some (.ref 23), some (.int (bI (anyN (moreK S f) k || anyN (rld S f k) 4))), some (.int (N (k + 1))), some (.int (N 4))]) (st' := []) (h' := (MP X c S bf kn kp ik od bu le th (upn (msk S f k) k (rmN S f k 4)) f t ib sp so al br tr at_ iw ha se o)) rfl trivial ?_
        exact Runs.wk (pl' := [some (.ref 23), some (.int (bI (anyN (moreK S f) (k + 1)))), some (.int (N (k + 1))), none]) (st' := []) (h' := (MP X c S bf kn kp ik od bu le th (msk S f (k + 1)) f t ib sp so al br tr at_ iw ha se o)) ⟨Or.inr rfl, Or.inr (congrArg (fun zq9 => some (Value.int zq9)) (congrArg bI rfl)), Or.inr rfl, Or.inl rfl, trivial⟩ rfl (by rw [msk_4]) (K1 trivial)
    · show Runs _ _ 19 _ [] _ _ _ _
      show Runs _ _ 19 [some (.ref 23), some (.int (bI (anyN (moreK S f) 12))), some (.int (N 12)), none] [] (MP X c S bf kn kp ik od bu le th (msk S f 12) f t ib sp so al br tr at_ iw ha se o) _ _ _
      refine Runs.go 3 (cs := []) (pc' := bif decide ((N 12) ≤ (N 12)) then 84 else 25) (pl' := [some (.ref 23), some (.int (bI (anyN (moreK S f) 12))), some (.int (N 12)), none]) (st' := []) (h' := (MP X c S bf kn kp ik od bu le th (msk S f 12) f t ib sp so al br tr at_ iw ha se o)) rfl trivial ?_
      refine Runs.brT (decide_eq_true (by decide)) ?_
      refine Runs.go 3 (cs := []) (pc' := 89) (pl' := [some (.ref 23), some (.int (bI (anyN (moreK S f) 12))), some (.int (N 12)), none]) (st' := [.int (N t), .ref 23]) (h' := (MP X c S bf kn kp ik od bu le th (msk S f 12) f t ib sp so al br tr at_ iw ha se o)) rfl trivial ?_
      refine Runs.join 98 [some (.ref 23), some (.int (bI (anyN (moreK S f) 12))), some (.int (N 12)), none] [.int (N (if anyN (moreK S f) 12 = true then 1 else 0)), .int (N t), .ref 23] (MP X c S bf kn kp ik od bu le th (msk S f 12) f t ib sp so al br tr at_ iw ha se o) (fun J1 => ?_) ?_
      · show Runs _ _ 89 _ _ _ _ _ _
        refine Runs.go 2 (cs := []) (pc' := bif decide ((bI (anyN (moreK S f) 12)) = 0) then 97 else 93) (pl' := [some (.ref 23), some (.int (bI (anyN (moreK S f) 12))), some (.int (N 12)), none]) (st' := [.int (N t), .ref 23]) (h' := (MP X c S bf kn kp ik od bu le th (msk S f 12) f t ib sp so al br tr at_ iw ha se o)) rfl trivial ?_
        refine Runs.br (fun z4 => ?_) (fun z4 => ?_)
        · replace z4 : (anyN (moreK S f) 12) = false := (bI_0 _).mp (of_decide_eq_true z4)
          refine Runs.go 1 (cs := []) (pc' := 98) (pl' := [some (.ref 23), some (.int (bI (anyN (moreK S f) 12))), some (.int (N 12)), none]) (st' := [.int (N 0), .int (N t), .ref 23]) (h' := (MP X c S bf kn kp ik od bu le th (msk S f 12) f t ib sp so al br tr at_ iw ha se o)) rfl trivial ?_
          exact Runs.wk (pl' := [some (.ref 23), some (.int (bI (anyN (moreK S f) 12))), some (.int (N 12)), none]) (st' := [.int (N (if anyN (moreK S f) 12 = true then 1 else 0)), .int (N t), .ref 23]) (h' := (MP X c S bf kn kp ik od bu le th (msk S f 12) f t ib sp so al br tr at_ iw ha se o)) ⟨Or.inr rfl, Or.inr rfl, Or.inr rfl, Or.inl rfl, trivial⟩ (congrArg (fun zq9 => ([.int zq9, .int (N t), .ref 23] : List Value)) (congrArg N (by simp [z4]))) rfl J1
        · replace z4 : ¬ ((anyN (moreK S f) 12) = false) := mt (bI_0 _).mpr (of_decide_eq_false z4)
          refine Runs.go 2 (cs := []) (pc' := 98) (pl' := [some (.ref 23), some (.int (bI (anyN (moreK S f) 12))), some (.int (N 12)), none]) (st' := [.int (N 1), .int (N t), .ref 23]) (h' := (MP X c S bf kn kp ik od bu le th (msk S f 12) f t ib sp so al br tr at_ iw ha se o)) rfl trivial ?_
          exact Runs.wk (pl' := [some (.ref 23), some (.int (bI (anyN (moreK S f) 12))), some (.int (N 12)), none]) (st' := [.int (N (if anyN (moreK S f) 12 = true then 1 else 0)), .int (N t), .ref 23]) (h' := (MP X c S bf kn kp ik od bu le th (msk S f 12) f t ib sp so al br tr at_ iw ha se o)) ⟨Or.inr rfl, Or.inr rfl, Or.inr rfl, Or.inl rfl, trivial⟩ (congrArg (fun zq9 => ([.int zq9, .int (N t), .ref 23] : List Value)) (congrArg N (by simp [z4]))) rfl J1
      refine Runs.topI 1 (cs := []) (pc' := 99) (pl' := [some (.ref 23), some (.int (bI (anyN (moreK S f) 12))), some (.int (N 12)), none]) (v := (N t) + (N (if anyN (moreK S f) 12 = true then 1 else 0))) (v' := N ((if anyN (moreK S f) 12 = true then 1 else 0) + t)) (st' := [.ref 23]) (h' := (MP X c S bf kn kp ik od bu le th (msk S f 12) f t ib sp so al br tr at_ iw ha se o)) rfl trivial (NA (by omega)) ?_
      refine Runs.go 3 (cs := []) (pc' := 104) (pl' := [some (.ref 23), some (.int (bI (anyN (moreK S f) 12))), some (.int (N 0)), none]) (st' := []) (h' := (MP X c S bf kn kp ik od bu le th (msk S f 12) f ((if anyN (moreK S f) 12 = true then 1 else 0) + t) ib sp so al br tr at_ iw ha se o)) rfl trivial ?_
      refine Runs.wk (pl' := [some (.ref 23), some (.int (bI (anyN (moreK S f) 12))), some (.int (N 0)), none]) (st' := []) (h' := (MP X c S bf kn kp ik od bu le th (rnd S f) (fil 0 (rnd S f) f) ((if anyN (moreK S f) 12 = true then 1 else 0) + t) ib sp so al br tr at_ iw ha se o)) ⟨Or.inr rfl, Or.inr rfl, Or.inr rfl, Or.inl rfl, trivial⟩ rfl (by rw [fil_0]; rfl) ?_
      refine Runs.loopN (fun k => [some (.ref 23), some (.int (bI (anyN (moreK S f) 12))), some (.int (N k)), none]) (fun k => (MP X c S bf kn kp ik od bu le th (rnd S f) (fil k (rnd S f) f) ((if anyN (moreK S f) 12 = true then 1 else 0) + t) ib sp so al br tr at_ iw ha se o)) (fun k => True) 12 trivial (fun k hk I3 K3 => ?_) (fun I3 => ?_)
      · show Runs _ _ 104 [some (.ref 23), some (.int (bI (anyN (moreK S f) 12))), some (.int (N k)), none] [] (MP X c S bf kn kp ik od bu le th (rnd S f) (fil k (rnd S f) f) ((if anyN (moreK S f) 12 = true then 1 else 0) + t) ib sp so al br tr at_ iw ha se o) _ _ _
        refine Runs.go 3 (cs := []) (pc' := bif decide ((N 12) ≤ (N k)) then 128 else 110) (pl' := [some (.ref 23), some (.int (bI (anyN (moreK S f) 12))), some (.int (N k)), none]) (st' := []) (h' := (MP X c S bf kn kp ik od bu le th (rnd S f) (fil k (rnd S f) f) ((if anyN (moreK S f) 12 = true then 1 else 0) + t) ib sp so al br tr at_ iw ha se o)) rfl trivial ?_
        refine Runs.brF (decide_eq_false (fun zq9 => absurd ((N_le (a := 12) (b := k) (by omega) (by omega)).mp zq9) (by omega))) ?_
        refine Runs.topI 7 (cs := [vp_in (N k) 12]) (pc' := 121) (pl' := [some (.ref 23), some (.int (bI (anyN (moreK S f) 12))), some (.int (N k)), none]) (v := aN (rnd S f) (N k).toNatClampNeg) (v' := N ((rnd S f) k)) (st' := [.int (N k), .ref 30]) (h' := (MP X c S bf kn kp ik od bu le th (rnd S f) (fil k (rnd S f) f) ((if anyN (moreK S f) 12 = true then 1 else 0) + t) ib sp so al br tr at_ iw ha se o)) rfl ⟨(N_in (by omega) (by decide)), trivial⟩ (aN_at (by omega)) ?_
        refine Runs.goH 1 (cs := [vp_in (N k) 12]) (pc' := 122) (pl' := [some (.ref 23), some (.int (bI (anyN (moreK S f) 12))), some (.int (N k)), none]) (st' := []) (h1 := (GP X c (aN S) (aN bf) (N kn) (aN kp) (bI ik) (aN od) (aN bu) (N le) (N th) (aN (rnd S f)) (upd (aN (fil k (rnd S f) f)) (N k).toNatClampNeg (N ((rnd S f) k))) (N ((if anyN (moreK S f) 12 = true then 1 else 0) + t)) (bI ib) (aN sp) (N so) (aN al) (aN br) (aN tr) (N at_) (bI iw) ha se o)) (h' := (MP X c S bf kn kp ik od bu le th (rnd S f) (fil (k + 1) (rnd S f) f) ((if anyN (moreK S f) 12 = true then 1 else 0) + t) ib sp so al br tr at_ iw ha se o)) rfl ⟨(N_in (by omega) (by decide)), trivial⟩ (congrArg (fun zq9 => (GP X c (aN S) (aN bf) (N kn) (aN kp) (bI ik) (aN od) (aN bu) (N le) (N th) (aN (rnd S f)) zq9 (N ((if anyN (moreK S f) 12 = true then 1 else 0) + t)) (bI ib) (aN sp) (N so) (aN al) (aN br) (aN tr) (N at_) (bI iw) ha se o)) ((aN_up (by omega)).trans (congrArg aN (upn_fil rfl)))) ?_
        refine Runs.goL 1 (cs := []) (pc' := 125) (pl1 := [some (.ref 23), some (.int (bI (anyN (moreK S f) 12))), some (.int (N k + N 1)), none]) (pl' := [some (.ref 23), some (.int (bI (anyN (moreK S f) 12))), some (.int (N (k + 1))), none]) (st' := []) (h' := (MP X c S bf kn kp ik od bu le th (rnd S f) (fil (k + 1) (rnd S f) f) ((if anyN (moreK S f) 12 = true then 1 else 0) + t) ib sp so al br tr at_ iw ha se o)) rfl trivial (congrArg (fun zq9 => ([some (.ref 23), some (.int (bI (anyN (moreK S f) 12))), some (.int zq9), none] : PL)) (NA (by omega))) ?_
        refine Runs.go 1 (cs := []) (pc' := 104) (pl' := [some (.ref 23), some (.int (bI (anyN (moreK S f) 12))), some (.int (N (k + 1))), none]) (st' := []) (h' := (MP X c S bf kn kp ik od bu le th (rnd S f) (fil (k + 1) (rnd S f) f) ((if anyN (moreK S f) 12 = true then 1 else 0) + t) ib sp so al br tr at_ iw ha se o)) rfl trivial ?_
        exact Runs.wk (pl' := [some (.ref 23), some (.int (bI (anyN (moreK S f) 12))), some (.int (N (k + 1))), none]) (st' := []) (h' := (MP X c S bf kn kp ik od bu le th (rnd S f) (fil (k + 1) (rnd S f) f) ((if anyN (moreK S f) 12 = true then 1 else 0) + t) ib sp so al br tr at_ iw ha se o)) ⟨Or.inr rfl, Or.inr rfl, Or.inr rfl, Or.inl rfl, trivial⟩ rfl rfl (K3 trivial)
      · show Runs _ _ 104 _ [] _ _ _ _
        show Runs _ _ 104 [some (.ref 23), some (.int (bI (anyN (moreK S f) 12))), some (.int (N 12)), none] [] (MP X c S bf kn kp ik od bu le th (rnd S f) (fil 12 (rnd S f) f) ((if anyN (moreK S f) 12 = true then 1 else 0) + t) ib sp so al br tr at_ iw ha se o) _ _ _
        refine Runs.go 3 (cs := []) (pc' := bif decide ((N 12) ≤ (N 12)) then 128 else 110) (pl' := [some (.ref 23), some (.int (bI (anyN (moreK S f) 12))), some (.int (N 12)), none]) (st' := []) (h' := (MP X c S bf kn kp ik od bu le th (rnd S f) (fil 12 (rnd S f) f) ((if anyN (moreK S f) 12 = true then 1 else 0) + t) ib sp so al br tr at_ iw ha se o)) rfl trivial ?_
        refine Runs.brT (decide_eq_true (by decide)) ?_
        refine Runs.go 1 (cs := []) (pc' := 11) (pl' := [some (.ref 23), some (.int (bI (anyN (moreK S f) 12))), some (.int (N 12)), none]) (st' := []) (h' := (MP X c S bf kn kp ik od bu le th (rnd S f) (fil 12 (rnd S f) f) ((if anyN (moreK S f) 12 = true then 1 else 0) + t) ib sp so al br tr at_ iw ha se o)) rfl trivial ?_
        rw [fil_z (rnd_z hZ) hZ]
        cases hm : anyN (moreK S f) 12 with
        | true =>
          have hd := meas_rnd (S := S) hF 12 (Nat.le_refl 12)
          rw [hm] at hd
          simp only [Bool.toNat_true] at hd
          have r := ih (rnd S f) (t + 1) (by omega) (rnd_z hZ) (rnd_16 hF)
          rw [show itr S (n + 1) f = itr S n (rnd S f) from if_pos hm, show trn S (n + 1) f = trn S n (rnd S f) + 1 from if_pos hm]
          rw [show t + (trn S n (rnd S f) + 1) = t + 1 + trn S n (rnd S f) by omega]
          exact Runs.wk (pl' := [some (.ref 23), some (.int (bI true)), none, none]) (st' := []) (h' := (MP X c S bf kn kp ik od bu le th (rnd S f) (rnd S f) (t + 1) ib sp so al br tr at_ iw ha se o)) ⟨Or.inr rfl, Or.inr rfl, Or.inl rfl, Or.inl rfl, trivial⟩ rfl (by rw [if_pos rfl, Nat.add_comm]) r
        | false =>
          rw [show itr S (n + 1) f = f from if_neg (by rw [more, hm]; decide), show trn S (n + 1) f = 0 from if_neg (by rw [more, hm]; decide), rnd_no hm]
          refine Runs.wk (pl' := [some (.ref 23), some (.int (bI false)), none, none]) (st' := []) (h' := (MP X c S bf kn kp ik od bu le th f f t ib sp so al br tr at_ iw ha se o)) ⟨Or.inr rfl, Or.inr rfl, Or.inl rfl, Or.inl rfl, trivial⟩ rfl (by rw [if_neg (by decide), Nat.zero_add]) ?_
          exact k_prop_end hF
theorem k_propagates {X : Nat × (Nat → Int32)} {c : CT} {S bf : Nat → Nat} {kn : Nat} {kp : Nat → Nat} {ik : Bool} {od bu : Nat → Nat} {le th : Nat} {mk ol : Nat → Nat} {tu : Nat} {ib : Bool} {sp : Nat → Nat} {so : Nat} {al br tr : Nat → Nat} {at_ : Nat} {iw : Bool} {ha : Int64} {se : Nat → Int32} {o : Nat → Int64} (hV : VC S) (hmk : Z12 mk) (hol : Z12 ol) : Call 4 mX7_propagates [.ref 23] (MP X c S bf kn kp ik od bu le th mk ol tu ib sp so al br tr at_ iw ha se o) (.inl none) (MP X c S bf kn kp ik od bu le th (PRP S) (PRP S) (TRP S) (bad (PRP S)) sp so al br tr at_ iw ha se o) 0 := by
  refine Runs.go 1 (cs := []) (pc' := 1) (pl' := [some (.ref 23), none, none, none]) (st' := [.ref 23]) (h' := (MP X c S bf kn kp ik od bu le th mk ol tu ib sp so al br tr at_ iw ha se o)) rfl trivial ?_
  refine Runs.cal (y := mX7_begins) (as := [.ref 23]) (rest := []) (pc' := 4) (cs := []) (v := none) (h1 := (MP X c S bf kn kp ik od bu le th (fil 12 (frS S) mk) (fil 12 (frS S) ol) tu ib sp so al br tr at_ iw ha se o)) rfl trivial (by decide) (k_begins hV.1) ?_
  show Runs _ _ 4 _ [] _ _ _ _
  refine Runs.go 5 (cs := []) (pc' := 11) (pl' := [some (.ref 23), some (.int (N 1)), none, none]) (st' := []) (h' := (MP X c S bf kn kp ik od bu le th (fil 12 (frS S) mk) (fil 12 (frS S) ol) 0 ib sp so al br tr at_ iw ha se o)) rfl trivial ?_
  rw [fil_FR hmk, fil_FR hol]
  have r := k_prop_while (t := 0) (X := X) (c := c) (S := S) (bf := bf) (kn := kn) (kp := kp) (ik := ik) (od := od) (bu := bu) (le := le) (th := th) (ib := ib) (sp := sp) (so := so) (al := al) (br := br) (tr := tr) (at_ := at_) (iw := iw) (ha := ha) (se := se) (o := o) hV 49 (FR S) 0 (Nat.lt_of_le_of_lt (meas_le _ _) (by decide)) (FR_z S) (FR_16 S)
  rw [Nat.zero_add] at r
  exact Runs.wk (pl' := [some (.ref 23), some (.int (bI true)), none, none]) (st' := []) (h' := (MP X c S bf kn kp ik od bu le th (FR S) (FR S) 0 ib sp so al br tr at_ iw ha se o)) ⟨Or.inr rfl, Or.inr rfl, Or.inl rfl, Or.inl rfl, trivial⟩ rfl rfl r
