/-! THE BITS OF SHARES, of the reference (gen_h2.py) -/
def r1 : Nat → UInt64 × Int32 → UInt64 × Int32
  | 0, x => x
  | n + 1, x => if cmL x.1 4611686018427387904 < 0 then x else r1 n (FP.ddiv x.1 4611686018427387904, x.2 + (1 : Int32))
def qr1 : Nat → UInt64 → Bool
  | 0, _ => false
  | n + 1, v => if cmL v 4611686018427387904 < 0 then true else nn64 (FP.ddiv v 4611686018427387904) && qr1 n (FP.ddiv v 4611686018427387904)
def r2 : Nat → UInt64 × Int32 → UInt64 × Int32
  | 0, x => x
  | n + 1, x => if 0 ≤ cmG x.1 4607182418800017408 then x else r2 n (FP.dmul x.1 4611686018427387904, x.2 + (-1 : Int32))
def qr2 : Nat → UInt64 → Bool
  | 0, _ => false
  | n + 1, v => if 0 ≤ cmG v 4607182418800017408 then true else nn64 (FP.dmul v 4611686018427387904) && qr2 n (FP.dmul v 4611686018427387904)
def onN (r : UInt64) : Nat := if cmL r 4607182418800017408 < 0 then 0 else 1
def rsS (x : UInt64 × Int64) : UInt64 × Int64 := (FP.dsub (FP.dmul x.1 4611686018427387904) (FP.l2d (L (onN (FP.dmul x.1 4611686018427387904)))), L 2 * x.2 + L (onN (FP.dmul x.1 4611686018427387904)))
def rsX (x : UInt64 × Int64) : Nat → UInt64 × Int64 := itN (fun _ y => rsS y) x
def qrl (x : UInt64 × Int64) : Nat → Bool := itN (fun k b => b && (nn64 (FP.dmul (rsX x k).1 4611686018427387904) && nn64 (rsS (rsX x k)).1)) true
theorem qrl_at {x : UInt64 × Int64} : ∀ {n : Nat}, qrl x n = true → ∀ k, k < n → nn64 (FP.dmul (rsX x k).1 4611686018427387904) = true ∧ nn64 (rsS (rsX x k)).1 = true
  | 0, _, _, hk => absurd hk (by omega)
  | n + 1, h, k, hk => by
    have h' : (qrl x n && (nn64 (FP.dmul (rsX x n).1 4611686018427387904) && nn64 (rsS (rsX x n)).1)) = true := h
    rw [Bool.and_eq_true, Bool.and_eq_true] at h'
    by_cases e : k = n
    · rw [e]
      exact h'.2
    · exact qrl_at h'.1 k (by omega)
def brX (nu : UInt64) (bi : Nat) : UInt64 × Int32 := r2 12 (r1 12 (nu, N bi))
def brY (nu : UInt64) (bi : Nat) : UInt64 × Int64 := (FP.dsub (brX nu bi).1 4607182418800017408, (brX nu bi).2.toInt64)
def bcR (nu : UInt64) (wd bi : Nat) : Int64 := if cmL nu 0 = 0 then L 0 else (rsX (brY nu bi) wd).2
def qkR (nu : UInt64) (wd bi : Nat) : Bool := if cmL nu 0 = 0 then true else qr1 12 nu && qr2 12 (r1 12 (nu, N bi)).1 && nn64 (brY nu bi).1 && qrl (brY nu bi) wd
theorem b_r1 {h h2 : PH} {nu : UInt64} {bi wd : Nat} {r : Option Value ⊕ String} : ∀ (n : Nat) (v : UInt64) (e : Int32), qr1 n v = true → Runs 0 mX7_bitsOf 37 [some (.double nu), none, some (.int (N wd)), some (.int (N bi)), some (.double ((r1 n (v, e)).1)), none, some (.int ((r1 n (v, e)).2)), none, none, none, none, none, none, none] [] h r h2 0 → Runs 0 mX7_bitsOf 14 [some (.double nu), none, some (.int (N wd)), some (.int (N bi)), some (.double v), none, some (.int e), none, none, none, none, none, none, none] [] h r h2 0 := by
  intro n
  induction n with
  | zero =>
    intro v e hok K
    cases (show false = true from hok)
  | succ n ih =>
    intro v e hok K
    by_cases hc : cmL v 4611686018427387904 < 0
    · have e1 : r1 (n + 1) (v, e) = (v, e) := if_pos hc
      rw [e1] at K
      replace K : Runs 0 mX7_bitsOf 37 [some (.double nu), none, some (.int (N wd)), some (.int (N bi)), some (.double v), none, some (.int e), none, none, none, none, none, none, none] [] h r h2 0 := K
      refine Runs.go 4 (cs := []) (pc' := bif decide ((Op.cmpValue (FP.dcmp v 4611686018427387904) .l) < 0) then 37 else 23) (pl' := [some (.double nu), none, some (.int (N wd)), some (.int (N bi)), some (.double v), none, some (.int e), none, none, none, none, none, none, none]) (st' := []) (h' := h) rfl trivial ?_
      refine Runs.brT (decide_eq_true (Iff.rfl.mpr hc)) ?_
      exact K
    · have e1 : r1 (n + 1) (v, e) = r1 n (FP.ddiv v 4611686018427387904, e + (1 : Int32)) := if_neg hc
      rw [e1] at K
      have e2 : qr1 (n + 1) v = (nn64 (FP.ddiv v 4611686018427387904) && qr1 n (FP.ddiv v 4611686018427387904)) := if_neg hc
      rw [e2] at hok
      refine Runs.go 4 (cs := []) (pc' := bif decide ((Op.cmpValue (FP.dcmp v 4611686018427387904) .l) < 0) then 37 else 23) (pl' := [some (.double nu), none, some (.int (N wd)), some (.int (N bi)), some (.double v), none, some (.int e), none, none, none, none, none, none, none]) (st' := []) (h' := h) rfl trivial ?_
      refine Runs.brF (decide_eq_false (fun zq9 => absurd (Iff.rfl.mp zq9) hc)) ?_
      refine Runs.go 6 (cs := [vf_n64 (FP.ddiv v 4611686018427387904)]) (pc' := 14) (pl' := [some (.double nu), none, some (.int (N wd)), some (.int (N bi)), some (.double (FP.ddiv v 4611686018427387904)), none, some (.int (e + (1 : Int32))), none, none, none, none, none, none, none]) (st' := []) (h' := h) rfl ⟨(nn64_v (and_l hok)), trivial⟩ ?_
      exact ih _ _ (and_r hok) K
theorem b_r2 {h h2 : PH} {nu : UInt64} {bi wd : Nat} {r : Option Value ⊕ String} : ∀ (n : Nat) (v : UInt64) (e : Int32), qr2 n v = true → Runs 0 mX7_bitsOf 58 [some (.double nu), none, some (.int (N wd)), some (.int (N bi)), some (.double ((r2 n (v, e)).1)), none, some (.int ((r2 n (v, e)).2)), none, none, none, none, none, none, none] [] h r h2 0 → Runs 0 mX7_bitsOf 37 [some (.double nu), none, some (.int (N wd)), some (.int (N bi)), some (.double v), none, some (.int e), none, none, none, none, none, none, none] [] h r h2 0 := by
  intro n
  induction n with
  | zero =>
    intro v e hok K
    cases (show false = true from hok)
  | succ n ih =>
    intro v e hok K
    by_cases hc : 0 ≤ cmG v 4607182418800017408
    · have e1 : r2 (n + 1) (v, e) = (v, e) := if_pos hc
      rw [e1] at K
      replace K : Runs 0 mX7_bitsOf 58 [some (.double nu), none, some (.int (N wd)), some (.int (N bi)), some (.double v), none, some (.int e), none, none, none, none, none, none, none] [] h r h2 0 := K
      refine Runs.go 4 (cs := []) (pc' := bif decide (0 ≤ (Op.cmpValue (FP.dcmp v 4607182418800017408) .g)) then 58 else 44) (pl' := [some (.double nu), none, some (.int (N wd)), some (.int (N bi)), some (.double v), none, some (.int e), none, none, none, none, none, none, none]) (st' := []) (h' := h) rfl trivial ?_
      refine Runs.brT (decide_eq_true (Iff.rfl.mpr hc)) ?_
      exact K
    · have e1 : r2 (n + 1) (v, e) = r2 n (FP.dmul v 4611686018427387904, e + (-1 : Int32)) := if_neg hc
      rw [e1] at K
      have e2 : qr2 (n + 1) v = (nn64 (FP.dmul v 4611686018427387904) && qr2 n (FP.dmul v 4611686018427387904)) := if_neg hc
      rw [e2] at hok
      refine Runs.go 4 (cs := []) (pc' := bif decide (0 ≤ (Op.cmpValue (FP.dcmp v 4607182418800017408) .g)) then 58 else 44) (pl' := [some (.double nu), none, some (.int (N wd)), some (.int (N bi)), some (.double v), none, some (.int e), none, none, none, none, none, none, none]) (st' := []) (h' := h) rfl trivial ?_
      refine Runs.brF (decide_eq_false (fun zq9 => absurd (Iff.rfl.mp zq9) hc)) ?_
      refine Runs.go 6 (cs := [vf_n64 (FP.dmul v 4611686018427387904)]) (pc' := 37) (pl' := [some (.double nu), none, some (.int (N wd)), some (.int (N bi)), some (.double (FP.dmul v 4611686018427387904)), none, some (.int (e + (-1 : Int32))), none, none, none, none, none, none, none]) (st' := []) (h' := h) rfl ⟨(nn64_v (and_l hok)), trivial⟩ ?_
      exact ih _ _ (and_r hok) K
theorem k_bitsOf0 {nu : UInt64} {wd bi : Nat} {h : PH} (hc : cmL nu 0 = 0) : Call 0 mX7_bitsOf [.double nu, .int (N wd), .int (N bi)] h (.inl (some (.long (L 0)))) h 0 := by
  refine Runs.go 4 (cs := []) (pc' := bif decide (¬ (Op.cmpValue (FP.dcmp nu 0) .l) = 0) then 8 else 6) (pl' := [some (.double nu), none, some (.int (N wd)), some (.int (N bi)), none, none, none, none, none, none, none, none, none, none]) (st' := []) (h' := h) rfl trivial ?_
  refine Runs.brF (decide_eq_false (not_not_intro (Iff.rfl.mpr hc))) ?_
  refine Runs.go 1 (cs := []) (pc' := 7) (pl' := [some (.double nu), none, some (.int (N wd)), some (.int (N bi)), none, none, none, none, none, none, none, none, none, none]) (st' := [.long (L 0)]) (h' := h) rfl trivial ?_
  exact Runs.retE (cs := []) rfl trivial (retJ rfl) rfl
theorem k_bitsOf1 {nu : UInt64} {wd bi : Nat} {h : PH} (hwd : wd < 60) (hc : ¬ cmL nu 0 = 0) (hok : (qr1 12 nu && qr2 12 (r1 12 (nu, N bi)).1 && nn64 (brY nu bi).1 && qrl (brY nu bi) wd) = true) : Call 0 mX7_bitsOf [.double nu, .int (N wd), .int (N bi)] h (.inl (some (.long ((rsX (brY nu bi) wd).2)))) h 0 := by
  refine Runs.go 4 (cs := []) (pc' := bif decide (¬ (Op.cmpValue (FP.dcmp nu 0) .l) = 0) then 8 else 6) (pl' := [some (.double nu), none, some (.int (N wd)), some (.int (N bi)), none, none, none, none, none, none, none, none, none, none]) (st' := []) (h' := h) rfl trivial ?_
  refine Runs.brT (decide_eq_true (fun zq9 => absurd (Iff.rfl.mp zq9) hc)) ?_
  refine Runs.go 4 (cs := []) (pc' := 14) (pl' := [some (.double nu), none, some (.int (N wd)), some (.int (N bi)), some (.double nu), none, some (.int (N bi)), none, none, none, none, none, none, none]) (st' := []) (h' := h) rfl trivial ?_
  refine b_r1 12 _ _ (and_l (and_l (and_l hok))) ?_
  show Runs _ _ 37 [some (.double nu), none, some (.int (N wd)), some (.int (N bi)), some (.double ((r1 12 (nu, N bi)).1)), none, some (.int ((r1 12 (nu, N bi)).2)), none, none, none, none, none, none, none] _ _ _ _ _
  refine b_r2 12 _ _ (and_r (and_l (and_l hok))) ?_
  show Runs _ _ 58 [some (.double nu), none, some (.int (N wd)), some (.int (N bi)), some (.double ((brX nu bi).1)), none, some (.int ((brX nu bi).2)), none, none, none, none, none, none, none] _ _ _ _ _
  refine Runs.go 9 (cs := [vf_n64 (FP.dsub ((brX nu bi).1) 4607182418800017408)]) (pc' := 72) (pl' := [some (.double nu), none, some (.int (N wd)), some (.int (N bi)), some (.double ((brX nu bi).1)), none, some (.int ((brX nu bi).2)), some (.double (FP.dsub ((brX nu bi).1) 4607182418800017408)), none, some (.long (((brX nu bi).2 : Int32).toInt64)), none, some (.int (N 0)), none, none]) (st' := []) (h' := h) rfl ⟨(nn64_v (and_r (and_l hok))), trivial⟩ ?_
  refine Runs.wk (pl' := [some (.double nu), none, some (.int (N wd)), some (.int (N bi)), none, none, none, some (.double ((rsX (brY nu bi) 0).1)), none, some (.long ((rsX (brY nu bi) 0).2)), none, some (.int (N 0)), none, none]) (st' := []) (h' := h) ⟨Or.inr rfl, Or.inl rfl, Or.inr rfl, Or.inr rfl, Or.inl rfl, Or.inl rfl, Or.inl rfl, Or.inr rfl, Or.inl rfl, Or.inr rfl, Or.inl rfl, Or.inr rfl, Or.inl rfl, Or.inl rfl, trivial⟩ rfl rfl ?_
  refine Runs.loopN (fun k => [some (.double nu), none, some (.int (N wd)), some (.int (N bi)), none, none, none, some (.double ((rsX (brY nu bi) k).1)), none, some (.long ((rsX (brY nu bi) k).2)), none, some (.int (N k)), none, none]) (fun k => h) (fun k => True) wd trivial (fun k hk I1 K1 => ?_) (fun I1 => ?_)
  · show Runs _ _ 72 [some (.double nu), none, some (.int (N wd)), some (.int (N bi)), none, none, none, some (.double ((rsX (brY nu bi) k).1)), none, some (.long ((rsX (brY nu bi) k).2)), none, some (.int (N k)), none, none] [] h _ _ _
    have hkk := qrl_at (and_r hok) k hk
    refine Runs.go 3 (cs := []) (pc' := bif decide ((N wd) ≤ (N k)) then 125 else 78) (pl' := [some (.double nu), none, some (.int (N wd)), some (.int (N bi)), none, none, none, some (.double ((rsX (brY nu bi) k).1)), none, some (.long ((rsX (brY nu bi) k).2)), none, some (.int (N k)), none, none]) (st' := []) (h' := h) rfl trivial ?_
    refine Runs.brF (decide_eq_false (fun zq9 => absurd ((N_le (a := wd) (b := k) (by omega) (by omega)).mp zq9) (by omega))) ?_
    refine Runs.go 4 (cs := [vf_n64 (FP.dmul ((rsX (brY nu bi) k).1) 4611686018427387904)]) (pc' := 86) (pl' := [some (.double nu), none, some (.int (N wd)), some (.int (N bi)), none, none, none, some (.double (FP.dmul ((rsX (brY nu bi) k).1) 4611686018427387904)), none, some (.long ((rsX (brY nu bi) k).2)), none, some (.int (N k)), none, none]) (st' := []) (h' := h) rfl ⟨(nn64_v hkk.1), trivial⟩ ?_
    refine Runs.join 98 [some (.double nu), none, some (.int (N wd)), some (.int (N bi)), none, none, none, some (.double (FP.dmul ((rsX (brY nu bi) k).1) 4611686018427387904)), none, some (.long ((rsX (brY nu bi) k).2)), none, some (.int (N k)), none, none] [.long (L (onN (FP.dmul (rsX (brY nu bi) k).1 4611686018427387904)))] h (fun J1 => ?_) ?_
    · show Runs _ _ 86 _ _ _ _ _ _
      refine Runs.go 4 (cs := []) (pc' := bif decide ((Op.cmpValue (FP.dcmp (FP.dmul ((rsX (brY nu bi) k).1) 4611686018427387904) 4607182418800017408) .l) < 0) then 97 else 93) (pl' := [some (.double nu), none, some (.int (N wd)), some (.int (N bi)), none, none, none, some (.double (FP.dmul ((rsX (brY nu bi) k).1) 4611686018427387904)), none, some (.long ((rsX (brY nu bi) k).2)), none, some (.int (N k)), none, none]) (st' := []) (h' := h) rfl trivial ?_
      refine Runs.br (fun z1 => ?_) (fun z1 => ?_)
      · replace z1 : (Op.cmpValue (FP.dcmp (FP.dmul ((rsX (brY nu bi) k).1) 4611686018427387904) 4607182418800017408) .l) < 0 := Iff.rfl.mp (of_decide_eq_true z1)
        refine Runs.go 1 (cs := []) (pc' := 98) (pl' := [some (.double nu), none, some (.int (N wd)), some (.int (N bi)), none, none, none, some (.double (FP.dmul ((rsX (brY nu bi) k).1) 4611686018427387904)), none, some (.long ((rsX (brY nu bi) k).2)), none, some (.int (N k)), none, none]) (st' := [.long (L 0)]) (h' := h) rfl trivial ?_
        exact Runs.wk (pl' := [some (.double nu), none, some (.int (N wd)), some (.int (N bi)), none, none, none, some (.double (FP.dmul ((rsX (brY nu bi) k).1) 4611686018427387904)), none, some (.long ((rsX (brY nu bi) k).2)), none, some (.int (N k)), none, none]) (st' := [.long (L (onN (FP.dmul (rsX (brY nu bi) k).1 4611686018427387904)))]) (h' := h) ⟨Or.inr rfl, Or.inl rfl, Or.inr rfl, Or.inr rfl, Or.inl rfl, Or.inl rfl, Or.inl rfl, Or.inr rfl, Or.inl rfl, Or.inr rfl, Or.inl rfl, Or.inr rfl, Or.inl rfl, Or.inl rfl, trivial⟩ (congrArg (fun zq9 => ([.long zq9] : List Value)) (congrArg L (show onN (FP.dmul (rsX (brY nu bi) k).1 4611686018427387904) = _ from if_pos z1)).symm) rfl J1
      · replace z1 : ¬ ((Op.cmpValue (FP.dcmp (FP.dmul ((rsX (brY nu bi) k).1) 4611686018427387904) 4607182418800017408) .l) < 0) := mt Iff.rfl.mpr (of_decide_eq_false z1)
        refine Runs.go 2 (cs := []) (pc' := 98) (pl' := [some (.double nu), none, some (.int (N wd)), some (.int (N bi)), none, none, none, some (.double (FP.dmul ((rsX (brY nu bi) k).1) 4611686018427387904)), none, some (.long ((rsX (brY nu bi) k).2)), none, some (.int (N k)), none, none]) (st' := [.long (L 1)]) (h' := h) rfl trivial ?_
        exact Runs.wk (pl' := [some (.double nu), none, some (.int (N wd)), some (.int (N bi)), none, none, none, some (.double (FP.dmul ((rsX (brY nu bi) k).1) 4611686018427387904)), none, some (.long ((rsX (brY nu bi) k).2)), none, some (.int (N k)), none, none]) (st' := [.long (L (onN (FP.dmul (rsX (brY nu bi) k).1 4611686018427387904)))]) (h' := h) ⟨Or.inr rfl, Or.inl rfl, Or.inr rfl, Or.inr rfl, Or.inl rfl, Or.inl rfl, Or.inl rfl, Or.inr rfl, Or.inl rfl, Or.inr rfl, Or.inl rfl, Or.inr rfl, Or.inl rfl, Or.inl rfl, trivial⟩ (congrArg (fun zq9 => ([.long zq9] : List Value)) (congrArg L (show onN (FP.dmul (rsX (brY nu bi) k).1 4611686018427387904) = _ from if_neg z1)).symm) rfl J1
    refine Runs.goL 13 (cs := [vf_n64 (FP.dsub (FP.dmul ((rsX (brY nu bi) k).1) 4611686018427387904) (FP.l2d (L (onN (FP.dmul (rsX (brY nu bi) k).1 4611686018427387904)))))]) (pc' := 122) (pl1 := [some (.double nu), none, some (.int (N wd)), some (.int (N bi)), none, none, none, some (.double (FP.dsub (FP.dmul ((rsX (brY nu bi) k).1) 4611686018427387904) (FP.l2d (L (onN (FP.dmul (rsX (brY nu bi) k).1 4611686018427387904)))))), none, some (.long (((L 2) * ((rsX (brY nu bi) k).2)) + (L (onN (FP.dmul (rsX (brY nu bi) k).1 4611686018427387904))))), none, some (.int (N k + N 1)), some (.long (L (onN (FP.dmul (rsX (brY nu bi) k).1 4611686018427387904)))), none]) (pl' := [some (.double nu), none, some (.int (N wd)), some (.int (N bi)), none, none, none, some (.double (FP.dsub (FP.dmul ((rsX (brY nu bi) k).1) 4611686018427387904) (FP.l2d (L (onN (FP.dmul (rsX (brY nu bi) k).1 4611686018427387904)))))), none, some (.long (((L 2) * ((rsX (brY nu bi) k).2)) + (L (onN (FP.dmul (rsX (brY nu bi) k).1 4611686018427387904))))), none, some (.int (N (k + 1))), some (.long (L (onN (FP.dmul (rsX (brY nu bi) k).1 4611686018427387904)))), none]) (st' := []) (h' := h) rfl ⟨(nn64_v hkk.2), trivial⟩ (congrArg (fun zq9 => ([some (.double nu), none, some (.int (N wd)), some (.int (N bi)), none, none, none, some (.double (FP.dsub (FP.dmul ((rsX (brY nu bi) k).1) 4611686018427387904) (FP.l2d (L (onN (FP.dmul (rsX (brY nu bi) k).1 4611686018427387904)))))), none, some (.long (((L 2) * ((rsX (brY nu bi) k).2)) + (L (onN (FP.dmul (rsX (brY nu bi) k).1 4611686018427387904))))), none, some (.int zq9), some (.long (L (onN (FP.dmul (rsX (brY nu bi) k).1 4611686018427387904)))), none] : PL)) (NA (by omega))) ?_
    refine Runs.go 1 (cs := []) (pc' := 72) (pl' := [some (.double nu), none, some (.int (N wd)), some (.int (N bi)), none, none, none, some (.double (FP.dsub (FP.dmul ((rsX (brY nu bi) k).1) 4611686018427387904) (FP.l2d (L (onN (FP.dmul (rsX (brY nu bi) k).1 4611686018427387904)))))), none, some (.long (((L 2) * ((rsX (brY nu bi) k).2)) + (L (onN (FP.dmul (rsX (brY nu bi) k).1 4611686018427387904))))), none, some (.int (N (k + 1))), some (.long (L (onN (FP.dmul (rsX (brY nu bi) k).1 4611686018427387904)))), none]) (st' := []) (h' := h) rfl trivial ?_
    exact Runs.wk (pl' := [some (.double nu), none, some (.int (N wd)), some (.int (N bi)), none, none, none, some (.double ((rsX (brY nu bi) (k + 1)).1)), none, some (.long ((rsX (brY nu bi) (k + 1)).2)), none, some (.int (N (k + 1))), none, none]) (st' := []) (h' := h) ⟨Or.inr rfl, Or.inl rfl, Or.inr rfl, Or.inr rfl, Or.inl rfl, Or.inl rfl, Or.inl rfl, Or.inr rfl, Or.inl rfl, Or.inr rfl, Or.inl rfl, Or.inr rfl, Or.inl rfl, Or.inl rfl, trivial⟩ rfl rfl (K1 trivial)
  · show Runs _ _ 72 _ [] _ _ _ _
    show Runs _ _ 72 [some (.double nu), none, some (.int (N wd)), some (.int (N bi)), none, none, none, some (.double ((rsX (brY nu bi) wd).1)), none, some (.long ((rsX (brY nu bi) wd).2)), none, some (.int (N wd)), none, none] [] h _ _ _
    refine Runs.go 3 (cs := []) (pc' := bif decide ((N wd) ≤ (N wd)) then 125 else 78) (pl' := [some (.double nu), none, some (.int (N wd)), some (.int (N bi)), none, none, none, some (.double ((rsX (brY nu bi) wd).1)), none, some (.long ((rsX (brY nu bi) wd).2)), none, some (.int (N wd)), none, none]) (st' := []) (h' := h) rfl trivial ?_
    refine Runs.brT (decide_eq_true ((N_le (a := wd) (b := wd) (by omega) (by omega)).mpr (by omega))) ?_
    refine Runs.go 1 (cs := []) (pc' := 127) (pl' := [some (.double nu), none, some (.int (N wd)), some (.int (N bi)), none, none, none, some (.double ((rsX (brY nu bi) wd).1)), none, some (.long ((rsX (brY nu bi) wd).2)), none, some (.int (N wd)), none, none]) (st' := [.long ((rsX (brY nu bi) wd).2)]) (h' := h) rfl trivial ?_
    exact Runs.retE (cs := []) rfl trivial (retJ rfl) rfl
theorem k_bitsOf {nu : UInt64} {wd bi : Nat} {h : PH} (hwd : wd < 60) (hok : qkR nu wd bi = true) : Call 0 mX7_bitsOf [.double nu, .int (N wd), .int (N bi)] h (.inl (some (.long (bcR nu wd bi)))) h 0 := by
  unfold bcR
  unfold qkR at hok
  by_cases hc : cmL nu 0 = 0
  · rw [if_pos hc]
    exact k_bitsOf0 hc
  · rw [if_neg hc]
    rw [if_neg hc] at hok
    exact k_bitsOf1 hwd hc hok
theorem f2d_n : ∀ k, k < 49 → nn64 (FP.f2d (menF k)) = true := by decide +kernel
theorem sh_ok : ∀ k, k < 13 → (qkC (shrD k) 1023 52 && qkR (shrD k) 52 1023) = true := by decide +kernel
theorem sh_eq : ∀ k, k < 13 → bcC (shrD k) 1023 52 = bcR (shrD k) 52 1023 := by decide +kernel
theorem mn_ok : ∀ k, k < 49 → (qkC (FP.f2d (menF k)) 127 23 && qkR (FP.f2d (menF k)) 23 127) = true := by decide +kernel
theorem mn_eq : ∀ k, k < 49 → bcC (FP.f2d (menF k)) 127 23 = bcR (FP.f2d (menF k)) 23 127 := by decide +kernel
