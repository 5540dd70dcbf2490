/-! THE REFERENCE: the rest of its calls but for texts and the digest (gen_e1.py) -/
theorem inB_ap {v : Int32} (h : inB v (N 33) (N 126) = true) : ∃ k, 33 ≤ k ∧ k ≤ 126 ∧ v = N k := by
  simp only [inB, Bool.and_eq_true, decide_eq_true_eq] at h
  obtain ⟨h1, h2⟩ := h
  have h0 : (0 : Int32) ≤ v := Int32.le_trans (by decide) h1
  refine ⟨v.toNatClampNeg, ?_, ?_, (Int32.ofNat_toNatClampNeg v h0).symm⟩
  · rw [Int32.le_iff_toInt_le, N_toInt (by omega)] at h1
    rw [Int32.toNatClampNeg]
    omega
  · rw [Int32.le_iff_toInt_le, N_toInt (by omega)] at h2
    rw [Int32.toNatClampNeg]
    omega
theorem okAp {k : Nat} (h1 : 33 ≤ k) (h2 : k ≤ 126) : inB (N k) (N 33) (N 126) = true := by
  rw [inB_N (by omega) (by omega) (by omega)]
  exact decide_eq_true ⟨h1, h2⟩
theorem k_append1 {X : Nat × (Nat → Int32)} {c : CT} {S bf : Nat → Nat} {kn : Nat} {kp : Nat → Nat} {ik : Bool} {od bu : Nat → Nat} {le th : Nat} {mk ol : Nat → Nat} {tu : Nat} {ib : Bool} {sp : Nat → Nat} {so : Nat} {al br tr : Nat → Nat} {at_ : Nat} {iw : Bool} {ha : Int64} {se : Nat → Int32} {o : Nat → Int64} {v : Int32} (h : ¬ inB v (N 33) (N 126) = true) : Call 2 mX7_append [.ref 23, .int v] (MP X c S bf kn kp ik od bu le th mk ol tu ib sp so al br tr at_ iw ha se o) (.inl (some (.int (N 0)))) (MP X c S bf kn kp ik od bu le 1 mk ol tu ib sp so al br tr at_ iw ha se o) 0 := by
  refine Runs.go 6 (cs := []) (pc' := 10) (pl' := [some (.ref 23), some (.int v)]) (st' := [.int (N 126), .int (N 33), .int v]) (h' := (MP X c S bf kn kp ik od bu le 0 mk ol tu ib sp so al br tr at_ iw ha se o)) rfl trivial ?_
  refine Runs.cal (y := mX7_in) (as := [.int v, .int (N 33), .int (N 126)]) (rest := []) (pc' := 13) (cs := []) (v := some (.int (bI (inB v (N 33) (N 126))))) (h1 := (MP X c S bf kn kp ik od bu le 0 mk ol tu ib sp so al br tr at_ iw ha se o)) rfl trivial (by decide) (k_in) ?_
  show Runs _ _ 13 _ [.int (bI (inB v (N 33) (N 126)))] _ _ _ _
  refine Runs.go 1 (cs := []) (pc' := bif decide (¬ (bI (inB v (N 33) (N 126))) = 0) then 22 else 16) (pl' := [some (.ref 23), some (.int v)]) (st' := []) (h' := (MP X c S bf kn kp ik od bu le 0 mk ol tu ib sp so al br tr at_ iw ha se o)) rfl trivial ?_
  refine Runs.brF (decide_eq_false (not_not_intro ((bI_0 _).mpr (bF h)))) ?_
  refine Runs.go 2 (cs := []) (pc' := 18) (pl' := [some (.ref 23), some (.int v)]) (st' := [.int (N 1), .ref 23]) (h' := (MP X c S bf kn kp ik od bu le 0 mk ol tu ib sp so al br tr at_ iw ha se o)) rfl trivial ?_
  refine Runs.cal (y := mX7_throwing) (as := [.ref 23, .int (N 1)]) (rest := []) (pc' := 21) (cs := []) (v := some (.int (N 0))) (h1 := (MP X c S bf kn kp ik od bu le 1 mk ol tu ib sp so al br tr at_ iw ha se o)) rfl trivial (by decide) (k_throwing) ?_
  show Runs _ _ 21 _ [.int (N 0)] _ _ _ _
  exact Runs.retE (cs := []) rfl trivial (retI rfl) rfl
theorem k_append2 {X : Nat × (Nat → Int32)} {c : CT} {S bf : Nat → Nat} {kn : Nat} {kp : Nat → Nat} {ik : Bool} {od bu : Nat → Nat} {le th : Nat} {mk ol : Nat → Nat} {tu : Nat} {ib : Bool} {sp : Nat → Nat} {so : Nat} {al br tr : Nat → Nat} {at_ : Nat} {iw : Bool} {ha : Int64} {se : Nat → Int32} {o : Nat → Int64} {k : Nat} (hk1 : 33 ≤ k) (hk2 : k ≤ 126) (hl : le = 60) : Call 2 mX7_append [.ref 23, .int (N k)] (MP X c S bf kn kp ik od bu le th mk ol tu ib sp so al br tr at_ iw ha se o) (.inl (some (.int (N 0)))) (MP X c S bf kn kp ik od bu le 2 mk ol tu ib sp so al br tr at_ iw ha se o) 0 := by
  refine Runs.go 6 (cs := []) (pc' := 10) (pl' := [some (.ref 23), some (.int (N k))]) (st' := [.int (N 126), .int (N 33), .int (N k)]) (h' := (MP X c S bf kn kp ik od bu le 0 mk ol tu ib sp so al br tr at_ iw ha se o)) rfl trivial ?_
  refine Runs.cal (y := mX7_in) (as := [.int (N k), .int (N 33), .int (N 126)]) (rest := []) (pc' := 13) (cs := []) (v := some (.int (bI (inB (N k) (N 33) (N 126))))) (h1 := (MP X c S bf kn kp ik od bu le 0 mk ol tu ib sp so al br tr at_ iw ha se o)) rfl trivial (by decide) (k_in) ?_
  show Runs _ _ 13 _ [.int (bI (inB (N k) (N 33) (N 126)))] _ _ _ _
  refine Runs.go 1 (cs := []) (pc' := bif decide (¬ (bI (inB (N k) (N 33) (N 126))) = 0) then 22 else 16) (pl' := [some (.ref 23), some (.int (N k))]) (st' := []) (h' := (MP X c S bf kn kp ik od bu le 0 mk ol tu ib sp so al br tr at_ iw ha se o)) rfl trivial ?_
  refine Runs.brT (decide_eq_true (fun zq9 => absurd ((bI_0 _).mp zq9) (nT (okAp hk1 hk2)))) ?_
  refine Runs.go 4 (cs := []) (pc' := bif decide (¬ (N le) = (N 60)) then 37 else 31) (pl' := [some (.ref 23), some (.int (N k))]) (st' := []) (h' := (MP X c S bf kn kp ik od bu le 0 mk ol tu ib sp so al br tr at_ iw ha se o)) rfl trivial ?_
  refine Runs.brF (decide_eq_false (not_not_intro ((N_eq (a := le) (b := 60) (by omega) (by omega)).mpr hl))) ?_
  refine Runs.go 2 (cs := []) (pc' := 33) (pl' := [some (.ref 23), some (.int (N k))]) (st' := [.int (N 2), .ref 23]) (h' := (MP X c S bf kn kp ik od bu le 0 mk ol tu ib sp so al br tr at_ iw ha se o)) rfl trivial ?_
  refine Runs.cal (y := mX7_throwing) (as := [.ref 23, .int (N 2)]) (rest := []) (pc' := 36) (cs := []) (v := some (.int (N 0))) (h1 := (MP X c S bf kn kp ik od bu le 2 mk ol tu ib sp so al br tr at_ iw ha se o)) rfl trivial (by decide) (k_throwing) ?_
  show Runs _ _ 36 _ [.int (N 0)] _ _ _ _
  exact Runs.retE (cs := []) rfl trivial (retI rfl) rfl
theorem k_append0 {X : Nat × (Nat → Int32)} {c : CT} {S bf : Nat → Nat} {kn : Nat} {kp : Nat → Nat} {ik : Bool} {od bu : Nat → Nat} {le th : Nat} {mk ol : Nat → Nat} {tu : Nat} {ib : Bool} {sp : Nat → Nat} {so : Nat} {al br tr : Nat → Nat} {at_ : Nat} {iw : Bool} {ha : Int64} {se : Nat → Int32} {o : Nat → Int64} {k : Nat} (hk1 : 33 ≤ k) (hk2 : k ≤ 126) (hl : le < 60) : Call 2 mX7_append [.ref 23, .int (N k)] (MP X c S bf kn kp ik od bu le th mk ol tu ib sp so al br tr at_ iw ha se o) (.inl (some (.int (N (le + 1))))) (MP X c S bf kn kp ik od (upn bu le k) (le + 1) 0 mk ol tu ib sp so al br tr at_ iw ha se o) 0 := by
  refine Runs.go 6 (cs := []) (pc' := 10) (pl' := [some (.ref 23), some (.int (N k))]) (st' := [.int (N 126), .int (N 33), .int (N k)]) (h' := (MP X c S bf kn kp ik od bu le 0 mk ol tu ib sp so al br tr at_ iw ha se o)) rfl trivial ?_
  refine Runs.cal (y := mX7_in) (as := [.int (N k), .int (N 33), .int (N 126)]) (rest := []) (pc' := 13) (cs := []) (v := some (.int (bI (inB (N k) (N 33) (N 126))))) (h1 := (MP X c S bf kn kp ik od bu le 0 mk ol tu ib sp so al br tr at_ iw ha se o)) rfl trivial (by decide) (k_in) ?_
  show Runs _ _ 13 _ [.int (bI (inB (N k) (N 33) (N 126)))] _ _ _ _
  refine Runs.go 1 (cs := []) (pc' := bif decide (¬ (bI (inB (N k) (N 33) (N 126))) = 0) then 22 else 16) (pl' := [some (.ref 23), some (.int (N k))]) (st' := []) (h' := (MP X c S bf kn kp ik od bu le 0 mk ol tu ib sp so al br tr at_ iw ha se o)) rfl trivial ?_
  refine Runs.brT (decide_eq_true (fun zq9 => absurd ((bI_0 _).mp zq9) (nT (okAp hk1 hk2)))) ?_
  refine Runs.go 4 (cs := []) (pc' := bif decide (¬ (N le) = (N 60)) then 37 else 31) (pl' := [some (.ref 23), some (.int (N k))]) (st' := []) (h' := (MP X c S bf kn kp ik od bu le 0 mk ol tu ib sp so al br tr at_ iw ha se o)) rfl trivial ?_
  refine Runs.brT (decide_eq_true (fun zq9 => absurd ((N_eq (a := le) (b := 60) (by omega) (by omega)).mp zq9) (by omega))) ?_
  refine Runs.goH 6 (cs := [vp_in (N le) 60]) (pc' := 47) (pl' := [some (.ref 23), some (.int (N k))]) (st' := []) (h1 := (GP X c (aN S) (aN bf) (N kn) (aN kp) (bI ik) (aN od) (upd (aN bu) (N le).toNatClampNeg (N k)) (N le) (N 0) (aN mk) (aN ol) (N tu) (bI ib) (aN sp) (N so) (aN al) (aN br) (aN tr) (N at_) (bI iw) ha se o)) (h' := (MP X c S bf kn kp ik od (upn bu le k) le 0 mk ol tu ib sp so al br tr at_ iw ha se o)) rfl ⟨(N_in (by omega) (by decide)), trivial⟩ (congrArg (fun zq9 => (GP X c (aN S) (aN bf) (N kn) (aN kp) (bI ik) (aN od) zq9 (N le) (N 0) (aN mk) (aN ol) (N tu) (bI ib) (aN sp) (N so) (aN al) (aN br) (aN tr) (N at_) (bI iw) ha se o)) ((aN_up (by omega)))) ?_
  refine Runs.topI 5 (cs := []) (pc' := 54) (pl' := [some (.ref 23), some (.int (N k))]) (v := (N le) + (N 1)) (v' := N (le + 1)) (st' := [.ref 23]) (h' := (MP X c S bf kn kp ik od (upn bu le k) le 0 mk ol tu ib sp so al br tr at_ iw ha se o)) rfl trivial (NA (by omega)) ?_
  refine Runs.go 3 (cs := []) (pc' := 61) (pl' := [some (.ref 23), some (.int (N k))]) (st' := [.int (N (le + 1))]) (h' := (MP X c S bf kn kp ik od (upn bu le k) (le + 1) 0 mk ol tu ib sp so al br tr at_ iw ha se o)) rfl trivial ?_
  exact Runs.retE (cs := []) rfl trivial (retI rfl) rfl
theorem k_clearBuffer {X : Nat × (Nat → Int32)} {c : CT} {S bf : Nat → Nat} {kn : Nat} {kp : Nat → Nat} {ik : Bool} {od bu : Nat → Nat} {le th : Nat} {mk ol : Nat → Nat} {tu : Nat} {ib : Bool} {sp : Nat → Nat} {so : Nat} {al br tr : Nat → Nat} {at_ : Nat} {iw : Bool} {ha : Int64} {se : Nat → Int32} {o : Nat → Int64} : Call 0 mX7_clearBuffer [.ref 23] (MP X c S bf kn kp ik od bu le th mk ol tu ib sp so al br tr at_ iw ha se o) (.inl (some (.int (N le)))) (MP X c S bf kn kp ik od bu 0 0 mk ol tu ib sp so al br tr at_ iw ha se o) 0 := by
  refine Runs.go 10 (cs := []) (pc' := 16) (pl' := [some (.ref 23), some (.int (N le))]) (st' := [.int (N le)]) (h' := (MP X c S bf kn kp ik od bu 0 0 mk ol tu ib sp so al br tr at_ iw ha se o)) rfl trivial ?_
  exact Runs.retE (cs := []) rfl trivial (retI rfl) rfl
/-- by what the hint is ruled out -/
def rbN (S f : Nat → Nat) (i p : Nat) : Nat := match fs (rul S f i p) 0 (S 0) with
  | some k => k
  | none => if aloN f i p 4 = true then 12 else 13
theorem rbN_ok {S f : Nat → Nat} {i p : Nat} (h12 : S 0 ≤ 12) (h : rld S f i p = true) : rbI S f i p = N (rbN S f i p) ∧ rbN S f i p < 14 := by
  unfold rbN
  cases e : fs (rul S f i p) 0 (S 0) with
  | some k =>
    have := fs_some.mp e
    exact ⟨rbI_some e, show k < 14 by omega⟩
  | none =>
    by_cases ha : aloN f i p 4 = true
    · show _ = N (if _ then 12 else 13) ∧ (if _ then 12 else 13) < 14
      rw [if_pos ha]
      exact ⟨rbI_alo e ha, by decide⟩
    · show _ = N (if _ then 12 else 13) ∧ (if _ then 12 else 13) < 14
      rw [if_neg ha]
      exact ⟨rbI_own e (bF ha) h, by decide⟩
theorem hn_ok {S : Nat → Nat} {b : Nat} (h : hnO S = some b) : b < 48 ∧ hnB S b = true := by
  have := fs_some.mp h
  exact ⟨by omega, this.2.2.1⟩
theorem hn_not {S : Nat → Nat} {k : Nat} (h : bt (FR S (k / 4)) (k % 4) = false) : hnB S k = false := by
  unfold hnB rld
  rw [h]
  rfl
theorem hn_rb {S : Nat → Nat} {k : Nat} (h : rbI S (FR S) (k / 4) (k % 4) = -1) : hnB S k = false := by
  unfold hnB rld
  rw [h]
  simp
theorem hn_yes {S : Nat → Nat} {k : Nat} (h1 : bt (FR S (k / 4)) (k % 4) = true) (h : ¬ rbI S (FR S) (k / 4) (k % 4) = -1) : hnB S k = true := by
  unfold hnB rld
  rw [h1, decide_eq_false h]
  rfl
theorem bt_and1 {f k : Nat} : f / 2 ^ k % 2 = 1 ↔ bt f k = true := by
  unfold bt
  rw [decide_eq_true_eq]
def hdO (S : Nat → Nat) : Option Nat := (hnO S).map (fun b => 16 * b + rbN S (FR S) (b / 4) (b % 4))
theorem k_hinted {X : Nat × (Nat → Int32)} {c : CT} {S bf : Nat → Nat} {kn : Nat} {kp : Nat → Nat} {ik : Bool} {od bu : Nat → Nat} {le th : Nat} {mk ol : Nat → Nat} {tu : Nat} {ib : Bool} {sp : Nat → Nat} {so : Nat} {al br tr : Nat → Nat} {at_ : Nat} {iw : Bool} {ha : Int64} {se : Nat → Int32} {o : Nat → Int64} (hV : VC S) (hmk : Z12 mk) (hol : Z12 ol) : Call 4 mX7_hinted [.ref 23] (MP X c S bf kn kp ik od bu le th mk ol tu ib sp so al br tr at_ iw ha se o) (.inl (some (.int (optI (hdO S))))) (MP X c S bf kn kp ik od bu le th (FR S) (FR S) tu ib sp so al br tr at_ iw ha se o) 0 := by
  refine Runs.go 1 (cs := []) (pc' := 1) (pl' := [some (.ref 23), none]) (st' := [.ref 23]) (h' := (MP X c S bf kn kp ik od bu le th mk ol tu ib sp so al br tr at_ iw ha se o)) rfl trivial ?_
  have hbg := k_begins (X := X) (c := c) (S := S) (bf := bf) (kn := kn) (kp := kp) (ik := ik) (od := od) (bu := bu) (le := le) (th := th) (mk := mk) (ol := ol) (tu := tu) (ib := ib) (sp := sp) (so := so) (al := al) (br := br) (tr := tr) (at_ := at_) (iw := iw) (ha := ha) (se := se) (o := o) hV.1
  rw [fil_FR hmk, fil_FR hol] at hbg
  refine Runs.cal (y := mX7_begins) (as := [.ref 23]) (rest := []) (pc' := 4) (cs := []) (v := none) (h1 := (MP X c S bf kn kp ik od bu le th (FR S) (FR S) tu ib sp so al br tr at_ iw ha se o)) rfl trivial (by decide) (hbg) ?_
  show Runs _ _ 4 _ [] _ _ _ _
  refine Runs.go 2 (cs := []) (pc' := 6) (pl' := [some (.ref 23), some (.int (N 0))]) (st' := []) (h' := (MP X c S bf kn kp ik od bu le th (FR S) (FR S) tu ib sp so al br tr at_ iw ha se o)) rfl trivial ?_
  refine Runs.wk (pl' := [some (.ref 23), some (.int (N 0))]) (st' := []) (h' := (MP X c S bf kn kp ik od bu le th (FR S) (FR S) tu ib sp so al br tr at_ iw ha se o)) ⟨Or.inr rfl, Or.inr rfl, trivial⟩ rfl rfl ?_
  refine Runs.loopN (fun k => [some (.ref 23), some (.int (N k))]) (fun k => (MP X c S bf kn kp ik od bu le th (FR S) (FR S) tu ib sp so al br tr at_ iw ha se o)) (fun k => hnO S = fs (hnB S) k (48 - k)) 48 rfl (fun k hk I1 K1 => ?_) (fun I1 => ?_)
  · show Runs _ _ 6 [some (.ref 23), some (.int (N k))] [] (MP X c S bf kn kp ik od bu le th (FR S) (FR S) tu ib sp so al br tr at_ iw ha se o) _ _ _
    have hO := FR_16 S
    have hfk := FR_16 S (k / 4) (by omega)
    have hle := Nat.div_le_self (FR S (k / 4)) (2 ^ (k % 4))
    refine Runs.go 3 (cs := []) (pc' := bif decide ((N 48) ≤ (N k)) then 66 else 12) (pl' := [some (.ref 23), some (.int (N k))]) (st' := []) (h' := (MP X c S bf kn kp ik od bu le th (FR S) (FR S) tu ib sp so al br tr at_ iw ha se o)) rfl trivial ?_
    refine Runs.brF (decide_eq_false (fun zq9 => absurd ((N_le (a := 48) (b := k) (by omega) (by omega)).mp zq9) (by omega))) ?_
    refine Runs.topI 5 (cs := [¬ (N 4) = 0]) (pc' := 19) (pl' := [some (.ref 23), some (.int (N k))]) (v := (N k) / (N 4)) (v' := N (k / 4)) (st' := [.ref 30]) (h' := (MP X c S bf kn kp ik od bu le th (FR S) (FR S) tu ib sp so al br tr at_ iw ha se o)) rfl ⟨(by decide), trivial⟩ (N_div (by omega) (by omega)) ?_
    refine Runs.topI 1 (cs := [vp_in (N (k / 4)) 12]) (pc' := 20) (pl' := [some (.ref 23), some (.int (N k))]) (v := aN (FR S) (N (k / 4)).toNatClampNeg) (v' := N ((FR S) (k / 4))) (st' := []) (h' := (MP X c S bf kn kp ik od bu le th (FR S) (FR S) tu ib sp so al br tr at_ iw ha se o)) rfl ⟨(N_in (by omega) (by decide)), trivial⟩ (aN_at (by omega)) ?_
    refine Runs.topI 3 (cs := [¬ (N 4) = 0]) (pc' := 23) (pl' := [some (.ref 23), some (.int (N k))]) (v := (N k) - (N k) / (N 4) * (N 4)) (v' := N (k % 4)) (st' := [.int (N ((FR S) (k / 4)))]) (h' := (MP X c S bf kn kp ik od bu le th (FR S) (FR S) tu ib sp so al br tr at_ iw ha se o)) rfl ⟨(by decide), trivial⟩ (N_rem (by omega) (by omega)) ?_
    refine Runs.topI 1 (cs := []) (pc' := 24) (pl' := [some (.ref 23), some (.int (N k))]) (v := (N ((FR S) (k / 4))) >>> (N (k % 4) &&& 31)) (v' := N (((FR S) (k / 4)) / 2 ^ (k % 4))) (st' := []) (h' := (MP X c S bf kn kp ik od bu le th (FR S) (FR S) tu ib sp so al br tr at_ iw ha se o)) rfl trivial (N_shr (by omega) (by omega)) ?_
    refine Runs.topI 2 (cs := []) (pc' := 26) (pl' := [some (.ref 23), some (.int (N k))]) (v := (N (((FR S) (k / 4)) / 2 ^ (k % 4))) &&& (N 1)) (v' := N ((((FR S) (k / 4)) / 2 ^ (k % 4)) % 2)) (st' := []) (h' := (MP X c S bf kn kp ik od bu le th (FR S) (FR S) tu ib sp so al br tr at_ iw ha se o)) rfl trivial (N_and1 _) ?_
    refine Runs.go 2 (cs := []) (pc' := bif decide (¬ (N ((((FR S) (k / 4)) / 2 ^ (k % 4)) % 2)) = (N 1)) then 60 else 30) (pl' := [some (.ref 23), some (.int (N k))]) (st' := []) (h' := (MP X c S bf kn kp ik od bu le th (FR S) (FR S) tu ib sp so al br tr at_ iw ha se o)) rfl trivial ?_
    refine Runs.br (fun z1 => ?_) (fun z1 => ?_)
    · replace z1 : ¬ (((((FR S) (k / 4)) / 2 ^ (k % 4)) % 2) = 1) := mt (N_eq (a := ((((FR S) (k / 4)) / 2 ^ (k % 4)) % 2)) (b := 1) (by omega) (by omega)).mpr (of_decide_eq_true z1)
      refine Runs.goL 1 (cs := []) (pc' := 63) (pl1 := [some (.ref 23), some (.int (N k + N 1))]) (pl' := [some (.ref 23), some (.int (N (k + 1)))]) (st' := []) (h' := (MP X c S bf kn kp ik od bu le th (FR S) (FR S) tu ib sp so al br tr at_ iw ha se o)) rfl trivial (congrArg (fun zq9 => ([some (.ref 23), some (.int zq9)] : PL)) (NA (by omega))) ?_
      refine Runs.go 1 (cs := []) (pc' := 6) (pl' := [some (.ref 23), some (.int (N (k + 1)))]) (st' := []) (h' := (MP X c S bf kn kp ik od bu le th (FR S) (FR S) tu ib sp so al br tr at_ iw ha se o)) rfl trivial ?_
      exact Runs.wk (pl' := [some (.ref 23), some (.int (N (k + 1)))]) (st' := []) (h' := (MP X c S bf kn kp ik od bu le th (FR S) (FR S) tu ib sp so al br tr at_ iw ha se o)) ⟨Or.inr rfl, Or.inr rfl, trivial⟩ rfl rfl (K1 (I1.trans ((fs_step hk).trans (if_neg (by rw [(hn_not (bF (mt bt_and1.mpr z1)))]; decide)))))
    · replace z1 : ((((FR S) (k / 4)) / 2 ^ (k % 4)) % 2) = 1 := (N_eq (a := ((((FR S) (k / 4)) / 2 ^ (k % 4)) % 2)) (b := 1) (by omega) (by omega)).mp (Classical.not_not.mp (of_decide_eq_false z1))
      refine Runs.topI 4 (cs := [¬ (N 4) = 0]) (pc' := 34) (pl' := [some (.ref 23), some (.int (N k))]) (v := (N k) / (N 4)) (v' := N (k / 4)) (st' := [.ref 23]) (h' := (MP X c S bf kn kp ik od bu le th (FR S) (FR S) tu ib sp so al br tr at_ iw ha se o)) rfl ⟨(by decide), trivial⟩ (N_div (by omega) (by omega)) ?_
      refine Runs.topI 3 (cs := [¬ (N 4) = 0]) (pc' := 37) (pl' := [some (.ref 23), some (.int (N k))]) (v := (N k) - (N k) / (N 4) * (N 4)) (v' := N (k % 4)) (st' := [.int (N (k / 4)), .ref 23]) (h' := (MP X c S bf kn kp ik od bu le th (FR S) (FR S) tu ib sp so al br tr at_ iw ha se o)) rfl ⟨(by decide), trivial⟩ (N_rem (by omega) (by omega)) ?_
      refine Runs.cal (y := mX7_ruledBy) (as := [.ref 23, .int (N (k / 4)), .int (N (k % 4))]) (rest := []) (pc' := 40) (cs := []) (v := some (.int (rbI S (FR S) (k / 4) (k % 4)))) (h1 := (MP X c S bf kn kp ik od bu le th (FR S) (FR S) tu ib sp so al br tr at_ iw ha se o)) rfl trivial (by decide) (k_ruledBy hV (by omega) (by omega) hO) ?_
      show Runs _ _ 40 _ [.int (rbI S (FR S) (k / 4) (k % 4))] _ _ _ _
      refine Runs.go 2 (cs := []) (pc' := bif decide ((rbI S (FR S) (k / 4) (k % 4)) = (-1 : Int32)) then 60 else 44) (pl' := [some (.ref 23), some (.int (N k))]) (st' := []) (h' := (MP X c S bf kn kp ik od bu le th (FR S) (FR S) tu ib sp so al br tr at_ iw ha se o)) rfl trivial ?_
      refine Runs.br (fun z2 => ?_) (fun z2 => ?_)
      · replace z2 : (rbI S (FR S) (k / 4) (k % 4)) = (-1 : Int32) := Iff.rfl.mp (of_decide_eq_true z2)
        refine Runs.goL 1 (cs := []) (pc' := 63) (pl1 := [some (.ref 23), some (.int (N k + N 1))]) (pl' := [some (.ref 23), some (.int (N (k + 1)))]) (st' := []) (h' := (MP X c S bf kn kp ik od bu le th (FR S) (FR S) tu ib sp so al br tr at_ iw ha se o)) rfl trivial (congrArg (fun zq9 => ([some (.ref 23), some (.int zq9)] : PL)) (NA (by omega))) ?_
        refine Runs.go 1 (cs := []) (pc' := 6) (pl' := [some (.ref 23), some (.int (N (k + 1)))]) (st' := []) (h' := (MP X c S bf kn kp ik od bu le th (FR S) (FR S) tu ib sp so al br tr at_ iw ha se o)) rfl trivial ?_
        exact Runs.wk (pl' := [some (.ref 23), some (.int (N (k + 1)))]) (st' := []) (h' := (MP X c S bf kn kp ik od bu le th (FR S) (FR S) tu ib sp so al br tr at_ iw ha se o)) ⟨Or.inr rfl, Or.inr rfl, trivial⟩ rfl rfl (K1 (I1.trans ((fs_step hk).trans (if_neg (by rw [(hn_rb z2)]; decide)))))
      · replace z2 : ¬ ((rbI S (FR S) (k / 4) (k % 4)) = (-1 : Int32)) := mt Iff.rfl.mpr (of_decide_eq_false z2)
        refine Runs.topI 3 (cs := []) (pc' := 48) (pl' := [some (.ref 23), some (.int (N k))]) (v := (N 16) * (N k)) (v' := N (16 * k)) (st' := []) (h' := (MP X c S bf kn kp ik od bu le th (FR S) (FR S) tu ib sp so al br tr at_ iw ha se o)) rfl trivial (NM (by omega)) ?_
        refine Runs.topI 4 (cs := [¬ (N 4) = 0]) (pc' := 52) (pl' := [some (.ref 23), some (.int (N k))]) (v := (N k) / (N 4)) (v' := N (k / 4)) (st' := [.ref 23, .int (N (16 * k))]) (h' := (MP X c S bf kn kp ik od bu le th (FR S) (FR S) tu ib sp so al br tr at_ iw ha se o)) rfl ⟨(by decide), trivial⟩ (N_div (by omega) (by omega)) ?_
        refine Runs.topI 3 (cs := [¬ (N 4) = 0]) (pc' := 55) (pl' := [some (.ref 23), some (.int (N k))]) (v := (N k) - (N k) / (N 4) * (N 4)) (v' := N (k % 4)) (st' := [.int (N (k / 4)), .ref 23, .int (N (16 * k))]) (h' := (MP X c S bf kn kp ik od bu le th (FR S) (FR S) tu ib sp so al br tr at_ iw ha se o)) rfl ⟨(by decide), trivial⟩ (N_rem (by omega) (by omega)) ?_
        refine Runs.cal (y := mX7_ruledBy) (as := [.ref 23, .int (N (k / 4)), .int (N (k % 4))]) (rest := [.int (N (16 * k))]) (pc' := 58) (cs := []) (v := some (.int (rbI S (FR S) (k / 4) (k % 4)))) (h1 := (MP X c S bf kn kp ik od bu le th (FR S) (FR S) tu ib sp so al br tr at_ iw ha se o)) rfl trivial (by decide) (k_ruledBy hV (by omega) (by omega) hO) ?_
        show Runs _ _ 58 _ [.int (rbI S (FR S) (k / 4) (k % 4)), .int (N (16 * k))] _ _ _ _
        refine Runs.topI 1 (cs := []) (pc' := 59) (pl' := [some (.ref 23), some (.int (N k))]) (v := (N (16 * k)) + (rbI S (FR S) (k / 4) (k % 4))) (v' := N (16 * k) + (rbI S (FR S) (k / 4) (k % 4))) (st' := []) (h' := (MP X c S bf kn kp ik od bu le th (FR S) (FR S) tu ib sp so al br tr at_ iw ha se o)) rfl trivial rfl ?_
        have hh := hn_yes (bt_and1.mp z1) z2
        have hq : hnO S = some k := I1.trans ((fs_step hk).trans (if_pos hh))
        refine Runs.retE (cs := []) rfl trivial (retI ?_) rfl
        rw [hdO, hq, (rbN_ok hV.2.1 hh).1, N_add]; rfl
  · show Runs _ _ 6 _ [] _ _ _ _
    show Runs _ _ 6 [some (.ref 23), some (.int (N 48))] [] (MP X c S bf kn kp ik od bu le th (FR S) (FR S) tu ib sp so al br tr at_ iw ha se o) _ _ _
    refine Runs.go 3 (cs := []) (pc' := bif decide ((N 48) ≤ (N 48)) then 66 else 12) (pl' := [some (.ref 23), some (.int (N 48))]) (st' := []) (h' := (MP X c S bf kn kp ik od bu le th (FR S) (FR S) tu ib sp so al br tr at_ iw ha se o)) rfl trivial ?_
    refine Runs.brT (decide_eq_true (by decide)) ?_
    refine Runs.go 1 (cs := []) (pc' := 67) (pl' := [some (.ref 23), some (.int (N 48))]) (st' := [.int (-1 : Int32)]) (h' := (MP X c S bf kn kp ik od bu le th (FR S) (FR S) tu ib sp so al br tr at_ iw ha se o)) rfl trivial ?_
    exact Runs.retE (cs := []) rfl trivial (retI (by rw [hdO, show hnO S = none from I1.trans fs_end]; rfl)) rfl
def hbI (S : Nat → Nat) : Int32 := match hnO S with
  | some b => rbI S (FR S) (b / 4) (b % 4)
  | none => -1
theorem N_nm9 {k : Nat} (hk : k < 10000) : ¬ N k = (-1 : Int32) := by
  intro z
  have h := congrArg Int32.toInt z
  rw [N_toInt (by omega)] at h
  have : (-1 : Int32).toInt = -1 := by decide
  omega
theorem k_hint_ {X : Nat} : True := trivial
theorem k_hintN {X : Nat × (Nat → Int32)} {c : CT} {S bf : Nat → Nat} {kn : Nat} {kp : Nat → Nat} {ik : Bool} {od bu : Nat → Nat} {le th : Nat} {mk ol : Nat → Nat} {tu : Nat} {ib : Bool} {sp : Nat → Nat} {so : Nat} {al br tr : Nat → Nat} {at_ : Nat} {iw : Bool} {ha : Int64} {se : Nat → Int32} {o : Nat → Int64} (hV : VC S) (hmk : Z12 mk) (hol : Z12 ol) (hn : hnO S = none) : Call 5 mX7_hint [.ref 23] (MP X c S bf kn kp ik od bu le th mk ol tu ib sp so al br tr at_ iw ha se o) (.inl (some (.int (optI (hnO S))))) (MP X c S bf kn kp ik od bu le 0 (FR S) (FR S) tu ib sp so al br tr at_ iw ha se o) 0 := by
  refine Runs.go 4 (cs := []) (pc' := 6) (pl' := [some (.ref 23), none]) (st' := [.ref 23]) (h' := (MP X c S bf kn kp ik od bu le 0 mk ol tu ib sp so al br tr at_ iw ha se o)) rfl trivial ?_
  refine Runs.cal (y := mX7_hinted) (as := [.ref 23]) (rest := []) (pc' := 9) (cs := []) (v := some (.int (optI (hdO S)))) (h1 := (MP X c S bf kn kp ik od bu le 0 (FR S) (FR S) tu ib sp so al br tr at_ iw ha se o)) rfl trivial (by decide) (k_hinted hV hmk hol) ?_
  show Runs _ _ 9 _ [.int (optI (hdO S))] _ _ _ _
  rw [show optI (hdO S) = (-1 : Int32) by rw [hdO, hn]; rfl]
  refine Runs.go 4 (cs := []) (pc' := bif decide (¬ (-1 : Int32) = (-1 : Int32)) then 19 else 15) (pl' := [some (.ref 23), some (.int (-1 : Int32))]) (st' := []) (h' := (MP X c S bf kn kp ik od bu le 0 (FR S) (FR S) tu ib sp so al br tr at_ iw ha se o)) rfl trivial ?_
  refine Runs.brF (decide_eq_false (by decide)) ?_
  refine Runs.go 2 (cs := []) (pc' := 23) (pl' := [some (.ref 23), some (.int (-1 : Int32))]) (st' := [.int (-1 : Int32)]) (h' := (MP X c S bf kn kp ik od bu le 0 (FR S) (FR S) tu ib sp so al br tr at_ iw ha se o)) rfl trivial ?_
  refine Runs.retE (cs := []) rfl trivial (retI ?_) rfl
  rw [hn]; rfl
theorem k_hintS {X : Nat × (Nat → Int32)} {c : CT} {S bf : Nat → Nat} {kn : Nat} {kp : Nat → Nat} {ik : Bool} {od bu : Nat → Nat} {le th : Nat} {mk ol : Nat → Nat} {tu : Nat} {ib : Bool} {sp : Nat → Nat} {so : Nat} {al br tr : Nat → Nat} {at_ : Nat} {iw : Bool} {ha : Int64} {se : Nat → Int32} {o : Nat → Int64} {b : Nat} (hV : VC S) (hmk : Z12 mk) (hol : Z12 ol) (hn : hnO S = some b) : Call 5 mX7_hint [.ref 23] (MP X c S bf kn kp ik od bu le th mk ol tu ib sp so al br tr at_ iw ha se o) (.inl (some (.int (optI (hnO S))))) (MP X c S bf kn kp ik od bu le 0 (FR S) (FR S) tu ib sp so al br tr at_ iw ha se o) 0 := by
  obtain ⟨hb, hh⟩ := hn_ok hn
  obtain ⟨w, hw⟩ : ∃ w, w = rbN S (FR S) (b / 4) (b % 4) := ⟨_, rfl⟩
  have hw14 := (rbN_ok hV.2.1 hh).2
  rw [← hw] at hw14
  refine Runs.go 4 (cs := []) (pc' := 6) (pl' := [some (.ref 23), none]) (st' := [.ref 23]) (h' := (MP X c S bf kn kp ik od bu le 0 mk ol tu ib sp so al br tr at_ iw ha se o)) rfl trivial ?_
  refine Runs.cal (y := mX7_hinted) (as := [.ref 23]) (rest := []) (pc' := 9) (cs := []) (v := some (.int (optI (hdO S)))) (h1 := (MP X c S bf kn kp ik od bu le 0 (FR S) (FR S) tu ib sp so al br tr at_ iw ha se o)) rfl trivial (by decide) (k_hinted hV hmk hol) ?_
  show Runs _ _ 9 _ [.int (optI (hdO S))] _ _ _ _
  rw [show optI (hdO S) = N (16 * b + w) by rw [hdO, hn, hw]; rfl]
  refine Runs.go 4 (cs := []) (pc' := bif decide (¬ (N (16 * b + w)) = (-1 : Int32)) then 19 else 15) (pl' := [some (.ref 23), some (.int (N (16 * b + w)))]) (st' := []) (h' := (MP X c S bf kn kp ik od bu le 0 (FR S) (FR S) tu ib sp so al br tr at_ iw ha se o)) rfl trivial ?_
  refine Runs.brT (decide_eq_true (fun zq9 => absurd (Iff.rfl.mp zq9) (N_nm9 (by omega)))) ?_
  refine Runs.topI 3 (cs := [¬ (N 16) = 0]) (pc' := 23) (pl' := [some (.ref 23), some (.int (N (16 * b + w)))]) (v := (N (16 * b + w)) / (N 16)) (v' := N ((16 * b + w) / 16)) (st' := []) (h' := (MP X c S bf kn kp ik od bu le 0 (FR S) (FR S) tu ib sp so al br tr at_ iw ha se o)) rfl ⟨(by decide), trivial⟩ (N_div (by omega) (by omega)) ?_
  refine Runs.retE (cs := []) rfl trivial (retI ?_) rfl
  rw [hn]
  exact congrArg N (by omega)
theorem k_hintByN {X : Nat × (Nat → Int32)} {c : CT} {S bf : Nat → Nat} {kn : Nat} {kp : Nat → Nat} {ik : Bool} {od bu : Nat → Nat} {le th : Nat} {mk ol : Nat → Nat} {tu : Nat} {ib : Bool} {sp : Nat → Nat} {so : Nat} {al br tr : Nat → Nat} {at_ : Nat} {iw : Bool} {ha : Int64} {se : Nat → Int32} {o : Nat → Int64} (hV : VC S) (hmk : Z12 mk) (hol : Z12 ol) (hn : hnO S = none) : Call 5 mX7_hintBy [.ref 23] (MP X c S bf kn kp ik od bu le th mk ol tu ib sp so al br tr at_ iw ha se o) (.inl (some (.int (hbI S)))) (MP X c S bf kn kp ik od bu le 0 (FR S) (FR S) tu ib sp so al br tr at_ iw ha se o) 0 := by
  refine Runs.go 4 (cs := []) (pc' := 6) (pl' := [some (.ref 23), none]) (st' := [.ref 23]) (h' := (MP X c S bf kn kp ik od bu le 0 mk ol tu ib sp so al br tr at_ iw ha se o)) rfl trivial ?_
  refine Runs.cal (y := mX7_hinted) (as := [.ref 23]) (rest := []) (pc' := 9) (cs := []) (v := some (.int (optI (hdO S)))) (h1 := (MP X c S bf kn kp ik od bu le 0 (FR S) (FR S) tu ib sp so al br tr at_ iw ha se o)) rfl trivial (by decide) (k_hinted hV hmk hol) ?_
  show Runs _ _ 9 _ [.int (optI (hdO S))] _ _ _ _
  rw [show optI (hdO S) = (-1 : Int32) by rw [hdO, hn]; rfl]
  refine Runs.go 4 (cs := []) (pc' := bif decide (¬ (-1 : Int32) = (-1 : Int32)) then 19 else 15) (pl' := [some (.ref 23), some (.int (-1 : Int32))]) (st' := []) (h' := (MP X c S bf kn kp ik od bu le 0 (FR S) (FR S) tu ib sp so al br tr at_ iw ha se o)) rfl trivial ?_
  refine Runs.brF (decide_eq_false (by decide)) ?_
  refine Runs.go 2 (cs := []) (pc' := 23) (pl' := [some (.ref 23), some (.int (-1 : Int32))]) (st' := [.int (-1 : Int32)]) (h' := (MP X c S bf kn kp ik od bu le 0 (FR S) (FR S) tu ib sp so al br tr at_ iw ha se o)) rfl trivial ?_
  refine Runs.retE (cs := []) rfl trivial (retI ?_) rfl
  rw [hbI, hn]
theorem k_hintByS {X : Nat × (Nat → Int32)} {c : CT} {S bf : Nat → Nat} {kn : Nat} {kp : Nat → Nat} {ik : Bool} {od bu : Nat → Nat} {le th : Nat} {mk ol : Nat → Nat} {tu : Nat} {ib : Bool} {sp : Nat → Nat} {so : Nat} {al br tr : Nat → Nat} {at_ : Nat} {iw : Bool} {ha : Int64} {se : Nat → Int32} {o : Nat → Int64} {b : Nat} (hV : VC S) (hmk : Z12 mk) (hol : Z12 ol) (hn : hnO S = some b) : Call 5 mX7_hintBy [.ref 23] (MP X c S bf kn kp ik od bu le th mk ol tu ib sp so al br tr at_ iw ha se o) (.inl (some (.int (hbI S)))) (MP X c S bf kn kp ik od bu le 0 (FR S) (FR S) tu ib sp so al br tr at_ iw ha se o) 0 := by
  obtain ⟨hb, hh⟩ := hn_ok hn
  obtain ⟨w, hw⟩ : ∃ w, w = rbN S (FR S) (b / 4) (b % 4) := ⟨_, rfl⟩
  have hw14 := (rbN_ok hV.2.1 hh).2
  rw [← hw] at hw14
  refine Runs.go 4 (cs := []) (pc' := 6) (pl' := [some (.ref 23), none]) (st' := [.ref 23]) (h' := (MP X c S bf kn kp ik od bu le 0 mk ol tu ib sp so al br tr at_ iw ha se o)) rfl trivial ?_
  refine Runs.cal (y := mX7_hinted) (as := [.ref 23]) (rest := []) (pc' := 9) (cs := []) (v := some (.int (optI (hdO S)))) (h1 := (MP X c S bf kn kp ik od bu le 0 (FR S) (FR S) tu ib sp so al br tr at_ iw ha se o)) rfl trivial (by decide) (k_hinted hV hmk hol) ?_
  show Runs _ _ 9 _ [.int (optI (hdO S))] _ _ _ _
  rw [show optI (hdO S) = N (16 * b + w) by rw [hdO, hn, hw]; rfl]
  refine Runs.go 4 (cs := []) (pc' := bif decide (¬ (N (16 * b + w)) = (-1 : Int32)) then 19 else 15) (pl' := [some (.ref 23), some (.int (N (16 * b + w)))]) (st' := []) (h' := (MP X c S bf kn kp ik od bu le 0 (FR S) (FR S) tu ib sp so al br tr at_ iw ha se o)) rfl trivial ?_
  refine Runs.brT (decide_eq_true (fun zq9 => absurd (Iff.rfl.mp zq9) (N_nm9 (by omega)))) ?_
  refine Runs.topI 3 (cs := [¬ (N 16) = 0]) (pc' := 23) (pl' := [some (.ref 23), some (.int (N (16 * b + w)))]) (v := (N (16 * b + w)) - (N (16 * b + w)) / (N 16) * (N 16)) (v' := N ((16 * b + w) % 16)) (st' := []) (h' := (MP X c S bf kn kp ik od bu le 0 (FR S) (FR S) tu ib sp so al br tr at_ iw ha se o)) rfl ⟨(by decide), trivial⟩ (N_rem (by omega) (by omega)) ?_
  refine Runs.retE (cs := []) rfl trivial (retI ?_) rfl
  rw [hbI, hn]
  exact (rbN_ok hV.2.1 hh).1.trans (congrArg N (by omega))
theorem k_hint {X : Nat × (Nat → Int32)} {c : CT} {S bf : Nat → Nat} {kn : Nat} {kp : Nat → Nat} {ik : Bool} {od bu : Nat → Nat} {le th : Nat} {mk ol : Nat → Nat} {tu : Nat} {ib : Bool} {sp : Nat → Nat} {so : Nat} {al br tr : Nat → Nat} {at_ : Nat} {iw : Bool} {ha : Int64} {se : Nat → Int32} {o : Nat → Int64} (hV : VC S) (hmk : Z12 mk) (hol : Z12 ol) : Call 5 mX7_hint [.ref 23] (MP X c S bf kn kp ik od bu le th mk ol tu ib sp so al br tr at_ iw ha se o) (.inl (some (.int (optI (hnO S))))) (MP X c S bf kn kp ik od bu le 0 (FR S) (FR S) tu ib sp so al br tr at_ iw ha se o) 0 := by
  cases hn : hnO S with
  | none =>
    have := k_hintN (X := X) (c := c) (bf := bf) (kn := kn) (kp := kp) (ik := ik) (od := od) (bu := bu) (le := le) (th := th) (tu := tu) (ib := ib) (sp := sp) (so := so) (al := al) (br := br) (tr := tr) (at_ := at_) (iw := iw) (ha := ha) (se := se) (o := o) hV hmk hol hn
    rw [hn] at this
    exact this
  | some b =>
    have := k_hintS (X := X) (c := c) (bf := bf) (kn := kn) (kp := kp) (ik := ik) (od := od) (bu := bu) (le := le) (th := th) (tu := tu) (ib := ib) (sp := sp) (so := so) (al := al) (br := br) (tr := tr) (at_ := at_) (iw := iw) (ha := ha) (se := se) (o := o) hV hmk hol hn
    rw [hn] at this
    exact this
theorem k_hintBy {X : Nat × (Nat → Int32)} {c : CT} {S bf : Nat → Nat} {kn : Nat} {kp : Nat → Nat} {ik : Bool} {od bu : Nat → Nat} {le th : Nat} {mk ol : Nat → Nat} {tu : Nat} {ib : Bool} {sp : Nat → Nat} {so : Nat} {al br tr : Nat → Nat} {at_ : Nat} {iw : Bool} {ha : Int64} {se : Nat → Int32} {o : Nat → Int64} (hV : VC S) (hmk : Z12 mk) (hol : Z12 ol) : Call 5 mX7_hintBy [.ref 23] (MP X c S bf kn kp ik od bu le th mk ol tu ib sp so al br tr at_ iw ha se o) (.inl (some (.int (hbI S)))) (MP X c S bf kn kp ik od bu le 0 (FR S) (FR S) tu ib sp so al br tr at_ iw ha se o) 0 := by
  cases hn : hnO S with
  | none =>
    have := k_hintByN (X := X) (c := c) (bf := bf) (kn := kn) (kp := kp) (ik := ik) (od := od) (bu := bu) (le := le) (th := th) (tu := tu) (ib := ib) (sp := sp) (so := so) (al := al) (br := br) (tr := tr) (at_ := at_) (iw := iw) (ha := ha) (se := se) (o := o) hV hmk hol hn
    skip
    exact this
  | some b =>
    have := k_hintByS (X := X) (c := c) (bf := bf) (kn := kn) (kp := kp) (ik := ik) (od := od) (bu := bu) (le := le) (th := th) (tu := tu) (ib := ib) (sp := sp) (so := so) (al := al) (br := br) (tr := tr) (at_ := at_) (iw := iw) (ha := ha) (se := se) (o := o) hV hmk hol hn
    skip
    exact this
theorem k_solutions {X : Nat × (Nat → Int32)} {c : CT} {S bf : Nat → Nat} {kn : Nat} {kp : Nat → Nat} {ik : Bool} {od bu : Nat → Nat} {le th : Nat} {mk ol : Nat → Nat} {tu : Nat} {ib : Bool} {sp : Nat → Nat} {so : Nat} {al br tr : Nat → Nat} {at_ : Nat} {iw : Bool} {ha : Int64} {se : Nat → Int32} {o : Nat → Int64} (hV : VC S) (hod : ∀ j, j < 96 → od j < 4) (hal : Z12 al) (hbr : Z12 br) (htr : Z12 tr) (hsp : Z12 sp) : Call 3 mX7_solutions [.ref 23] (MP X c S bf kn kp ik od bu le th mk ol tu ib sp so al br tr at_ iw ha se o) (.inl (some (.int (N (soF S od 13824))))) (MP X c S bf kn kp ik od bu le 0 mk ol tu ib (arr od 13823) (soF S od 13824) (alF S od 13824) (brF S od 13824) (trF S od 13824) at_ iw ha se o) 0 := by
  refine Runs.go 4 (cs := []) (pc' := 6) (pl' := [some (.ref 23)]) (st' := [.ref 23]) (h' := (MP X c S bf kn kp ik od bu le 0 mk ol tu ib sp so al br tr at_ iw ha se o)) rfl trivial ?_
  refine Runs.cal (y := mX7_surveys) (as := [.ref 23]) (rest := []) (pc' := 9) (cs := []) (v := none) (h1 := (MP X c S bf kn kp ik od bu le 0 mk ol tu ib (arr od 13823) (soF S od 13824) (alF S od 13824) (brF S od 13824) (trF S od 13824) at_ iw ha se o)) rfl trivial (by decide) (k_surveys hV hod hal hbr htr hsp) ?_
  show Runs _ _ 9 _ [] _ _ _ _
  refine Runs.go 2 (cs := []) (pc' := 13) (pl' := [some (.ref 23)]) (st' := [.int (N (soF S od 13824))]) (h' := (MP X c S bf kn kp ik od bu le 0 mk ol tu ib (arr od 13823) (soF S od 13824) (alF S od 13824) (brF S od 13824) (trF S od 13824) at_ iw ha se o)) rfl trivial ?_
  exact Runs.retE (cs := []) rfl trivial (retI rfl) rfl
theorem k_solutionsBySearch {X : Nat × (Nat → Int32)} {c : CT} {S bf : Nat → Nat} {kn : Nat} {kp : Nat → Nat} {ik : Bool} {od bu : Nat → Nat} {le th : Nat} {mk ol : Nat → Nat} {tu : Nat} {ib : Bool} {sp : Nat → Nat} {so : Nat} {al br tr : Nat → Nat} {at_ : Nat} {iw : Bool} {ha : Int64} {se : Nat → Int32} {o : Nat → Int64} (hV : VC S) (hod : ∀ j, j < 96 → od j < 4) (hal : Z12 al) (hbr : Z12 br) (htr : Z12 tr) (hsp : Z12 sp) : Call 3 mX7_solutionsBySearch [.ref 23] (MP X c S bf kn kp ik od bu le th mk ol tu ib sp so al br tr at_ iw ha se o) (.inl (some (.int (N (soF S od 13824))))) (MP X c S bf kn kp ik od bu le 0 mk ol tu ib (arr od 13823) (soF S od 13824) (alF S od 13824) (brF S od 13824) (trF S od 13824) at_ iw ha se o) 0 := by
  refine Runs.go 4 (cs := []) (pc' := 6) (pl' := [some (.ref 23)]) (st' := [.ref 23]) (h' := (MP X c S bf kn kp ik od bu le 0 mk ol tu ib sp so al br tr at_ iw ha se o)) rfl trivial ?_
  refine Runs.cal (y := mX7_surveys) (as := [.ref 23]) (rest := []) (pc' := 9) (cs := []) (v := none) (h1 := (MP X c S bf kn kp ik od bu le 0 mk ol tu ib (arr od 13823) (soF S od 13824) (alF S od 13824) (brF S od 13824) (trF S od 13824) at_ iw ha se o)) rfl trivial (by decide) (k_surveys hV hod hal hbr htr hsp) ?_
  show Runs _ _ 9 _ [] _ _ _ _
  refine Runs.go 2 (cs := []) (pc' := 13) (pl' := [some (.ref 23)]) (st' := [.int (N (soF S od 13824))]) (h' := (MP X c S bf kn kp ik od bu le 0 mk ol tu ib (arr od 13823) (soF S od 13824) (alF S od 13824) (brF S od 13824) (trF S od 13824) at_ iw ha se o)) rfl trivial ?_
  exact Runs.retE (cs := []) rfl trivial (retI rfl) rfl
theorem k_placeIn1a {X : Nat × (Nat → Int32)} {c : CT} {S bf : Nat → Nat} {kn : Nat} {kp : Nat → Nat} {ik : Bool} {od bu : Nat → Nat} {le th : Nat} {mk ol : Nat → Nat} {tu : Nat} {ib : Bool} {sp : Nat → Nat} {so : Nat} {al br tr : Nat → Nat} {at_ : Nat} {iw : Bool} {ha : Int64} {se : Nat → Int32} {o : Nat → Int64} {v a : Int32} (hv : v < N 0) : Call 3 mX7_placeIn [.ref 23, .int v, .int a] (MP X c S bf kn kp ik od bu le th mk ol tu ib sp so al br tr at_ iw ha se o) (.inl (some (.int (N 0)))) (MP X c S bf kn kp ik od bu le 1 mk ol tu ib sp so al br tr at_ iw ha se o) 0 := by
  refine Runs.go 5 (cs := []) (pc' := bif decide (v < 0) then 16 else 9) (pl' := [some (.ref 23), some (.int v), some (.int a)]) (st' := []) (h' := (MP X c S bf kn kp ik od bu le 0 mk ol tu ib sp so al br tr at_ iw ha se o)) rfl trivial ?_
  refine Runs.brT (decide_eq_true (Iff.rfl.mpr hv)) ?_
  refine Runs.go 2 (cs := []) (pc' := 18) (pl' := [some (.ref 23), some (.int v), some (.int a)]) (st' := [.int (N 1), .ref 23]) (h' := (MP X c S bf kn kp ik od bu le 0 mk ol tu ib sp so al br tr at_ iw ha se o)) rfl trivial ?_
  refine Runs.cal (y := mX7_throwing) (as := [.ref 23, .int (N 1)]) (rest := []) (pc' := 21) (cs := []) (v := some (.int (N 0))) (h1 := (MP X c S bf kn kp ik od bu le 1 mk ol tu ib sp so al br tr at_ iw ha se o)) rfl trivial (by decide) (k_throwing) ?_
  show Runs _ _ 21 _ [.int (N 0)] _ _ _ _
  exact Runs.retE (cs := []) rfl trivial (retI rfl) rfl
theorem k_placeIn1b {X : Nat × (Nat → Int32)} {c : CT} {S bf : Nat → Nat} {kn : Nat} {kp : Nat → Nat} {ik : Bool} {od bu : Nat → Nat} {le th : Nat} {mk ol : Nat → Nat} {tu : Nat} {ib : Bool} {sp : Nat → Nat} {so : Nat} {al br tr : Nat → Nat} {at_ : Nat} {iw : Bool} {ha : Int64} {se : Nat → Int32} {o : Nat → Int64} {v a : Int32} (hv : N 0 ≤ v) (h : ¬ inB a (N 0) (N 11) = true) : Call 3 mX7_placeIn [.ref 23, .int v, .int a] (MP X c S bf kn kp ik od bu le th mk ol tu ib sp so al br tr at_ iw ha se o) (.inl (some (.int (N 0)))) (MP X c S bf kn kp ik od bu le 1 mk ol tu ib sp so al br tr at_ iw ha se o) 0 := by
  refine Runs.go 5 (cs := []) (pc' := bif decide (v < 0) then 16 else 9) (pl' := [some (.ref 23), some (.int v), some (.int a)]) (st' := []) (h' := (MP X c S bf kn kp ik od bu le 0 mk ol tu ib sp so al br tr at_ iw ha se o)) rfl trivial ?_
  refine Runs.brF (decide_eq_false (fun zq9 => absurd (Iff.rfl.mp zq9) (Int32.not_lt.mpr hv))) ?_
  refine Runs.go 1 (cs := []) (pc' := 10) (pl' := [some (.ref 23), some (.int v), some (.int a)]) (st' := [.int a]) (h' := (MP X c S bf kn kp ik od bu le 0 mk ol tu ib sp so al br tr at_ iw ha se o)) rfl trivial ?_
  refine Runs.cal (y := mX7_isItem) (as := [.int a]) (rest := []) (pc' := 13) (cs := []) (v := some (.int (bI (inB a (N 0) (N 11))))) (h1 := (MP X c S bf kn kp ik od bu le 0 mk ol tu ib sp so al br tr at_ iw ha se o)) rfl trivial (by decide) (k_isItem) ?_
  show Runs _ _ 13 _ [.int (bI (inB a (N 0) (N 11)))] _ _ _ _
  refine Runs.go 1 (cs := []) (pc' := bif decide (¬ (bI (inB a (N 0) (N 11))) = 0) then 22 else 16) (pl' := [some (.ref 23), some (.int v), some (.int a)]) (st' := []) (h' := (MP X c S bf kn kp ik od bu le 0 mk ol tu ib sp so al br tr at_ iw ha se o)) rfl trivial ?_
  refine Runs.brF (decide_eq_false (not_not_intro ((bI_0 _).mpr (bF h)))) ?_
  refine Runs.go 2 (cs := []) (pc' := 18) (pl' := [some (.ref 23), some (.int v), some (.int a)]) (st' := [.int (N 1), .ref 23]) (h' := (MP X c S bf kn kp ik od bu le 0 mk ol tu ib sp so al br tr at_ iw ha se o)) rfl trivial ?_
  refine Runs.cal (y := mX7_throwing) (as := [.ref 23, .int (N 1)]) (rest := []) (pc' := 21) (cs := []) (v := some (.int (N 0))) (h1 := (MP X c S bf kn kp ik od bu le 1 mk ol tu ib sp so al br tr at_ iw ha se o)) rfl trivial (by decide) (k_throwing) ?_
  show Runs _ _ 21 _ [.int (N 0)] _ _ _ _
  exact Runs.retE (cs := []) rfl trivial (retI rfl) rfl
theorem k_placeInS {X : Nat × (Nat → Int32)} {c : CT} {S bf : Nat → Nat} {kn : Nat} {kp : Nat → Nat} {ik : Bool} {od bu : Nat → Nat} {le th : Nat} {mk ol : Nat → Nat} {tu : Nat} {ib : Bool} {sp : Nat → Nat} {so : Nat} {al br tr : Nat → Nat} {at_ : Nat} {iw : Bool} {ha : Int64} {se : Nat → Int32} {o : Nat → Int64} {r x n : Nat} (hr : r < 2147483648) (hx : x ≤ 11) (hV : VC S) (hod : ∀ j, j < 96 → od j < 4) (hsp : Z12 sp) (hq : fdO S od r = some n) : Call 3 mX7_placeIn [.ref 23, .int (N r), .int (N x)] (MP X c S bf kn kp ik od bu le th mk ol tu ib sp so al br tr at_ iw ha se o) (.inl (some (.int (N (arr od n x))))) (MP X c S bf kn kp ik od bu le 0 mk ol tu ib (fdS S od r) so al br tr at_ iw ha se o) 0 := by
  refine Runs.go 5 (cs := []) (pc' := bif decide ((N r) < 0) then 16 else 9) (pl' := [some (.ref 23), some (.int (N r)), some (.int (N x))]) (st' := []) (h' := (MP X c S bf kn kp ik od bu le 0 mk ol tu ib sp so al br tr at_ iw ha se o)) rfl trivial ?_
  refine Runs.brF (decide_eq_false (fun zq9 => absurd ((N_lt (a := r) (b := 0) (by omega) (by omega)).mp zq9) (by omega))) ?_
  refine Runs.go 1 (cs := []) (pc' := 10) (pl' := [some (.ref 23), some (.int (N r)), some (.int (N x))]) (st' := [.int (N x)]) (h' := (MP X c S bf kn kp ik od bu le 0 mk ol tu ib sp so al br tr at_ iw ha se o)) rfl trivial ?_
  refine Runs.cal (y := mX7_isItem) (as := [.int (N x)]) (rest := []) (pc' := 13) (cs := []) (v := some (.int (bI (inB (N x) (N 0) (N 11))))) (h1 := (MP X c S bf kn kp ik od bu le 0 mk ol tu ib sp so al br tr at_ iw ha se o)) rfl trivial (by decide) (k_isItem) ?_
  show Runs _ _ 13 _ [.int (bI (inB (N x) (N 0) (N 11)))] _ _ _ _
  refine Runs.go 1 (cs := []) (pc' := bif decide (¬ (bI (inB (N x) (N 0) (N 11))) = 0) then 22 else 16) (pl' := [some (.ref 23), some (.int (N r)), some (.int (N x))]) (st' := []) (h' := (MP X c S bf kn kp ik od bu le 0 mk ol tu ib sp so al br tr at_ iw ha se o)) rfl trivial ?_
  refine Runs.brT (decide_eq_true (fun zq9 => absurd ((bI_0 _).mp zq9) (nT (ok11 hx)))) ?_
  refine Runs.go 2 (cs := []) (pc' := 24) (pl' := [some (.ref 23), some (.int (N r)), some (.int (N x))]) (st' := [.int (N r), .ref 23]) (h' := (MP X c S bf kn kp ik od bu le 0 mk ol tu ib sp so al br tr at_ iw ha se o)) rfl trivial ?_
  refine Runs.cal (y := mX7_finds) (as := [.ref 23, .int (N r)]) (rest := []) (pc' := 27) (cs := []) (v := some (.int (bI ((fdO S od r).isSome)))) (h1 := (MP X c S bf kn kp ik od bu le 0 mk ol tu ib (fdS S od r) so al br tr at_ iw ha se o)) rfl trivial (by decide) (k_finds (by omega) hV hod hsp) ?_
  show Runs _ _ 27 _ [.int (bI ((fdO S od r).isSome))] _ _ _ _
  refine Runs.go 1 (cs := []) (pc' := bif decide ((bI ((fdO S od r).isSome)) = 0) then 39 else 30) (pl' := [some (.ref 23), some (.int (N r)), some (.int (N x))]) (st' := []) (h' := (MP X c S bf kn kp ik od bu le 0 mk ol tu ib (fdS S od r) so al br tr at_ iw ha se o)) rfl trivial ?_
  refine Runs.brF (decide_eq_false (fun zq9 => absurd ((bI_0 _).mp zq9) (by rw [hq]; exact Bool.noConfusion))) ?_
  refine Runs.topI 4 (cs := [vp_in (N x) 12]) (pc' := 36) (pl' := [some (.ref 23), some (.int (N r)), some (.int (N x))]) (v := aN (fdS S od r) (N x).toNatClampNeg) (v' := N (arr od n x)) (st' := []) (h' := (MP X c S bf kn kp ik od bu le 0 mk ol tu ib (fdS S od r) so al br tr at_ iw ha se o)) rfl ⟨(N_in (by omega) (by decide)), trivial⟩ ((aN_at (by omega)).trans (congrArg N (by rw [fdS, hq]))) ?_
  refine Runs.go 1 (cs := []) (pc' := 40) (pl' := [some (.ref 23), some (.int (N r)), some (.int (N x))]) (st' := [.int (N (arr od n x))]) (h' := (MP X c S bf kn kp ik od bu le 0 mk ol tu ib (fdS S od r) so al br tr at_ iw ha se o)) rfl trivial ?_
  exact Runs.retE (cs := []) rfl trivial (retI rfl) rfl
theorem k_placeInN {X : Nat × (Nat → Int32)} {c : CT} {S bf : Nat → Nat} {kn : Nat} {kp : Nat → Nat} {ik : Bool} {od bu : Nat → Nat} {le th : Nat} {mk ol : Nat → Nat} {tu : Nat} {ib : Bool} {sp : Nat → Nat} {so : Nat} {al br tr : Nat → Nat} {at_ : Nat} {iw : Bool} {ha : Int64} {se : Nat → Int32} {o : Nat → Int64} {r x : Nat} (hr : r < 2147483648) (hx : x ≤ 11) (hV : VC S) (hod : ∀ j, j < 96 → od j < 4) (hsp : Z12 sp) (hq : fdO S od r = none) : Call 3 mX7_placeIn [.ref 23, .int (N r), .int (N x)] (MP X c S bf kn kp ik od bu le th mk ol tu ib sp so al br tr at_ iw ha se o) (.inl (some (.int (-1 : Int32)))) (MP X c S bf kn kp ik od bu le 0 mk ol tu ib (fdS S od r) so al br tr at_ iw ha se o) 0 := by
  refine Runs.go 5 (cs := []) (pc' := bif decide ((N r) < 0) then 16 else 9) (pl' := [some (.ref 23), some (.int (N r)), some (.int (N x))]) (st' := []) (h' := (MP X c S bf kn kp ik od bu le 0 mk ol tu ib sp so al br tr at_ iw ha se o)) rfl trivial ?_
  refine Runs.brF (decide_eq_false (fun zq9 => absurd ((N_lt (a := r) (b := 0) (by omega) (by omega)).mp zq9) (by omega))) ?_
  refine Runs.go 1 (cs := []) (pc' := 10) (pl' := [some (.ref 23), some (.int (N r)), some (.int (N x))]) (st' := [.int (N x)]) (h' := (MP X c S bf kn kp ik od bu le 0 mk ol tu ib sp so al br tr at_ iw ha se o)) rfl trivial ?_
  refine Runs.cal (y := mX7_isItem) (as := [.int (N x)]) (rest := []) (pc' := 13) (cs := []) (v := some (.int (bI (inB (N x) (N 0) (N 11))))) (h1 := (MP X c S bf kn kp ik od bu le 0 mk ol tu ib sp so al br tr at_ iw ha se o)) rfl trivial (by decide) (k_isItem) ?_
  show Runs _ _ 13 _ [.int (bI (inB (N x) (N 0) (N 11)))] _ _ _ _
  refine Runs.go 1 (cs := []) (pc' := bif decide (¬ (bI (inB (N x) (N 0) (N 11))) = 0) then 22 else 16) (pl' := [some (.ref 23), some (.int (N r)), some (.int (N x))]) (st' := []) (h' := (MP X c S bf kn kp ik od bu le 0 mk ol tu ib sp so al br tr at_ iw ha se o)) rfl trivial ?_
  refine Runs.brT (decide_eq_true (fun zq9 => absurd ((bI_0 _).mp zq9) (nT (ok11 hx)))) ?_
  refine Runs.go 2 (cs := []) (pc' := 24) (pl' := [some (.ref 23), some (.int (N r)), some (.int (N x))]) (st' := [.int (N r), .ref 23]) (h' := (MP X c S bf kn kp ik od bu le 0 mk ol tu ib sp so al br tr at_ iw ha se o)) rfl trivial ?_
  refine Runs.cal (y := mX7_finds) (as := [.ref 23, .int (N r)]) (rest := []) (pc' := 27) (cs := []) (v := some (.int (bI ((fdO S od r).isSome)))) (h1 := (MP X c S bf kn kp ik od bu le 0 mk ol tu ib (fdS S od r) so al br tr at_ iw ha se o)) rfl trivial (by decide) (k_finds (by omega) hV hod hsp) ?_
  show Runs _ _ 27 _ [.int (bI ((fdO S od r).isSome))] _ _ _ _
  refine Runs.go 1 (cs := []) (pc' := bif decide ((bI ((fdO S od r).isSome)) = 0) then 39 else 30) (pl' := [some (.ref 23), some (.int (N r)), some (.int (N x))]) (st' := []) (h' := (MP X c S bf kn kp ik od bu le 0 mk ol tu ib (fdS S od r) so al br tr at_ iw ha se o)) rfl trivial ?_
  refine Runs.brT (decide_eq_true ((bI_0 _).mpr (by rw [hq]; rfl))) ?_
  refine Runs.go 1 (cs := []) (pc' := 40) (pl' := [some (.ref 23), some (.int (N r)), some (.int (N x))]) (st' := [.int (-1 : Int32)]) (h' := (MP X c S bf kn kp ik od bu le 0 mk ol tu ib (fdS S od r) so al br tr at_ iw ha se o)) rfl trivial ?_
  exact Runs.retE (cs := []) rfl trivial (retI rfl) rfl
theorem k_trulyLeft1 {X : Nat × (Nat → Int32)} {c : CT} {S bf : Nat → Nat} {kn : Nat} {kp : Nat → Nat} {ik : Bool} {od bu : Nat → Nat} {le th : Nat} {mk ol : Nat → Nat} {tu : Nat} {ib : Bool} {sp : Nat → Nat} {so : Nat} {al br tr : Nat → Nat} {at_ : Nat} {iw : Bool} {ha : Int64} {se : Nat → Int32} {o : Nat → Int64} {a : Int32} (h : ¬ inB a (N 0) (N 11) = true) : Call 3 mX7_trulyLeft [.ref 23, .int a] (MP X c S bf kn kp ik od bu le th mk ol tu ib sp so al br tr at_ iw ha se o) (.inl (some (.int (N 0)))) (MP X c S bf kn kp ik od bu le 1 mk ol tu ib sp so al br tr at_ iw ha se o) 0 := by
  refine Runs.go 4 (cs := []) (pc' := 6) (pl' := [some (.ref 23), some (.int a)]) (st' := [.int a]) (h' := (MP X c S bf kn kp ik od bu le 0 mk ol tu ib sp so al br tr at_ iw ha se o)) rfl trivial ?_
  refine Runs.cal (y := mX7_isItem) (as := [.int a]) (rest := []) (pc' := 9) (cs := []) (v := some (.int (bI (inB a (N 0) (N 11))))) (h1 := (MP X c S bf kn kp ik od bu le 0 mk ol tu ib sp so al br tr at_ iw ha se o)) rfl trivial (by decide) (k_isItem) ?_
  show Runs _ _ 9 _ [.int (bI (inB a (N 0) (N 11)))] _ _ _ _
  refine Runs.go 1 (cs := []) (pc' := bif decide (¬ (bI (inB a (N 0) (N 11))) = 0) then 18 else 12) (pl' := [some (.ref 23), some (.int a)]) (st' := []) (h' := (MP X c S bf kn kp ik od bu le 0 mk ol tu ib sp so al br tr at_ iw ha se o)) rfl trivial ?_
  refine Runs.brF (decide_eq_false (not_not_intro ((bI_0 _).mpr (bF h)))) ?_
  refine Runs.go 2 (cs := []) (pc' := 14) (pl' := [some (.ref 23), some (.int a)]) (st' := [.int (N 1), .ref 23]) (h' := (MP X c S bf kn kp ik od bu le 0 mk ol tu ib sp so al br tr at_ iw ha se o)) rfl trivial ?_
  refine Runs.cal (y := mX7_throwing) (as := [.ref 23, .int (N 1)]) (rest := []) (pc' := 17) (cs := []) (v := some (.int (N 0))) (h1 := (MP X c S bf kn kp ik od bu le 1 mk ol tu ib sp so al br tr at_ iw ha se o)) rfl trivial (by decide) (k_throwing) ?_
  show Runs _ _ 17 _ [.int (N 0)] _ _ _ _
  exact Runs.retE (cs := []) rfl trivial (retI rfl) rfl
theorem k_trulyLeft0 {X : Nat × (Nat → Int32)} {c : CT} {S bf : Nat → Nat} {kn : Nat} {kp : Nat → Nat} {ik : Bool} {od bu : Nat → Nat} {le th : Nat} {mk ol : Nat → Nat} {tu : Nat} {ib : Bool} {sp : Nat → Nat} {so : Nat} {al br tr : Nat → Nat} {at_ : Nat} {iw : Bool} {ha : Int64} {se : Nat → Int32} {o : Nat → Int64} {x : Nat} (hx : x ≤ 11) (hV : VC S) (hod : ∀ j, j < 96 → od j < 4) (hal : Z12 al) (hbr : Z12 br) (htr : Z12 tr) (hsp : Z12 sp) : Call 3 mX7_trulyLeft [.ref 23, .int (N x)] (MP X c S bf kn kp ik od bu le th mk ol tu ib sp so al br tr at_ iw ha se o) (.inl (some (.int (N (trF S od 13824 x))))) (MP X c S bf kn kp ik od bu le 0 mk ol tu ib (arr od 13823) (soF S od 13824) (alF S od 13824) (brF S od 13824) (trF S od 13824) at_ iw ha se o) 0 := by
  refine Runs.go 4 (cs := []) (pc' := 6) (pl' := [some (.ref 23), some (.int (N x))]) (st' := [.int (N x)]) (h' := (MP X c S bf kn kp ik od bu le 0 mk ol tu ib sp so al br tr at_ iw ha se o)) rfl trivial ?_
  refine Runs.cal (y := mX7_isItem) (as := [.int (N x)]) (rest := []) (pc' := 9) (cs := []) (v := some (.int (bI (inB (N x) (N 0) (N 11))))) (h1 := (MP X c S bf kn kp ik od bu le 0 mk ol tu ib sp so al br tr at_ iw ha se o)) rfl trivial (by decide) (k_isItem) ?_
  show Runs _ _ 9 _ [.int (bI (inB (N x) (N 0) (N 11)))] _ _ _ _
  refine Runs.go 1 (cs := []) (pc' := bif decide (¬ (bI (inB (N x) (N 0) (N 11))) = 0) then 18 else 12) (pl' := [some (.ref 23), some (.int (N x))]) (st' := []) (h' := (MP X c S bf kn kp ik od bu le 0 mk ol tu ib sp so al br tr at_ iw ha se o)) rfl trivial ?_
  refine Runs.brT (decide_eq_true (fun zq9 => absurd ((bI_0 _).mp zq9) (nT (ok11 hx)))) ?_
  refine Runs.go 1 (cs := []) (pc' := 19) (pl' := [some (.ref 23), some (.int (N x))]) (st' := [.ref 23]) (h' := (MP X c S bf kn kp ik od bu le 0 mk ol tu ib sp so al br tr at_ iw ha se o)) rfl trivial ?_
  refine Runs.cal (y := mX7_surveys) (as := [.ref 23]) (rest := []) (pc' := 22) (cs := []) (v := none) (h1 := (MP X c S bf kn kp ik od bu le 0 mk ol tu ib (arr od 13823) (soF S od 13824) (alF S od 13824) (brF S od 13824) (trF S od 13824) at_ iw ha se o)) rfl trivial (by decide) (k_surveys hV hod hal hbr htr hsp) ?_
  show Runs _ _ 22 _ [] _ _ _ _
  refine Runs.topI 4 (cs := [vp_in (N x) 12]) (pc' := 28) (pl' := [some (.ref 23), some (.int (N x))]) (v := aN (trF S od 13824) (N x).toNatClampNeg) (v' := N ((trF S od 13824) x)) (st' := []) (h' := (MP X c S bf kn kp ik od bu le 0 mk ol tu ib (arr od 13823) (soF S od 13824) (alF S od 13824) (brF S od 13824) (trF S od 13824) at_ iw ha se o)) rfl ⟨(N_in (by omega) (by decide)), trivial⟩ (aN_at (by omega)) ?_
  exact Runs.retE (cs := []) rfl trivial (retI rfl) rfl
theorem k_barredBy1 {X : Nat × (Nat → Int32)} {c : CT} {S bf : Nat → Nat} {kn : Nat} {kp : Nat → Nat} {ik : Bool} {od bu : Nat → Nat} {le th : Nat} {mk ol : Nat → Nat} {tu : Nat} {ib : Bool} {sp : Nat → Nat} {so : Nat} {al br tr : Nat → Nat} {at_ : Nat} {iw : Bool} {ha : Int64} {se : Nat → Int32} {o : Nat → Int64} {v : Int32} (h : ¬ inB v (N 0) (N (S 0) - N 1) = true) : Call 3 mX7_barredBy [.ref 23, .int v] (MP X c S bf kn kp ik od bu le th mk ol tu ib sp so al br tr at_ iw ha se o) (.inl (some (.int (N 0)))) (MP X c S bf kn kp ik od bu le 1 mk ol tu ib sp so al br tr at_ iw ha se o) 0 := by
  refine Runs.go 5 (cs := []) (pc' := 7) (pl' := [some (.ref 23), some (.int v)]) (st' := [.int v, .ref 23]) (h' := (MP X c S bf kn kp ik od bu le 0 mk ol tu ib sp so al br tr at_ iw ha se o)) rfl trivial ?_
  refine Runs.cal (y := mX7_isClue) (as := [.ref 23, .int v]) (rest := []) (pc' := 10) (cs := []) (v := some (.int (bI (inB v (N 0) (N (S 0) - N 1))))) (h1 := (MP X c S bf kn kp ik od bu le 0 mk ol tu ib sp so al br tr at_ iw ha se o)) rfl trivial (by decide) (k_isClue) ?_
  show Runs _ _ 10 _ [.int (bI (inB v (N 0) (N (S 0) - N 1)))] _ _ _ _
  refine Runs.go 1 (cs := []) (pc' := bif decide (¬ (bI (inB v (N 0) (N (S 0) - N 1))) = 0) then 19 else 13) (pl' := [some (.ref 23), some (.int v)]) (st' := []) (h' := (MP X c S bf kn kp ik od bu le 0 mk ol tu ib sp so al br tr at_ iw ha se o)) rfl trivial ?_
  refine Runs.brF (decide_eq_false (not_not_intro ((bI_0 _).mpr (bF h)))) ?_
  refine Runs.go 2 (cs := []) (pc' := 15) (pl' := [some (.ref 23), some (.int v)]) (st' := [.int (N 1), .ref 23]) (h' := (MP X c S bf kn kp ik od bu le 0 mk ol tu ib sp so al br tr at_ iw ha se o)) rfl trivial ?_
  refine Runs.cal (y := mX7_throwing) (as := [.ref 23, .int (N 1)]) (rest := []) (pc' := 18) (cs := []) (v := some (.int (N 0))) (h1 := (MP X c S bf kn kp ik od bu le 1 mk ol tu ib sp so al br tr at_ iw ha se o)) rfl trivial (by decide) (k_throwing) ?_
  show Runs _ _ 18 _ [.int (N 0)] _ _ _ _
  exact Runs.retE (cs := []) rfl trivial (retI rfl) rfl
theorem k_barredBy0 {X : Nat × (Nat → Int32)} {c : CT} {S bf : Nat → Nat} {kn : Nat} {kp : Nat → Nat} {ik : Bool} {od bu : Nat → Nat} {le th : Nat} {mk ol : Nat → Nat} {tu : Nat} {ib : Bool} {sp : Nat → Nat} {so : Nat} {al br tr : Nat → Nat} {at_ : Nat} {iw : Bool} {ha : Int64} {se : Nat → Int32} {o : Nat → Int64} {k : Nat} (hk : k < S 0) (hV : VC S) (hod : ∀ j, j < 96 → od j < 4) (hal : Z12 al) (hbr : Z12 br) (htr : Z12 tr) (hsp : Z12 sp) : Call 3 mX7_barredBy [.ref 23, .int (N k)] (MP X c S bf kn kp ik od bu le th mk ol tu ib sp so al br tr at_ iw ha se o) (.inl (some (.int (N (brF S od 13824 k))))) (MP X c S bf kn kp ik od bu le 0 mk ol tu ib (arr od 13823) (soF S od 13824) (alF S od 13824) (brF S od 13824) (trF S od 13824) at_ iw ha se o) 0 := by
  have h12 := hV.2.1
  refine Runs.go 5 (cs := []) (pc' := 7) (pl' := [some (.ref 23), some (.int (N k))]) (st' := [.int (N k), .ref 23]) (h' := (MP X c S bf kn kp ik od bu le 0 mk ol tu ib sp so al br tr at_ iw ha se o)) rfl trivial ?_
  refine Runs.cal (y := mX7_isClue) (as := [.ref 23, .int (N k)]) (rest := []) (pc' := 10) (cs := []) (v := some (.int (bI (inB (N k) (N 0) (N (S 0) - N 1))))) (h1 := (MP X c S bf kn kp ik od bu le 0 mk ol tu ib sp so al br tr at_ iw ha se o)) rfl trivial (by decide) (k_isClue) ?_
  show Runs _ _ 10 _ [.int (bI (inB (N k) (N 0) (N (S 0) - N 1)))] _ _ _ _
  refine Runs.go 1 (cs := []) (pc' := bif decide (¬ (bI (inB (N k) (N 0) (N (S 0) - N 1))) = 0) then 19 else 13) (pl' := [some (.ref 23), some (.int (N k))]) (st' := []) (h' := (MP X c S bf kn kp ik od bu le 0 mk ol tu ib sp so al br tr at_ iw ha se o)) rfl trivial ?_
  refine Runs.brT (decide_eq_true (fun zq9 => absurd ((bI_0 _).mp zq9) (nT (okC hk hV.2.1)))) ?_
  refine Runs.go 1 (cs := []) (pc' := 20) (pl' := [some (.ref 23), some (.int (N k))]) (st' := [.ref 23]) (h' := (MP X c S bf kn kp ik od bu le 0 mk ol tu ib sp so al br tr at_ iw ha se o)) rfl trivial ?_
  refine Runs.cal (y := mX7_surveys) (as := [.ref 23]) (rest := []) (pc' := 23) (cs := []) (v := none) (h1 := (MP X c S bf kn kp ik od bu le 0 mk ol tu ib (arr od 13823) (soF S od 13824) (alF S od 13824) (brF S od 13824) (trF S od 13824) at_ iw ha se o)) rfl trivial (by decide) (k_surveys hV hod hal hbr htr hsp) ?_
  show Runs _ _ 23 _ [] _ _ _ _
  refine Runs.topI 4 (cs := [vp_in (N k) 12]) (pc' := 29) (pl' := [some (.ref 23), some (.int (N k))]) (v := aN (brF S od 13824) (N k).toNatClampNeg) (v' := N ((brF S od 13824) k)) (st' := []) (h' := (MP X c S bf kn kp ik od bu le 0 mk ol tu ib (arr od 13823) (soF S od 13824) (alF S od 13824) (brF S od 13824) (trF S od 13824) at_ iw ha se o)) rfl ⟨(N_in (by omega) (by decide)), trivial⟩ (aN_at (by omega)) ?_
  exact Runs.retE (cs := []) rfl trivial (retI rfl) rfl
theorem k_isSpare1 {X : Nat × (Nat → Int32)} {c : CT} {S bf : Nat → Nat} {kn : Nat} {kp : Nat → Nat} {ik : Bool} {od bu : Nat → Nat} {le th : Nat} {mk ol : Nat → Nat} {tu : Nat} {ib : Bool} {sp : Nat → Nat} {so : Nat} {al br tr : Nat → Nat} {at_ : Nat} {iw : Bool} {ha : Int64} {se : Nat → Int32} {o : Nat → Int64} {v : Int32} (h : ¬ inB v (N 0) (N (S 0) - N 1) = true) : Call 3 mX7_isSpare [.ref 23, .int v] (MP X c S bf kn kp ik od bu le th mk ol tu ib sp so al br tr at_ iw ha se o) (.inl (some (.int (bI false)))) (MP X c S bf kn kp ik od bu le 1 mk ol tu ib sp so al br tr at_ iw ha se o) 0 := by
  refine Runs.go 3 (cs := []) (pc' := 3) (pl' := [some (.ref 23), some (.int v)]) (st' := [.int v, .ref 23, .ref 23]) (h' := (MP X c S bf kn kp ik od bu le th mk ol tu ib sp so al br tr at_ iw ha se o)) rfl trivial ?_
  refine Runs.cal (y := mX7_isClue) (as := [.ref 23, .int v]) (rest := [.ref 23]) (pc' := 6) (cs := []) (v := some (.int (bI (inB v (N 0) (N (S 0) - N 1))))) (h1 := (MP X c S bf kn kp ik od bu le th mk ol tu ib sp so al br tr at_ iw ha se o)) rfl trivial (by decide) (k_isClue) ?_
  show Runs _ _ 6 _ [.int (bI (inB v (N 0) (N (S 0) - N 1))), .ref 23] _ _ _ _
  refine Runs.go 1 (cs := []) (pc' := bif decide ((bI (inB v (N 0) (N (S 0) - N 1))) = 0) then 13 else 9) (pl' := [some (.ref 23), some (.int v)]) (st' := [.ref 23]) (h' := (MP X c S bf kn kp ik od bu le th mk ol tu ib sp so al br tr at_ iw ha se o)) rfl trivial ?_
  refine Runs.brT (decide_eq_true ((bI_0 _).mpr (bF h))) ?_
  refine Runs.go 5 (cs := []) (pc' := bif decide ((N 1) ≤ 0) then 26 else 24) (pl' := [some (.ref 23), some (.int v)]) (st' := []) (h' := (MP X c S bf kn kp ik od bu le 1 mk ol tu ib sp so al br tr at_ iw ha se o)) rfl trivial ?_
  refine Runs.brF (decide_eq_false (by decide)) ?_
  refine Runs.go 1 (cs := []) (pc' := 25) (pl' := [some (.ref 23), some (.int v)]) (st' := [.int (N 0)]) (h' := (MP X c S bf kn kp ik od bu le 1 mk ol tu ib sp so al br tr at_ iw ha se o)) rfl trivial ?_
  exact Runs.retE (cs := [(N 0 : Int32) = 0 ∨ (N 0 : Int32) = 1]) rfl ⟨Or.inl rfl, trivial⟩ (retI (bIF rfl)) rfl
theorem alF_le (S od : Nat → Nat) : ∀ n j, alF S od n j ≤ n
  | 0, _ => Nat.le_refl _
  | n + 1, j => by
    have ih := alF_le S od n
    show (if okN S (arr od n) then upn (alF S od n) (laN S (arr od n) (S 0)) (alF S od n (laN S (arr od n) (S 0)) + flN S (arr od n) (S 0)) else alF S od n) j ≤ n + 1
    cases hk : okN S (arr od n) with
    | false =>
      rw [if_neg (by decide)]
      have := ih j
      omega
    | true =>
      rw [if_pos rfl]
      unfold okN at hk
      rw [Bool.and_eq_true, decide_eq_true_eq] at hk
      unfold upn
      split
      · have := ih (laN S (arr od n) (S 0))
        omega
      · have := ih j
        omega
theorem alF_lt (S od : Nat → Nat) (j : Nat) : alF S od 13824 j < 20000 := Nat.lt_of_le_of_lt (alF_le S od 13824 j) (by decide)
theorem soF_le (S od : Nat → Nat) : ∀ n, soF S od n ≤ n
  | 0 => Nat.le_refl _
  | n + 1 => by
    have ih := soF_le S od n
    show (if okN S (arr od n) then soF S od n + (1 - flN S (arr od n) (S 0)) else soF S od n) ≤ n + 1
    split <;> omega
theorem soF_lt (S od : Nat → Nat) : soF S od 13824 < 20000 := Nat.lt_of_le_of_lt (soF_le S od 13824) (by decide)
theorem k_isSpare0 {X : Nat × (Nat → Int32)} {c : CT} {S bf : Nat → Nat} {kn : Nat} {kp : Nat → Nat} {ik : Bool} {od bu : Nat → Nat} {le th : Nat} {mk ol : Nat → Nat} {tu : Nat} {ib : Bool} {sp : Nat → Nat} {so : Nat} {al br tr : Nat → Nat} {at_ : Nat} {iw : Bool} {ha : Int64} {se : Nat → Int32} {o : Nat → Int64} {k : Nat} (hk : k < S 0) (hV : VC S) (hod : ∀ j, j < 96 → od j < 4) (hal : Z12 al) (hbr : Z12 br) (htr : Z12 tr) (hsp : Z12 sp) : Call 3 mX7_isSpare [.ref 23, .int (N k)] (MP X c S bf kn kp ik od bu le th mk ol tu ib sp so al br tr at_ iw ha se o) (.inl (some (.int (bI (decide (alF S od 13824 k = 0)))))) (MP X c S bf kn kp ik od bu le 0 mk ol tu ib (arr od 13823) (soF S od 13824) (alF S od 13824) (brF S od 13824) (trF S od 13824) at_ iw ha se o) 0 := by
  have h12 := hV.2.1
  have hlt := alF_lt S od k
  refine Runs.go 3 (cs := []) (pc' := 3) (pl' := [some (.ref 23), some (.int (N k))]) (st' := [.int (N k), .ref 23, .ref 23]) (h' := (MP X c S bf kn kp ik od bu le th mk ol tu ib sp so al br tr at_ iw ha se o)) rfl trivial ?_
  refine Runs.cal (y := mX7_isClue) (as := [.ref 23, .int (N k)]) (rest := [.ref 23]) (pc' := 6) (cs := []) (v := some (.int (bI (inB (N k) (N 0) (N (S 0) - N 1))))) (h1 := (MP X c S bf kn kp ik od bu le th mk ol tu ib sp so al br tr at_ iw ha se o)) rfl trivial (by decide) (k_isClue) ?_
  show Runs _ _ 6 _ [.int (bI (inB (N k) (N 0) (N (S 0) - N 1))), .ref 23] _ _ _ _
  refine Runs.go 1 (cs := []) (pc' := bif decide ((bI (inB (N k) (N 0) (N (S 0) - N 1))) = 0) then 13 else 9) (pl' := [some (.ref 23), some (.int (N k))]) (st' := [.ref 23]) (h' := (MP X c S bf kn kp ik od bu le th mk ol tu ib sp so al br tr at_ iw ha se o)) rfl trivial ?_
  refine Runs.brF (decide_eq_false (fun zq9 => absurd ((bI_0 _).mp zq9) (nT (okC hk hV.2.1)))) ?_
  refine Runs.go 6 (cs := []) (pc' := bif decide ((N 0) ≤ 0) then 26 else 24) (pl' := [some (.ref 23), some (.int (N k))]) (st' := []) (h' := (MP X c S bf kn kp ik od bu le 0 mk ol tu ib sp so al br tr at_ iw ha se o)) rfl trivial ?_
  refine Runs.brT (decide_eq_true (by decide)) ?_
  refine Runs.go 1 (cs := []) (pc' := 27) (pl' := [some (.ref 23), some (.int (N k))]) (st' := [.ref 23]) (h' := (MP X c S bf kn kp ik od bu le 0 mk ol tu ib sp so al br tr at_ iw ha se o)) rfl trivial ?_
  refine Runs.cal (y := mX7_surveys) (as := [.ref 23]) (rest := []) (pc' := 30) (cs := []) (v := none) (h1 := (MP X c S bf kn kp ik od bu le 0 mk ol tu ib (arr od 13823) (soF S od 13824) (alF S od 13824) (brF S od 13824) (trF S od 13824) at_ iw ha se o)) rfl trivial (by decide) (k_surveys hV hod hal hbr htr hsp) ?_
  show Runs _ _ 30 _ [] _ _ _ _
  refine Runs.topI 4 (cs := [vp_in (N k) 12]) (pc' := 36) (pl' := [some (.ref 23), some (.int (N k))]) (v := aN (alF S od 13824) (N k).toNatClampNeg) (v' := N ((alF S od 13824) k)) (st' := []) (h' := (MP X c S bf kn kp ik od bu le 0 mk ol tu ib (arr od 13823) (soF S od 13824) (alF S od 13824) (brF S od 13824) (trF S od 13824) at_ iw ha se o)) rfl ⟨(N_in (by omega) (by decide)), trivial⟩ (aN_at (by omega)) ?_
  refine Runs.go 1 (cs := []) (pc' := bif decide (¬ (N ((alF S od 13824) k)) = 0) then 43 else 39) (pl' := [some (.ref 23), some (.int (N k))]) (st' := []) (h' := (MP X c S bf kn kp ik od bu le 0 mk ol tu ib (arr od 13823) (soF S od 13824) (alF S od 13824) (brF S od 13824) (trF S od 13824) at_ iw ha se o)) rfl trivial ?_
  refine Runs.br (fun z1 => ?_) (fun z1 => ?_)
  · replace z1 : ¬ ((alF S od 13824) k = 0) := mt (N_eq (a := (alF S od 13824) k) (b := 0) (by omega) (by omega)).mpr (of_decide_eq_true z1)
    refine Runs.go 1 (cs := []) (pc' := 44) (pl' := [some (.ref 23), some (.int (N k))]) (st' := [.int (N 0)]) (h' := (MP X c S bf kn kp ik od bu le 0 mk ol tu ib (arr od 13823) (soF S od 13824) (alF S od 13824) (brF S od 13824) (trF S od 13824) at_ iw ha se o)) rfl trivial ?_
    refine Runs.retE (cs := [(N 0 : Int32) = 0 ∨ (N 0 : Int32) = 1]) rfl ⟨Or.inl rfl, trivial⟩ (retI (bIF ?_)) rfl
    simp [z1]
  · replace z1 : (alF S od 13824) k = 0 := (N_eq (a := (alF S od 13824) k) (b := 0) (by omega) (by omega)).mp (Classical.not_not.mp (of_decide_eq_false z1))
    refine Runs.go 2 (cs := []) (pc' := 44) (pl' := [some (.ref 23), some (.int (N k))]) (st' := [.int (N 1)]) (h' := (MP X c S bf kn kp ik od bu le 0 mk ol tu ib (arr od 13823) (soF S od 13824) (alF S od 13824) (brF S od 13824) (trF S od 13824) at_ iw ha se o)) rfl trivial ?_
    refine Runs.retE (cs := [(N 1 : Int32) = 0 ∨ (N 1 : Int32) = 1]) rfl ⟨Or.inr rfl, trivial⟩ (retI (bIT ?_)) rfl
    simp [z1]
theorem k_culprit {X : Nat × (Nat → Int32)} {c : CT} {S bf : Nat → Nat} {kn : Nat} {kp : Nat → Nat} {ik : Bool} {od bu : Nat → Nat} {le th : Nat} {mk ol : Nat → Nat} {tu : Nat} {ib : Bool} {sp : Nat → Nat} {so : Nat} {al br tr : Nat → Nat} {at_ : Nat} {iw : Bool} {ha : Int64} {se : Nat → Int32} {o : Nat → Int64} (hV : VC S) (hod : ∀ j, j < 96 → od j < 4) (hal : Z12 al) (hbr : Z12 br) (htr : Z12 tr) (hsp : Z12 sp) : Call 3 mX7_culprit [.ref 23] (MP X c S bf kn kp ik od bu le th mk ol tu ib sp so al br tr at_ iw ha se o) (.inl (some (.int (optI (blO (soF S od 13824) S (alF S od 13824)))))) (MP X c S bf kn kp ik od bu le 0 mk ol tu ib (arr od 13823) (soF S od 13824) (alF S od 13824) (brF S od 13824) (trF S od 13824) at_ iw ha se o) 0 := by
  refine Runs.go 4 (cs := []) (pc' := 6) (pl' := [some (.ref 23)]) (st' := [.ref 23]) (h' := (MP X c S bf kn kp ik od bu le 0 mk ol tu ib sp so al br tr at_ iw ha se o)) rfl trivial ?_
  refine Runs.cal (y := mX7_surveys) (as := [.ref 23]) (rest := []) (pc' := 9) (cs := []) (v := none) (h1 := (MP X c S bf kn kp ik od bu le 0 mk ol tu ib (arr od 13823) (soF S od 13824) (alF S od 13824) (brF S od 13824) (trF S od 13824) at_ iw ha se o)) rfl trivial (by decide) (k_surveys hV hod hal hbr htr hsp) ?_
  show Runs _ _ 9 _ [] _ _ _ _
  refine Runs.go 1 (cs := []) (pc' := 10) (pl' := [some (.ref 23)]) (st' := [.ref 23]) (h' := (MP X c S bf kn kp ik od bu le 0 mk ol tu ib (arr od 13823) (soF S od 13824) (alF S od 13824) (brF S od 13824) (trF S od 13824) at_ iw ha se o)) rfl trivial ?_
  refine Runs.cal (y := mX7_blamed) (as := [.ref 23]) (rest := []) (pc' := 13) (cs := []) (v := some (.int (optI (blO (soF S od 13824) S (alF S od 13824))))) (h1 := (MP X c S bf kn kp ik od bu le 0 mk ol tu ib (arr od 13823) (soF S od 13824) (alF S od 13824) (brF S od 13824) (trF S od 13824) at_ iw ha se o)) rfl trivial (by decide) (k_blamed hV.2.1 (fun j _ => alF_lt S od j) (soF_lt S od)) ?_
  show Runs _ _ 13 _ [.int (optI (blO (soF S od 13824) S (alF S od 13824)))] _ _ _ _
  exact Runs.retE (cs := []) rfl trivial (retI rfl) rfl
def plB (ib : Bool) (mk tr : Nat → Nat) : Nat → Bool := itN (fun k b => b && decide (lfA ib mk k = tr k)) true
theorem plB_s (ib : Bool) (mk tr : Nat → Nat) (n : Nat) : plB ib mk tr (n + 1) = (plB ib mk tr n && decide (lfA ib mk n = tr n)) := rfl
theorem k_plain {X : Nat × (Nat → Int32)} {c : CT} {S bf : Nat → Nat} {kn : Nat} {kp : Nat → Nat} {ik : Bool} {od bu : Nat → Nat} {le th : Nat} {mk ol : Nat → Nat} {tu : Nat} {ib : Bool} {sp : Nat → Nat} {so : Nat} {al br tr : Nat → Nat} {at_ : Nat} {iw : Bool} {ha : Int64} {se : Nat → Int32} {o : Nat → Int64} (hM : ∀ j, j < 12 → mk j < 16) (hT : ∀ j, j < 12 → tr j < 16) : Call 2 mX7_plain [.ref 23] (MP X c S bf kn kp ik od bu le th mk ol tu ib sp so al br tr at_ iw ha se o) (.inl (some (.int (bI (plB ib mk tr 12))))) (MP X c S bf kn kp ik od bu le th mk ol tu ib sp so al br tr at_ iw ha se o) 0 := by
  refine Runs.go 4 (cs := []) (pc' := 4) (pl' := [some (.ref 23), some (.int (N 1)), some (.int (N 0))]) (st' := []) (h' := (MP X c S bf kn kp ik od bu le th mk ol tu ib sp so al br tr at_ iw ha se o)) rfl trivial ?_
  refine Runs.wk (pl' := [some (.ref 23), some (.int (bI (plB ib mk tr 0))), some (.int (N 0))]) (st' := []) (h' := (MP X c S bf kn kp ik od bu le th mk ol tu ib sp so al br tr at_ iw ha se o)) ⟨Or.inr rfl, Or.inr (congrArg (fun zq9 => some (Value.int zq9)) rfl), Or.inr rfl, trivial⟩ rfl rfl ?_
  refine Runs.loopN (fun t => [some (.ref 23), some (.int (bI (plB ib mk tr t))), some (.int (N t))]) (fun t => (MP X c S bf kn kp ik od bu le th mk ol tu ib sp so al br tr at_ iw ha se o)) (fun t => True) 12 trivial (fun t ht I1 K1 => ?_) (fun I1 => ?_)
  · show Runs _ _ 4 [some (.ref 23), some (.int (bI (plB ib mk tr t))), some (.int (N t))] [] (MP X c S bf kn kp ik od bu le th mk ol tu ib sp so al br tr at_ iw ha se o) _ _ _
    have q1 := lfA_16 (ib := ib) (hM t ht)
    have q2 := hT t ht
    refine Runs.go 3 (cs := []) (pc' := bif decide ((N 12) ≤ (N t)) then 40 else 10) (pl' := [some (.ref 23), some (.int (bI (plB ib mk tr t))), some (.int (N t))]) (st' := []) (h' := (MP X c S bf kn kp ik od bu le th mk ol tu ib sp so al br tr at_ iw ha se o)) rfl trivial ?_
    refine Runs.brF (decide_eq_false (fun zq9 => absurd ((N_le (a := 12) (b := t) (by omega) (by omega)).mp zq9) (by omega))) ?_
    refine Runs.go 2 (cs := []) (pc' := bif decide ((bI (plB ib mk tr t)) = 0) then 32 else 14) (pl' := [some (.ref 23), some (.int (bI (plB ib mk tr t))), some (.int (N t))]) (st' := []) (h' := (MP X c S bf kn kp ik od bu le th mk ol tu ib sp so al br tr at_ iw ha se o)) rfl trivial ?_
    refine Runs.br (fun z1 => ?_) (fun z1 => ?_)
    · replace z1 : (plB ib mk tr t) = false := (bI_0 _).mp (of_decide_eq_true z1)
      refine Runs.goL 3 (cs := []) (pc' := 37) (pl1 := [some (.ref 23), some (.int (N 0)), some (.int (N t + N 1))]) (pl' := [some (.ref 23), some (.int (N 0)), some (.int (N (t + 1)))]) (st' := []) (h' := (MP X c S bf kn kp ik od bu le th mk ol tu ib sp so al br tr at_ iw ha se o)) rfl trivial (congrArg (fun zq9 => ([some (.ref 23), some (.int (N 0)), some (.int zq9)] : PL)) (NA (by omega))) ?_
      refine Runs.go 1 (cs := []) (pc' := 4) (pl' := [some (.ref 23), some (.int (N 0)), some (.int (N (t + 1)))]) (st' := []) (h' := (MP X c S bf kn kp ik od bu le th mk ol tu ib sp so al br tr at_ iw ha se o)) rfl trivial ?_
      exact Runs.wk (pl' := [some (.ref 23), some (.int (bI (plB ib mk tr (t + 1)))), some (.int (N (t + 1)))]) (st' := []) (h' := (MP X c S bf kn kp ik od bu le th mk ol tu ib sp so al br tr at_ iw ha se o)) ⟨Or.inr rfl, Or.inr (congrArg (fun zq9 => some (Value.int zq9)) ((bIF (by rw [plB_s]; simp [z1])))), Or.inr rfl, trivial⟩ rfl rfl (K1 trivial)
    · replace z1 : ¬ ((plB ib mk tr t) = false) := mt (bI_0 _).mpr (of_decide_eq_false z1)
      refine Runs.go 2 (cs := []) (pc' := 16) (pl' := [some (.ref 23), some (.int (bI (plB ib mk tr t))), some (.int (N t))]) (st' := [.int (N t), .ref 23]) (h' := (MP X c S bf kn kp ik od bu le th mk ol tu ib sp so al br tr at_ iw ha se o)) rfl trivial ?_
      refine Runs.cal (y := mX7_leftOfAll) (as := [.ref 23, .int (N t)]) (rest := []) (pc' := 19) (cs := []) (v := some (.int (N (lfA ib mk t)))) (h1 := (MP X c S bf kn kp ik od bu le th mk ol tu ib sp so al br tr at_ iw ha se o)) rfl trivial (by decide) (k_leftOfAll (by omega)) ?_
      show Runs _ _ 19 _ [.int (N (lfA ib mk t))] _ _ _ _
      refine Runs.topI 4 (cs := [vp_in (N t) 12]) (pc' := 25) (pl' := [some (.ref 23), some (.int (bI (plB ib mk tr t))), some (.int (N t))]) (v := aN tr (N t).toNatClampNeg) (v' := N (tr t)) (st' := [.int (N (lfA ib mk t))]) (h' := (MP X c S bf kn kp ik od bu le th mk ol tu ib sp so al br tr at_ iw ha se o)) rfl ⟨(N_in (by omega) (by decide)), trivial⟩ (aN_at (by omega)) ?_
      refine Runs.go 1 (cs := []) (pc' := bif decide (¬ (N (lfA ib mk t)) = (N (tr t))) then 32 else 28) (pl' := [some (.ref 23), some (.int (bI (plB ib mk tr t))), some (.int (N t))]) (st' := []) (h' := (MP X c S bf kn kp ik od bu le th mk ol tu ib sp so al br tr at_ iw ha se o)) rfl trivial ?_
      refine Runs.br (fun z2 => ?_) (fun z2 => ?_)
      · replace z2 : ¬ (lfA ib mk t = tr t) := mt (N_eq (a := lfA ib mk t) (b := tr t) (by omega) (by omega)).mpr (of_decide_eq_true z2)
        refine Runs.goL 3 (cs := []) (pc' := 37) (pl1 := [some (.ref 23), some (.int (N 0)), some (.int (N t + N 1))]) (pl' := [some (.ref 23), some (.int (N 0)), some (.int (N (t + 1)))]) (st' := []) (h' := (MP X c S bf kn kp ik od bu le th mk ol tu ib sp so al br tr at_ iw ha se o)) rfl trivial (congrArg (fun zq9 => ([some (.ref 23), some (.int (N 0)), some (.int zq9)] : PL)) (NA (by omega))) ?_
        refine Runs.go 1 (cs := []) (pc' := 4) (pl' := [some (.ref 23), some (.int (N 0)), some (.int (N (t + 1)))]) (st' := []) (h' := (MP X c S bf kn kp ik od bu le th mk ol tu ib sp so al br tr at_ iw ha se o)) rfl trivial ?_
        exact Runs.wk (pl' := [some (.ref 23), some (.int (bI (plB ib mk tr (t + 1)))), some (.int (N (t + 1)))]) (st' := []) (h' := (MP X c S bf kn kp ik od bu le th mk ol tu ib sp so al br tr at_ iw ha se o)) ⟨Or.inr rfl, Or.inr (congrArg (fun zq9 => some (Value.int zq9)) ((bIF (by rw [plB_s]; simp [z1, z2])))), Or.inr rfl, trivial⟩ rfl rfl (K1 trivial)
      · replace z2 : lfA ib mk t = tr t := (N_eq (a := lfA ib mk t) (b := tr t) (by omega) (by omega)).mp (Classical.not_not.mp (of_decide_eq_false z2))
        refine Runs.goL 4 (cs := []) (pc' := 37) (pl1 := [some (.ref 23), some (.int (N 1)), some (.int (N t + N 1))]) (pl' := [some (.ref 23), some (.int (N 1)), some (.int (N (t + 1)))]) (st' := []) (h' := (MP X c S bf kn kp ik od bu le th mk ol tu ib sp so al br tr at_ iw ha se o)) rfl trivial (congrArg (fun zq9 => ([some (.ref 23), some (.int (N 1)), some (.int zq9)] : PL)) (NA (by omega))) ?_
        refine Runs.go 1 (cs := []) (pc' := 4) (pl' := [some (.ref 23), some (.int (N 1)), some (.int (N (t + 1)))]) (st' := []) (h' := (MP X c S bf kn kp ik od bu le th mk ol tu ib sp so al br tr at_ iw ha se o)) rfl trivial ?_
        exact Runs.wk (pl' := [some (.ref 23), some (.int (bI (plB ib mk tr (t + 1)))), some (.int (N (t + 1)))]) (st' := []) (h' := (MP X c S bf kn kp ik od bu le th mk ol tu ib sp so al br tr at_ iw ha se o)) ⟨Or.inr rfl, Or.inr (congrArg (fun zq9 => some (Value.int zq9)) ((bIT (by rw [plB_s]; simp [z1, z2])))), Or.inr rfl, trivial⟩ rfl rfl (K1 trivial)
  · show Runs _ _ 4 _ [] _ _ _ _
    show Runs _ _ 4 [some (.ref 23), some (.int (bI (plB ib mk tr 12))), some (.int (N 12))] [] (MP X c S bf kn kp ik od bu le th mk ol tu ib sp so al br tr at_ iw ha se o) _ _ _
    refine Runs.go 3 (cs := []) (pc' := bif decide ((N 12) ≤ (N 12)) then 40 else 10) (pl' := [some (.ref 23), some (.int (bI (plB ib mk tr 12))), some (.int (N 12))]) (st' := []) (h' := (MP X c S bf kn kp ik od bu le th mk ol tu ib sp so al br tr at_ iw ha se o)) rfl trivial ?_
    refine Runs.brT (decide_eq_true (by decide)) ?_
    refine Runs.go 1 (cs := []) (pc' := 41) (pl' := [some (.ref 23), some (.int (bI (plB ib mk tr 12))), some (.int (N 12))]) (st' := [.int (bI (plB ib mk tr 12))]) (h' := (MP X c S bf kn kp ik od bu le th mk ol tu ib sp so al br tr at_ iw ha se o)) rfl trivial ?_
    exact Runs.retE (cs := [(bI (plB ib mk tr 12) : Int32) = 0 ∨ (bI (plB ib mk tr 12) : Int32) = 1]) rfl ⟨(bI_01 _), trivial⟩ (retI rfl) rfl
theorem trF_16 {S od : Nat → Nat} (hod : ∀ j, j < 96 → od j < 4) : ∀ n j, j < 12 → trF S od n j < 16
  | 0, _, _ => by
    show 0 < 16
    decide
  | n + 1, j, hj => by
    show (if okN S (arr od n) && decide (flN S (arr od n) (S 0) = 0) then fil 12 (fun k => trF S od n k ||| 2 ^ arr od n k) (trF S od n) else trF S od n) j < 16
    split
    · rw [fil_lt hj]
      exact or_16 (trF_16 hod n j hj) (p2_lt (arr_4 hod n j hj))
    · exact trF_16 hod n j hj
theorem k_isPlain {X : Nat × (Nat → Int32)} {c : CT} {S bf : Nat → Nat} {kn : Nat} {kp : Nat → Nat} {ik : Bool} {od bu : Nat → Nat} {le th : Nat} {mk ol : Nat → Nat} {tu : Nat} {ib : Bool} {sp : Nat → Nat} {so : Nat} {al br tr : Nat → Nat} {at_ : Nat} {iw : Bool} {ha : Int64} {se : Nat → Int32} {o : Nat → Int64} (hV : VC S) (hod : ∀ j, j < 96 → od j < 4) (hal : Z12 al) (hbr : Z12 br) (htr : Z12 tr) (hsp : Z12 sp) (hmk : Z12 mk) (hol : Z12 ol) : Call 5 mX7_isPlain [.ref 23] (MP X c S bf kn kp ik od bu le th mk ol tu ib sp so al br tr at_ iw ha se o) (.inl (some (.int (bI (plB (bad (PRP S)) (PRP S) (trF S od 13824) 12))))) (MP X c S bf kn kp ik od bu le 0 (PRP S) (PRP S) (TRP S) (bad (PRP S)) (arr od 13823) (soF S od 13824) (alF S od 13824) (brF S od 13824) (trF S od 13824) at_ iw ha se o) 0 := by
  refine Runs.go 4 (cs := []) (pc' := 6) (pl' := [some (.ref 23)]) (st' := [.ref 23]) (h' := (MP X c S bf kn kp ik od bu le 0 mk ol tu ib sp so al br tr at_ iw ha se o)) rfl trivial ?_
  refine Runs.cal (y := mX7_surveys) (as := [.ref 23]) (rest := []) (pc' := 9) (cs := []) (v := none) (h1 := (MP X c S bf kn kp ik od bu le 0 mk ol tu ib (arr od 13823) (soF S od 13824) (alF S od 13824) (brF S od 13824) (trF S od 13824) at_ iw ha se o)) rfl trivial (by decide) (k_surveys hV hod hal hbr htr hsp) ?_
  show Runs _ _ 9 _ [] _ _ _ _
  refine Runs.go 1 (cs := []) (pc' := 10) (pl' := [some (.ref 23)]) (st' := [.ref 23]) (h' := (MP X c S bf kn kp ik od bu le 0 mk ol tu ib (arr od 13823) (soF S od 13824) (alF S od 13824) (brF S od 13824) (trF S od 13824) at_ iw ha se o)) rfl trivial ?_
  refine Runs.cal (y := mX7_propagates) (as := [.ref 23]) (rest := []) (pc' := 13) (cs := []) (v := none) (h1 := (MP X c S bf kn kp ik od bu le 0 (PRP S) (PRP S) (TRP S) (bad (PRP S)) (arr od 13823) (soF S od 13824) (alF S od 13824) (brF S od 13824) (trF S od 13824) at_ iw ha se o)) rfl trivial (by decide) (k_propagates hV hmk hol) ?_
  show Runs _ _ 13 _ [] _ _ _ _
  refine Runs.go 1 (cs := []) (pc' := 14) (pl' := [some (.ref 23)]) (st' := [.ref 23]) (h' := (MP X c S bf kn kp ik od bu le 0 (PRP S) (PRP S) (TRP S) (bad (PRP S)) (arr od 13823) (soF S od 13824) (alF S od 13824) (brF S od 13824) (trF S od 13824) at_ iw ha se o)) rfl trivial ?_
  refine Runs.cal (y := mX7_plain) (as := [.ref 23]) (rest := []) (pc' := 17) (cs := []) (v := some (.int (bI (plB (bad (PRP S)) (PRP S) (trF S od 13824) 12)))) (h1 := (MP X c S bf kn kp ik od bu le 0 (PRP S) (PRP S) (TRP S) (bad (PRP S)) (arr od 13823) (soF S od 13824) (alF S od 13824) (brF S od 13824) (trF S od 13824) at_ iw ha se o)) rfl trivial (by decide) (k_plain (PRP_16 S) (trF_16 hod 13824)) ?_
  show Runs _ _ 17 _ [.int (bI (plB (bad (PRP S)) (PRP S) (trF S od 13824) 12))] _ _ _ _
  exact Runs.retE (cs := [(bI (plB (bad (PRP S)) (PRP S) (trF S od 13824) 12) : Int32) = 0 ∨ (bI (plB (bad (PRP S)) (PRP S) (trF S od 13824) 12) : Int32) = 1]) rfl ⟨(bI_01 _), trivial⟩ (retI rfl) rfl
def mnN (ib : Bool) (mk : Nat → Nat) : Nat → Nat := itN (fun k x => pc4 (lfA ib mk k) + x) 0
theorem mnN_s (ib : Bool) (mk : Nat → Nat) (n : Nat) : mnN ib mk (n + 1) = pc4 (lfA ib mk n) + mnN ib mk n := rfl
theorem mnN_le (ib : Bool) (mk : Nat → Nat) (n : Nat) : mnN ib mk n ≤ 4 * n := by
  induction n with
  | zero => exact Nat.le_refl _
  | succ n ih =>
    have := pc4_le (lfA ib mk n)
    rw [mnN_s]
    omega
theorem k_share {X : Nat × (Nat → Int32)} {c : CT} {S bf : Nat → Nat} {kn : Nat} {kp : Nat → Nat} {ik : Bool} {od bu : Nat → Nat} {le th : Nat} {mk ol : Nat → Nat} {tu : Nat} {ib : Bool} {sp : Nat → Nat} {so : Nat} {al br tr : Nat → Nat} {at_ : Nat} {iw : Bool} {ha : Int64} {se : Nat → Int32} {o : Nat → Int64} (hM : ∀ j, j < 12 → mk j < 16) : Call 3 mX7_share [.ref 23] (MP X c S bf kn kp ik od bu le th mk ol tu ib sp so al br tr at_ iw ha se o) (.inl (some (.double (shrD (fxN ib mk 12))))) (MP X c S bf kn kp ik od bu le th mk ol tu ib sp so al br tr at_ iw ha se o) 0 := by
  refine Runs.go 1 (cs := []) (pc' := 1) (pl' := [some (.ref 23)]) (st' := [.ref 23]) (h' := (MP X c S bf kn kp ik od bu le th mk ol tu ib sp so al br tr at_ iw ha se o)) rfl trivial ?_
  refine Runs.cal (y := mX7_allFixed) (as := [.ref 23]) (rest := []) (pc' := 4) (cs := []) (v := some (.int (N (fxN ib mk 12)))) (h1 := (MP X c S bf kn kp ik od bu le th mk ol tu ib sp so al br tr at_ iw ha se o)) rfl trivial (by decide) (k_allFixed hM) ?_
  show Runs _ _ 4 _ [.int (N (fxN ib mk 12))] _ _ _ _
  refine Runs.go 3 (cs := [vf_n64 (FP.ddiv (FP.i2d (N (fxN ib mk 12))) 4622945017495814144)]) (pc' := 9) (pl' := [some (.ref 23)]) (st' := [.double (FP.ddiv (FP.i2d (N (fxN ib mk 12))) 4622945017495814144)]) (h' := (MP X c S bf kn kp ik od bu le th mk ol tu ib sp so al br tr at_ iw ha se o)) rfl ⟨(shrD_n _ (Nat.lt_succ_of_le (fxN_le ib mk 12))), trivial⟩ ?_
  exact Runs.retE (cs := []) rfl trivial rfl rfl
theorem k_mean {X : Nat × (Nat → Int32)} {c : CT} {S bf : Nat → Nat} {kn : Nat} {kp : Nat → Nat} {ik : Bool} {od bu : Nat → Nat} {le th : Nat} {mk ol : Nat → Nat} {tu : Nat} {ib : Bool} {sp : Nat → Nat} {so : Nat} {al br tr : Nat → Nat} {at_ : Nat} {iw : Bool} {ha : Int64} {se : Nat → Int32} {o : Nat → Int64} (hM : ∀ j, j < 12 → mk j < 16) : Call 3 mX7_mean [.ref 23] (MP X c S bf kn kp ik od bu le th mk ol tu ib sp so al br tr at_ iw ha se o) (.inl (some (.float (menF (mnN ib mk 12))))) (MP X c S bf kn kp ik od bu le th mk ol tu ib sp so al br tr at_ iw ha se o) 0 := by
  refine Runs.go 4 (cs := []) (pc' := 4) (pl' := [some (.ref 23), some (.int (N 0)), some (.int (N 0))]) (st' := []) (h' := (MP X c S bf kn kp ik od bu le th mk ol tu ib sp so al br tr at_ iw ha se o)) rfl trivial ?_
  refine Runs.wk (pl' := [some (.ref 23), some (.int (N (mnN ib mk 0))), some (.int (N 0))]) (st' := []) (h' := (MP X c S bf kn kp ik od bu le th mk ol tu ib sp so al br tr at_ iw ha se o)) ⟨Or.inr rfl, Or.inr rfl, Or.inr rfl, trivial⟩ rfl rfl ?_
  refine Runs.loopN (fun t => [some (.ref 23), some (.int (N (mnN ib mk t))), some (.int (N t))]) (fun t => (MP X c S bf kn kp ik od bu le th mk ol tu ib sp so al br tr at_ iw ha se o)) (fun t => True) 12 trivial (fun t ht I1 K1 => ?_) (fun I1 => ?_)
  · show Runs _ _ 4 [some (.ref 23), some (.int (N (mnN ib mk t))), some (.int (N t))] [] (MP X c S bf kn kp ik od bu le th mk ol tu ib sp so al br tr at_ iw ha se o) _ _ _
    have q1 := lfA_16 (ib := ib) (hM t ht)
    have q2 := mnN_le ib mk t
    have q3 := pc4_le (lfA ib mk t)
    refine Runs.go 3 (cs := []) (pc' := bif decide ((N 12) ≤ (N t)) then 27 else 10) (pl' := [some (.ref 23), some (.int (N (mnN ib mk t))), some (.int (N t))]) (st' := []) (h' := (MP X c S bf kn kp ik od bu le th mk ol tu ib sp so al br tr at_ iw ha se o)) rfl trivial ?_
    refine Runs.brF (decide_eq_false (fun zq9 => absurd ((N_le (a := 12) (b := t) (by omega) (by omega)).mp zq9) (by omega))) ?_
    refine Runs.go 3 (cs := []) (pc' := 13) (pl' := [some (.ref 23), some (.int (N (mnN ib mk t))), some (.int (N t))]) (st' := [.int (N t), .ref 23, .int (N (mnN ib mk t))]) (h' := (MP X c S bf kn kp ik od bu le th mk ol tu ib sp so al br tr at_ iw ha se o)) rfl trivial ?_
    refine Runs.cal (y := mX7_leftOfAll) (as := [.ref 23, .int (N t)]) (rest := [.int (N (mnN ib mk t))]) (pc' := 16) (cs := []) (v := some (.int (N (lfA ib mk t)))) (h1 := (MP X c S bf kn kp ik od bu le th mk ol tu ib sp so al br tr at_ iw ha se o)) rfl trivial (by decide) (k_leftOfAll (by omega)) ?_
    show Runs _ _ 16 _ [.int (N (lfA ib mk t)), .int (N (mnN ib mk t))] _ _ _ _
    refine Runs.cal (y := mX7_bits) (as := [.int (N (lfA ib mk t))]) (rest := [.int (N (mnN ib mk t))]) (pc' := 19) (cs := []) (v := some (.int (N (pc4 (lfA ib mk t))))) (h1 := (MP X c S bf kn kp ik od bu le th mk ol tu ib sp so al br tr at_ iw ha se o)) rfl trivial (by decide) (k_bits (by omega)) ?_
    show Runs _ _ 19 _ [.int (N (pc4 (lfA ib mk t))), .int (N (mnN ib mk t))] _ _ _ _
    refine Runs.topI 1 (cs := []) (pc' := 20) (pl' := [some (.ref 23), some (.int (N (mnN ib mk t))), some (.int (N t))]) (v := (N (mnN ib mk t)) + (N (pc4 (lfA ib mk t)))) (v' := N (mnN ib mk t + pc4 (lfA ib mk t))) (st' := []) (h' := (MP X c S bf kn kp ik od bu le th mk ol tu ib sp so al br tr at_ iw ha se o)) rfl trivial (NA (by omega)) ?_
    refine Runs.goL 2 (cs := []) (pc' := 24) (pl1 := [some (.ref 23), some (.int (N (mnN ib mk t + pc4 (lfA ib mk t)))), some (.int (N t + N 1))]) (pl' := [some (.ref 23), some (.int (N (mnN ib mk t + pc4 (lfA ib mk t)))), some (.int (N (t + 1)))]) (st' := []) (h' := (MP X c S bf kn kp ik od bu le th mk ol tu ib sp so al br tr at_ iw ha se o)) rfl trivial (congrArg (fun zq9 => ([some (.ref 23), some (.int (N (mnN ib mk t + pc4 (lfA ib mk t)))), some (.int zq9)] : PL)) (NA (by omega))) ?_
    refine Runs.go 1 (cs := []) (pc' := 4) (pl' := [some (.ref 23), some (.int (N (mnN ib mk t + pc4 (lfA ib mk t)))), some (.int (N (t + 1)))]) (st' := []) (h' := (MP X c S bf kn kp ik od bu le th mk ol tu ib sp so al br tr at_ iw ha se o)) rfl trivial ?_
    exact Runs.wk (pl' := [some (.ref 23), some (.int (N (mnN ib mk (t + 1)))), some (.int (N (t + 1)))]) (st' := []) (h' := (MP X c S bf kn kp ik od bu le th mk ol tu ib sp so al br tr at_ iw ha se o)) ⟨Or.inr rfl, Or.inr (congrArg (fun zq9 => some (Value.int zq9)) (congrArg N ((mnN_s ib mk t).trans (by omega)))), Or.inr rfl, trivial⟩ rfl rfl (K1 trivial)
  · show Runs _ _ 4 _ [] _ _ _ _
    show Runs _ _ 4 [some (.ref 23), some (.int (N (mnN ib mk 12))), some (.int (N 12))] [] (MP X c S bf kn kp ik od bu le th mk ol tu ib sp so al br tr at_ iw ha se o) _ _ _
    refine Runs.go 3 (cs := []) (pc' := bif decide ((N 12) ≤ (N 12)) then 27 else 10) (pl' := [some (.ref 23), some (.int (N (mnN ib mk 12))), some (.int (N 12))]) (st' := []) (h' := (MP X c S bf kn kp ik od bu le th mk ol tu ib sp so al br tr at_ iw ha se o)) rfl trivial ?_
    refine Runs.brT (decide_eq_true (by decide)) ?_
    refine Runs.go 4 (cs := [vf_n32 (FP.fdiv (FP.i2f (N (mnN ib mk 12))) 1094713344)]) (pc' := 32) (pl' := [some (.ref 23), some (.int (N (mnN ib mk 12))), some (.int (N 12))]) (st' := [.float (FP.fdiv (FP.i2f (N (mnN ib mk 12))) 1094713344)]) (h' := (MP X c S bf kn kp ik od bu le th mk ol tu ib sp so al br tr at_ iw ha se o)) rfl ⟨(menF_n _ (Nat.lt_succ_of_le (mnN_le ib mk 12))), trivial⟩ ?_
    exact Runs.retE (cs := []) rfl trivial rfl rfl
theorem k_fixedShare {X : Nat × (Nat → Int32)} {c : CT} {S bf : Nat → Nat} {kn : Nat} {kp : Nat → Nat} {ik : Bool} {od bu : Nat → Nat} {le th : Nat} {mk ol : Nat → Nat} {tu : Nat} {ib : Bool} {sp : Nat → Nat} {so : Nat} {al br tr : Nat → Nat} {at_ : Nat} {iw : Bool} {ha : Int64} {se : Nat → Int32} {o : Nat → Int64} (hV : VC S) (hmk : Z12 mk) (hol : Z12 ol) : Call 5 mX7_fixedShare [.ref 23] (MP X c S bf kn kp ik od bu le th mk ol tu ib sp so al br tr at_ iw ha se o) (.inl (some (.double (shrD (fxN (bad (PRP S)) (PRP S) 12))))) (MP X c S bf kn kp ik od bu le 0 (PRP S) (PRP S) (TRP S) (bad (PRP S)) sp so al br tr at_ iw ha se o) 0 := by
  refine Runs.go 4 (cs := []) (pc' := 6) (pl' := [some (.ref 23)]) (st' := [.ref 23]) (h' := (MP X c S bf kn kp ik od bu le 0 mk ol tu ib sp so al br tr at_ iw ha se o)) rfl trivial ?_
  refine Runs.cal (y := mX7_propagates) (as := [.ref 23]) (rest := []) (pc' := 9) (cs := []) (v := none) (h1 := (MP X c S bf kn kp ik od bu le 0 (PRP S) (PRP S) (TRP S) (bad (PRP S)) sp so al br tr at_ iw ha se o)) rfl trivial (by decide) (k_propagates hV hmk hol) ?_
  show Runs _ _ 9 _ [] _ _ _ _
  refine Runs.go 1 (cs := []) (pc' := 10) (pl' := [some (.ref 23)]) (st' := [.ref 23]) (h' := (MP X c S bf kn kp ik od bu le 0 (PRP S) (PRP S) (TRP S) (bad (PRP S)) sp so al br tr at_ iw ha se o)) rfl trivial ?_
  refine Runs.cal (y := mX7_share) (as := [.ref 23]) (rest := []) (pc' := 13) (cs := []) (v := some (.double (shrD (fxN (bad (PRP S)) (PRP S) 12)))) (h1 := (MP X c S bf kn kp ik od bu le 0 (PRP S) (PRP S) (TRP S) (bad (PRP S)) sp so al br tr at_ iw ha se o)) rfl trivial (by decide) (k_share (PRP_16 S)) ?_
  show Runs _ _ 13 _ [.double (shrD (fxN (bad (PRP S)) (PRP S) 12))] _ _ _ _
  exact Runs.retE (cs := []) rfl trivial rfl rfl
theorem k_meanLeft {X : Nat × (Nat → Int32)} {c : CT} {S bf : Nat → Nat} {kn : Nat} {kp : Nat → Nat} {ik : Bool} {od bu : Nat → Nat} {le th : Nat} {mk ol : Nat → Nat} {tu : Nat} {ib : Bool} {sp : Nat → Nat} {so : Nat} {al br tr : Nat → Nat} {at_ : Nat} {iw : Bool} {ha : Int64} {se : Nat → Int32} {o : Nat → Int64} (hV : VC S) (hmk : Z12 mk) (hol : Z12 ol) : Call 5 mX7_meanLeft [.ref 23] (MP X c S bf kn kp ik od bu le th mk ol tu ib sp so al br tr at_ iw ha se o) (.inl (some (.float (menF (mnN (bad (PRP S)) (PRP S) 12))))) (MP X c S bf kn kp ik od bu le 0 (PRP S) (PRP S) (TRP S) (bad (PRP S)) sp so al br tr at_ iw ha se o) 0 := by
  refine Runs.go 4 (cs := []) (pc' := 6) (pl' := [some (.ref 23)]) (st' := [.ref 23]) (h' := (MP X c S bf kn kp ik od bu le 0 mk ol tu ib sp so al br tr at_ iw ha se o)) rfl trivial ?_
  refine Runs.cal (y := mX7_propagates) (as := [.ref 23]) (rest := []) (pc' := 9) (cs := []) (v := none) (h1 := (MP X c S bf kn kp ik od bu le 0 (PRP S) (PRP S) (TRP S) (bad (PRP S)) sp so al br tr at_ iw ha se o)) rfl trivial (by decide) (k_propagates hV hmk hol) ?_
  show Runs _ _ 9 _ [] _ _ _ _
  refine Runs.go 1 (cs := []) (pc' := 10) (pl' := [some (.ref 23)]) (st' := [.ref 23]) (h' := (MP X c S bf kn kp ik od bu le 0 (PRP S) (PRP S) (TRP S) (bad (PRP S)) sp so al br tr at_ iw ha se o)) rfl trivial ?_
  refine Runs.cal (y := mX7_mean) (as := [.ref 23]) (rest := []) (pc' := 13) (cs := []) (v := some (.float (menF (mnN (bad (PRP S)) (PRP S) 12)))) (h1 := (MP X c S bf kn kp ik od bu le 0 (PRP S) (PRP S) (TRP S) (bad (PRP S)) sp so al br tr at_ iw ha se o)) rfl trivial (by decide) (k_mean (PRP_16 S)) ?_
  show Runs _ _ 13 _ [.float (menF (mnN (bad (PRP S)) (PRP S) 12))] _ _ _ _
  exact Runs.retE (cs := []) rfl trivial rfl rfl
