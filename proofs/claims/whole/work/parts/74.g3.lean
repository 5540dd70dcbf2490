/-! TEXTS: take of the reference (gen_g3.py) -/
theorem k_partG {X : Nat × (Nat → Int32)} {c : CT} {S bf : Nat → Nat} {kn : Nat} {kp : Nat → Nat} {ik : Bool} {od bu : Nat → Nat} {le th : Nat} {mk ol : Nat → Nat} {tu : Nat} {ib : Bool} {sp : Nat → Nat} {so : Nat} {al br tr : Nat → Nat} {s : Nat} {ha : Int64} {se : Nat → Int32} {o : Nat → Int64} (hV : VC S) (hB : BF bu le) (hgd : gdC bu le s) : Call 3 mX7_part [.ref 23, .int (N 1)] (MP X c S bf kn kp ik od bu le th mk ol tu ib sp so al br tr s false ha se o) (.inl (some (.int (bI (doS bu S s).2)))) (MP X c ((doS bu S s).1) bf kn kp ik od bu le th mk ol tu ib sp so al br tr (plN bu le s + s) false ha se o) 0 := by
  rcases gd_cases hgd with ⟨hpl, hn, h0, i, p, hi, hp, h1, h2⟩ | ⟨hpl, hn, so4, i, j, hso, hi, hj, hne, h0, h1, h2⟩ | ⟨hpl, hn, so4, i, p, hso, hi, hp, h0, h1, h2⟩ | ⟨hpl, hn, i, j, k, hi, hj, hk, hne, hne2, hne3, h0, h1, h2, h3⟩
  · rw [hpl, Nat.add_comm 3 s]
    cases hc : bt (S (i + 49)) p with
    | false =>
      have ed : doS bu S s = (crO S i p, true) := by
        unfold doS
        rw [if_pos h0, h1, h2, Nat.add_sub_cancel_left, Nat.add_sub_cancel_left, hc, if_neg Bool.false_ne_true]
      rw [ed]
      exact k_partX0 hV.1 hB hn hi hp h0 h1 h2 hc
    | true =>
      have ed : doS bu S s = (S, false) := by
        unfold doS
        rw [if_pos h0, h1, h2, Nat.add_sub_cancel_left, Nat.add_sub_cancel_left, hc, if_pos rfl]
      rw [ed]
      exact k_partX1 hV.1 hB hn hi hp h0 h1 h2 hc
  · rcases (show so4 = 0 ∨ so4 = 1 ∨ so4 = 2 ∨ so4 = 3 by omega) with rfl | rfl | rfl | rfl
    · rw [hpl, Nat.add_comm 3 s]
      by_cases h12 : S 0 < 12
      · have ed : doS bu S s = (addS S 0 i j 0, true) := by
          unfold doS
          rw [if_neg (by omega), if_pos h12, h0, h1, h2]
          simp [soN, cdN]
        rw [ed]
        exact k_partS0a hB hn hi hj hne h2 h0 h1 h12
      · have ed : doS bu S s = (S, false) := by
          unfold doS
          rw [if_neg (by omega), if_neg h12]
        rw [ed]
        have e12 := hV.2.1
        exact k_partS0b hB hn hi hj hne h2 h0 h1 (by omega)
    · rw [hpl, Nat.add_comm 3 s]
      by_cases h12 : S 0 < 12
      · have ed : doS bu S s = (addS S 1 i j 0, true) := by
          unfold doS
          rw [if_neg (by omega), if_pos h12, h0, h1, h2]
          simp [soN, cdN]
        rw [ed]
        exact k_partS1a hB hn hi hj hne h2 h0 h1 h12
      · have ed : doS bu S s = (S, false) := by
          unfold doS
          rw [if_neg (by omega), if_neg h12]
        rw [ed]
        have e12 := hV.2.1
        exact k_partS1b hB hn hi hj hne h2 h0 h1 (by omega)
    · rw [hpl, Nat.add_comm 3 s]
      by_cases h12 : S 0 < 12
      · have ed : doS bu S s = (addS S 2 i j 0, true) := by
          unfold doS
          rw [if_neg (by omega), if_pos h12, h0, h1, h2]
          simp [soN, cdN]
        rw [ed]
        exact k_partS2a hB hn hi hj hne h2 h0 h1 h12
      · have ed : doS bu S s = (S, false) := by
          unfold doS
          rw [if_neg (by omega), if_neg h12]
        rw [ed]
        have e12 := hV.2.1
        exact k_partS2b hB hn hi hj hne h2 h0 h1 (by omega)
    · rw [hpl, Nat.add_comm 3 s]
      by_cases h12 : S 0 < 12
      · have ed : doS bu S s = (addS S 3 i j 0, true) := by
          unfold doS
          rw [if_neg (by omega), if_pos h12, h0, h1, h2]
          simp [soN, cdN]
        rw [ed]
        exact k_partS3a hB hn hi hj hne h2 h0 h1 h12
      · have ed : doS bu S s = (S, false) := by
          unfold doS
          rw [if_neg (by omega), if_neg h12]
        rw [ed]
        have e12 := hV.2.1
        exact k_partS3b hB hn hi hj hne h2 h0 h1 (by omega)
  · rcases hso with rfl | rfl
    · rw [hpl, Nat.add_comm 3 s]
      by_cases h12 : S 0 < 12
      · have ed : doS bu S s = (addS S 4 i p 0, true) := by
          unfold doS
          rw [if_neg (by omega), if_pos h12, h0, h1, h2]
          simp [soN, cdN]
        rw [ed]
        exact k_partS4a hB hn hi hp h2 h0 h1 h12
      · have ed : doS bu S s = (S, false) := by
          unfold doS
          rw [if_neg (by omega), if_neg h12]
        rw [ed]
        have e12 := hV.2.1
        exact k_partS4b hB hn hi hp h2 h0 h1 (by omega)
    · rw [hpl, Nat.add_comm 3 s]
      by_cases h12 : S 0 < 12
      · have ed : doS bu S s = (addS S 5 i p 0, true) := by
          unfold doS
          rw [if_neg (by omega), if_pos h12, h0, h1, h2]
          simp [soN, cdN]
        rw [ed]
        exact k_partS5a hB hn hi hp h2 h0 h1 h12
      · have ed : doS bu S s = (S, false) := by
          unfold doS
          rw [if_neg (by omega), if_neg h12]
        rw [ed]
        have e12 := hV.2.1
        exact k_partS5b hB hn hi hp h2 h0 h1 (by omega)
  · rw [hpl, Nat.add_comm 4 s]
    by_cases h12 : S 0 < 12
    · have ed : doS bu S s = (addS S 6 i j k, true) := by
        unfold doS
        rw [if_neg (by omega), if_pos h12, h0, h1, h2, h3]
        simp [soN, cdN]
      rw [ed]
      exact k_partS6a hB hn hi hj hk hne hne2 hne3 h2 h3 h0 h1 h12
    · have ed : doS bu S s = (S, false) := by
        unfold doS
        rw [if_neg (by omega), if_neg h12]
      rw [ed]
      have e12 := hV.2.1
      exact k_partS6b hB hn hi hj hk hne hne2 hne3 h2 h3 h0 h1 (by omega)
/-- a text that is right from s on, of f parts at most -/
def rgT (c : Nat → Nat) (n : Nat) : Nat → Nat → Prop
  | 0, _ => False
  | f + 1, s => gdC c n s ∧ (s + plN c n s = n ∨ (s + plN c n s < n ∧ c (s + plN c n s) = 59 ∧ rgT c n f (s + plN c n s + 1)))
/-- what its parts do, up to the first that can't; how many -/
def tkS (c : Nat → Nat) (n : Nat) : Nat → (Nat → Nat) → Nat → (Nat → Nat) × Nat
  | 0, S, _ => (S, 0)
  | f + 1, S, s => if (doS c S s).2 = true then (if s + plN c n s < n then ((tkS c n f (doS c S s).1 (s + plN c n s + 1)).1, (tkS c n f (doS c S s).1 (s + plN c n s + 1)).2 + 1) else ((doS c S s).1, 1)) else ((doS c S s).1, 0)
theorem rg_go {c : Nat → Nat} {n : Nat} (hB : BF c n) : ∀ (f s : Nat), s ≤ n → n - s < f → (goX c n f (s, false)).2 = false → rgT c n f s
  | 0, _, _, h, _ => absurd h (by omega)
  | f + 1, s, hs, hf, hg => by
    have hp := pl_34 c n s
    rcases prt_cases c n s with ⟨t, ht, hu, hg2, e⟩ | ⟨hu, e⟩
    · have hm : mrx c n (s, false) = false := by
        unfold mrx
        rw [pF_prt hB, e]
        rfl
      have ew : goX c n (f + 1) (s, false) = (s + t, true) := by
        show (if mrx c n (s, false) = true then _ else pFx c n (s, false)) = _
        rw [hm, if_neg (by decide), pF_prt hB, e]
      rw [ew] at hg
      cases hg
    · refine ⟨hu, ?_⟩
      have hlt : s + (plN c n s - 1) < n := (gS_iff.mp (hu _ (by omega))).1
      by_cases he : s + plN c n s = n
      · exact Or.inl he
      · right
        have hm : mrx c n (s, false) = true := by
          unfold mrx
          rw [pF_prt hB, e]
          show (!false && decide (s + plN c n s < n)) = true
          rw [decide_eq_true (by omega)]
          rfl
        have hge : goX c n (f + 1) (s, false) = if (zzx c n (s, false)).2 = true then zzx c n (s, false) else goX c n f (zzx c n (s, false)) := if_pos hm
        have hz : zzx c n (s, false) = if c (s + plN c n s) = 59 then (s + plN c n s + 1, false) else (s + plN c n s, true) := by
          unfold zzx
          rw [pF_prt hB, e, sgx_f, stp_f]
          have : sgS c n (s + plN c n s) = c (s + plN c n s) := if_pos (by omega)
          rw [this]
          by_cases h : c (s + plN c n s) = 59
          · rw [decide_eq_true h, if_pos rfl, if_pos h]
          · rw [decide_eq_false h, if_neg (by decide), if_neg h]
        rw [hge, hz] at hg
        by_cases h : c (s + plN c n s) = 59
        · rw [if_pos h] at hg
          exact ⟨by omega, h, rg_go hB f _ (by omega) (by omega) hg⟩
        · rw [if_neg h] at hg
          cases hg
theorem tkS_le (c : Nat → Nat) (n : Nat) : ∀ (f : Nat) (S : Nat → Nat) (s : Nat), (tkS c n f S s).2 ≤ f
  | 0, _, _ => Nat.le_refl _
  | f + 1, S, s => by
    rw [tkS]
    split
    · split
      · have := tkS_le c n f (doS c S s).1 (s + plN c n s + 1)
        show _ + 1 ≤ f + 1
        omega
      · show 1 ≤ f + 1
        omega
    · exact Nat.zero_le _
theorem doS_VC {c S : Nat → Nat} {n s : Nat} (hV : VC S) (hg : gdC c n s) : VC (doS c S s).1 := by
  rcases gd_cases hg with ⟨-, hn, h0, i, p, hi, hp, h1, h2⟩ | ⟨-, hn, so, i, j, hso, hi, hj, hne, h0, h1, h2⟩ | ⟨-, hn, so, i, p, hso, hi, hp, h0, h1, h2⟩ | ⟨-, hn, i, j, k, hi, hj, hk, hne, hne2, hne3, h0, h1, h2, h3⟩
  · unfold doS
    rw [if_pos h0, h1, h2, Nat.add_sub_cancel_left, Nat.add_sub_cancel_left]
    split
    · exact hV
    · exact crO_VC hV hi hp
  · unfold doS
    rw [if_neg (by omega)]
    split
    next h12 =>
      rcases (show so = 0 ∨ so = 1 ∨ so = 2 ∨ so = 3 by omega) with rfl | rfl | rfl | rfl
      all_goals
        rw [h0, h1, h2, Nat.add_sub_cancel_left]
        exact adS_VC hV h12 (by omega) (by simp [soN, cdN]; omega) (by simp [soN, cdN]) ⟨by simp [soN, cdN], hi, fun z => by simp [soN, cdN] at z, fun _ _ => by simp [soN, cdN]; exact ⟨hj, hne⟩, fun z => by simp [soN, cdN] at z⟩
    next => exact hV
  · unfold doS
    rw [if_neg (by omega)]
    split
    next h12 =>
      rcases hso with rfl | rfl
      all_goals
        rw [h0, h1, h2, Nat.add_sub_cancel_left]
        exact adS_VC hV h12 (by omega) (by simp [soN, cdN]; omega) (by simp [soN, cdN]) ⟨by simp [soN, cdN], hi, fun _ => by simp [soN, cdN]; exact hp, fun z1 z2 => by simp [soN, cdN] at z1 z2, fun z => by simp [soN, cdN] at z⟩
    next => exact hV
  · unfold doS
    rw [if_neg (by omega)]
    split
    next h12 =>
      rw [h0, h1, h2, h3, Nat.add_sub_cancel_left]
      exact adS_VC hV h12 (by omega) (by simp [soN]; omega) (by simp [soN]; omega) ⟨by simp [soN], hi, fun z => by simp [soN] at z, fun _ _ => by simp [soN]; exact ⟨hj, hne⟩, fun _ => by simp [soN]; exact ⟨hk, hne2, hne3⟩⟩
    next => exact hV
theorem k_goT {X : Nat × (Nat → Int32)} {c : CT} {bf : Nat → Nat} {kn : Nat} {kp : Nat → Nat} {ik : Bool} {od bu : Nat → Nat} {le th : Nat} {mk ol : Nat → Nat} {tu : Nat} {ib : Bool} {sp : Nat → Nat} {so : Nat} {al br tr : Nat → Nat} {ha : Int64} {se : Nat → Int32} {o : Nat → Int64} (hB : BF bu le) : ∀ (f : Nat) (S : Nat → Nat) (s k : Nat), VC S → rgT bu le f s → k + f < 200 → ∃ at_, Runs 4 mX7_go 14 [some (.ref 23), some (.int (N 1)), some (.int (N k)), some (.int (N 1))] [] (MP X c S bf kn kp ik od bu le th mk ol tu ib sp so al br tr s false ha se o) (.inl (some (.int (N (k + (tkS bu le f S s).2))))) (MP X c ((tkS bu le f S s).1) bf kn kp ik od bu le th mk ol tu ib sp so al br tr at_ false ha se o) 0 := by
  intro f
  induction f with
  | zero =>
    intro S s k _ h
    exact h.elim
  | succ f ih =>
    intro S s k hV hr0 hk
    obtain ⟨hgd, hend⟩ := hr0
    have hle := hB.1
    have hpl := pl_34 bu le s
    have hlt : s + (plN bu le s - 1) < le := (gS_iff.mp (hgd _ (by omega))).1
    cases hd : (doS bu S s).2 with
    | false =>
      have e : tkS bu le (f + 1) S s = ((doS bu S s).1, 0) := if_neg (by rw [hd]; decide)
      rw [e]
      refine ⟨plN bu le s + s, ?_⟩
      refine Runs.go 2 (cs := []) (pc' := bif decide ((N 1) = 0) then 93 else 18) (pl' := [some (.ref 23), some (.int (N 1)), some (.int (N k)), some (.int (N 1))]) (st' := []) (h' := (MP X c S bf kn kp ik od bu le th mk ol tu ib sp so al br tr s false ha se o)) rfl trivial ?_
      refine Runs.brF (decide_eq_false (by decide)) ?_
      refine Runs.go 2 (cs := []) (pc' := 20) (pl' := [some (.ref 23), some (.int (N 1)), some (.int (N k)), some (.int (N 1))]) (st' := [.int (N 1), .ref 23]) (h' := (MP X c S bf kn kp ik od bu le th mk ol tu ib sp so al br tr s false ha se o)) rfl trivial ?_
      refine Runs.cal (y := mX7_part) (as := [.ref 23, .int (N 1)]) (rest := []) (pc' := 23) (cs := []) (v := some (.int (bI ((doS bu S s).2)))) (h1 := (MP X c ((doS bu S s).1) bf kn kp ik od bu le th mk ol tu ib sp so al br tr (plN bu le s + s) false ha se o)) rfl trivial (by decide) (k_partG hV hB hgd) ?_
      show Runs _ _ 23 _ [.int (bI ((doS bu S s).2))] _ _ _ _
      refine Runs.go 1 (cs := []) (pc' := bif decide (¬ (bI ((doS bu S s).2)) = 0) then 28 else 26) (pl' := [some (.ref 23), some (.int (N 1)), some (.int (N k)), some (.int (N 1))]) (st' := []) (h' := (MP X c ((doS bu S s).1) bf kn kp ik od bu le th mk ol tu ib sp so al br tr (plN bu le s + s) false ha se o)) rfl trivial ?_
      refine Runs.brF (decide_eq_false (not_not_intro ((bI_0 _).mpr hd))) ?_
      refine Runs.go 1 (cs := []) (pc' := 27) (pl' := [some (.ref 23), some (.int (N 1)), some (.int (N k)), some (.int (N 1))]) (st' := [.int (N k)]) (h' := (MP X c ((doS bu S s).1) bf kn kp ik od bu le th mk ol tu ib sp so al br tr (plN bu le s + s) false ha se o)) rfl trivial ?_
      exact Runs.retE (cs := []) rfl trivial rfl rfl
    | true =>
      rcases hend with he | ⟨he, h59, hrest⟩
      · have e : tkS bu le (f + 1) S s = ((doS bu S s).1, 1) := (if_pos hd).trans (if_neg (by omega))
        rw [e]
        refine ⟨plN bu le s + s, ?_⟩
        refine Runs.go 2 (cs := []) (pc' := bif decide ((N 1) = 0) then 93 else 18) (pl' := [some (.ref 23), some (.int (N 1)), some (.int (N k)), some (.int (N 1))]) (st' := []) (h' := (MP X c S bf kn kp ik od bu le th mk ol tu ib sp so al br tr s false ha se o)) rfl trivial ?_
        refine Runs.brF (decide_eq_false (by decide)) ?_
        refine Runs.go 2 (cs := []) (pc' := 20) (pl' := [some (.ref 23), some (.int (N 1)), some (.int (N k)), some (.int (N 1))]) (st' := [.int (N 1), .ref 23]) (h' := (MP X c S bf kn kp ik od bu le th mk ol tu ib sp so al br tr s false ha se o)) rfl trivial ?_
        refine Runs.cal (y := mX7_part) (as := [.ref 23, .int (N 1)]) (rest := []) (pc' := 23) (cs := []) (v := some (.int (bI ((doS bu S s).2)))) (h1 := (MP X c ((doS bu S s).1) bf kn kp ik od bu le th mk ol tu ib sp so al br tr (plN bu le s + s) false ha se o)) rfl trivial (by decide) (k_partG hV hB hgd) ?_
        show Runs _ _ 23 _ [.int (bI ((doS bu S s).2))] _ _ _ _
        refine Runs.go 1 (cs := []) (pc' := bif decide (¬ (bI ((doS bu S s).2)) = 0) then 28 else 26) (pl' := [some (.ref 23), some (.int (N 1)), some (.int (N k)), some (.int (N 1))]) (st' := []) (h' := (MP X c ((doS bu S s).1) bf kn kp ik od bu le th mk ol tu ib sp so al br tr (plN bu le s + s) false ha se o)) rfl trivial ?_
        refine Runs.brT (decide_eq_true (fun zq9 => absurd ((bI_0 _).mp zq9) (nT hd))) ?_
        refine Runs.goL 1 (cs := []) (pc' := 31) (pl1 := [some (.ref 23), some (.int (N 1)), some (.int (N k + N 1)), some (.int (N 1))]) (pl' := [some (.ref 23), some (.int (N 1)), some (.int (N (k + 1))), some (.int (N 1))]) (st' := []) (h' := (MP X c ((doS bu S s).1) bf kn kp ik od bu le th mk ol tu ib sp so al br tr (plN bu le s + s) false ha se o)) rfl trivial (congrArg (fun zq9 => ([some (.ref 23), some (.int (N 1)), some (.int zq9), some (.int (N 1))] : PL)) (NA (by omega))) ?_
        refine Runs.go 3 (cs := []) (pc' := bif decide (¬ (bI false) = 0) then 53 else 38) (pl' := [some (.ref 23), some (.int (N 1)), some (.int (N (k + 1))), some (.int (N 1))]) (st' := []) (h' := (MP X c ((doS bu S s).1) bf kn kp ik od bu le th mk ol tu ib sp so al br tr (plN bu le s + s) false ha se o)) rfl trivial ?_
        refine Runs.brF (decide_eq_false (by decide)) ?_
        refine Runs.go 5 (cs := []) (pc' := bif decide ((N le) ≤ (N (plN bu le s + s))) then 53 else 49) (pl' := [some (.ref 23), some (.int (N 1)), some (.int (N (k + 1))), some (.int (N 1))]) (st' := []) (h' := (MP X c ((doS bu S s).1) bf kn kp ik od bu le th mk ol tu ib sp so al br tr (plN bu le s + s) false ha se o)) rfl trivial ?_
        refine Runs.brT (decide_eq_true ((N_le (a := le) (b := plN bu le s + s) (by omega) (by omega)).mpr (by omega))) ?_
        refine Runs.go 4 (cs := []) (pc' := bif decide ((N 0) = 0) then 14 else 59) (pl' := [some (.ref 23), some (.int (N 1)), some (.int (N (k + 1))), some (.int (N 0))]) (st' := []) (h' := (MP X c ((doS bu S s).1) bf kn kp ik od bu le th mk ol tu ib sp so al br tr (plN bu le s + s) false ha se o)) rfl trivial ?_
        refine Runs.brT (decide_eq_true (by decide)) ?_
        refine Runs.go 2 (cs := []) (pc' := bif decide ((N 0) = 0) then 93 else 18) (pl' := [some (.ref 23), some (.int (N 1)), some (.int (N (k + 1))), some (.int (N 0))]) (st' := []) (h' := (MP X c ((doS bu S s).1) bf kn kp ik od bu le th mk ol tu ib sp so al br tr (plN bu le s + s) false ha se o)) rfl trivial ?_
        refine Runs.brT (decide_eq_true (by decide)) ?_
        refine Runs.go 1 (cs := []) (pc' := 94) (pl' := [some (.ref 23), some (.int (N 1)), some (.int (N (k + 1))), some (.int (N 0))]) (st' := [.int (N (k + 1))]) (h' := (MP X c ((doS bu S s).1) bf kn kp ik od bu le th mk ol tu ib sp so al br tr (plN bu le s + s) false ha se o)) rfl trivial ?_
        exact Runs.retE (cs := []) rfl trivial rfl rfl
      · have e : tkS bu le (f + 1) S s = ((tkS bu le f (doS bu S s).1 (s + plN bu le s + 1)).1, (tkS bu le f (doS bu S s).1 (s + plN bu le s + 1)).2 + 1) := (if_pos hd).trans (if_pos he)
        rw [e]
        obtain ⟨a9, hr⟩ := ih (doS bu S s).1 (s + plN bu le s + 1) (k + 1) (doS_VC hV hgd) hrest (by omega)
        refine ⟨a9, ?_⟩
        rw [Nat.add_comm s (plN bu le s)] at hr
        rw [Nat.add_comm s (plN bu le s)]
        rw [show k + 1 + (tkS bu le f (doS bu S s).1 (plN bu le s + s + 1)).2 = k + ((tkS bu le f (doS bu S s).1 (plN bu le s + s + 1)).2 + 1) by omega] at hr
        refine Runs.go 2 (cs := []) (pc' := bif decide ((N 1) = 0) then 93 else 18) (pl' := [some (.ref 23), some (.int (N 1)), some (.int (N k)), some (.int (N 1))]) (st' := []) (h' := (MP X c S bf kn kp ik od bu le th mk ol tu ib sp so al br tr s false ha se o)) rfl trivial ?_
        refine Runs.brF (decide_eq_false (by decide)) ?_
        refine Runs.go 2 (cs := []) (pc' := 20) (pl' := [some (.ref 23), some (.int (N 1)), some (.int (N k)), some (.int (N 1))]) (st' := [.int (N 1), .ref 23]) (h' := (MP X c S bf kn kp ik od bu le th mk ol tu ib sp so al br tr s false ha se o)) rfl trivial ?_
        refine Runs.cal (y := mX7_part) (as := [.ref 23, .int (N 1)]) (rest := []) (pc' := 23) (cs := []) (v := some (.int (bI ((doS bu S s).2)))) (h1 := (MP X c ((doS bu S s).1) bf kn kp ik od bu le th mk ol tu ib sp so al br tr (plN bu le s + s) false ha se o)) rfl trivial (by decide) (k_partG hV hB hgd) ?_
        show Runs _ _ 23 _ [.int (bI ((doS bu S s).2))] _ _ _ _
        refine Runs.go 1 (cs := []) (pc' := bif decide (¬ (bI ((doS bu S s).2)) = 0) then 28 else 26) (pl' := [some (.ref 23), some (.int (N 1)), some (.int (N k)), some (.int (N 1))]) (st' := []) (h' := (MP X c ((doS bu S s).1) bf kn kp ik od bu le th mk ol tu ib sp so al br tr (plN bu le s + s) false ha se o)) rfl trivial ?_
        refine Runs.brT (decide_eq_true (fun zq9 => absurd ((bI_0 _).mp zq9) (nT hd))) ?_
        refine Runs.goL 1 (cs := []) (pc' := 31) (pl1 := [some (.ref 23), some (.int (N 1)), some (.int (N k + N 1)), some (.int (N 1))]) (pl' := [some (.ref 23), some (.int (N 1)), some (.int (N (k + 1))), some (.int (N 1))]) (st' := []) (h' := (MP X c ((doS bu S s).1) bf kn kp ik od bu le th mk ol tu ib sp so al br tr (plN bu le s + s) false ha se o)) rfl trivial (congrArg (fun zq9 => ([some (.ref 23), some (.int (N 1)), some (.int zq9), some (.int (N 1))] : PL)) (NA (by omega))) ?_
        refine Runs.go 3 (cs := []) (pc' := bif decide (¬ (bI false) = 0) then 53 else 38) (pl' := [some (.ref 23), some (.int (N 1)), some (.int (N (k + 1))), some (.int (N 1))]) (st' := []) (h' := (MP X c ((doS bu S s).1) bf kn kp ik od bu le th mk ol tu ib sp so al br tr (plN bu le s + s) false ha se o)) rfl trivial ?_
        refine Runs.brF (decide_eq_false (by decide)) ?_
        refine Runs.go 5 (cs := []) (pc' := bif decide ((N le) ≤ (N (plN bu le s + s))) then 53 else 49) (pl' := [some (.ref 23), some (.int (N 1)), some (.int (N (k + 1))), some (.int (N 1))]) (st' := []) (h' := (MP X c ((doS bu S s).1) bf kn kp ik od bu le th mk ol tu ib sp so al br tr (plN bu le s + s) false ha se o)) rfl trivial ?_
        refine Runs.brF (decide_eq_false (fun zq9 => absurd ((N_le (a := le) (b := plN bu le s + s) (by omega) (by omega)).mp zq9) (by omega))) ?_
        refine Runs.go 5 (cs := []) (pc' := bif decide ((N 1) = 0) then 14 else 59) (pl' := [some (.ref 23), some (.int (N 1)), some (.int (N (k + 1))), some (.int (N 1))]) (st' := []) (h' := (MP X c ((doS bu S s).1) bf kn kp ik od bu le th mk ol tu ib sp so al br tr (plN bu le s + s) false ha se o)) rfl trivial ?_
        refine Runs.brF (decide_eq_false (by decide)) ?_
        refine Runs.go 2 (cs := []) (pc' := 61) (pl' := [some (.ref 23), some (.int (N 1)), some (.int (N (k + 1))), some (.int (N 1))]) (st' := [.ref 23, .ref 23]) (h' := (MP X c ((doS bu S s).1) bf kn kp ik od bu le th mk ol tu ib sp so al br tr (plN bu le s + s) false ha se o)) rfl trivial ?_
        refine Runs.cal (y := mX7_sign) (as := [.ref 23]) (rest := [.ref 23]) (pc' := 64) (cs := []) (v := some (.int (N (bu (plN bu le s + s))))) (h1 := (MP X c ((doS bu S s).1) bf kn kp ik od bu le th mk ol tu ib sp so al br tr (plN bu le s + s) false ha se o)) rfl trivial (by decide) (k_signG hB (by omega)) ?_
        show Runs _ _ 64 _ [.int (N (bu (plN bu le s + s))), .ref 23] _ _ _ _
        rw [show N (bu (plN bu le s + s)) = N 59 by rw [Nat.add_comm, h59]]
        refine Runs.go 2 (cs := []) (pc' := bif decide (¬ (N 59) = (N 59)) then 73 else 69) (pl' := [some (.ref 23), some (.int (N 1)), some (.int (N (k + 1))), some (.int (N 1))]) (st' := [.ref 23]) (h' := (MP X c ((doS bu S s).1) bf kn kp ik od bu le th mk ol tu ib sp so al br tr (plN bu le s + s) false ha se o)) rfl trivial ?_
        refine Runs.brF (decide_eq_false (by decide)) ?_
        refine Runs.go 2 (cs := []) (pc' := 74) (pl' := [some (.ref 23), some (.int (N 1)), some (.int (N (k + 1))), some (.int (N 1))]) (st' := [.int (N 1), .ref 23]) (h' := (MP X c ((doS bu S s).1) bf kn kp ik od bu le th mk ol tu ib sp so al br tr (plN bu le s + s) false ha se o)) rfl trivial ?_
        refine Runs.cal (y := mX7_step) (as := [.ref 23, .int (N 1)]) (rest := []) (pc' := 77) (cs := []) (v := none) (h1 := (MP X c ((doS bu S s).1) bf kn kp ik od bu le th mk ol tu ib sp so al br tr (plN bu le s + s + 1) false ha se o)) rfl trivial (by decide) (k_stepG (by omega)) ?_
        show Runs _ _ 77 _ [] _ _ _ _
        refine Runs.go 3 (cs := []) (pc' := bif decide (¬ (bI false) = 0) then 88 else 84) (pl' := [some (.ref 23), some (.int (N 1)), some (.int (N (k + 1))), some (.int (N 1))]) (st' := []) (h' := (MP X c ((doS bu S s).1) bf kn kp ik od bu le th mk ol tu ib sp so al br tr (plN bu le s + s + 1) false ha se o)) rfl trivial ?_
        refine Runs.brF (decide_eq_false (by decide)) ?_
        refine Runs.go 4 (cs := []) (pc' := 14) (pl' := [some (.ref 23), some (.int (N 1)), some (.int (N (k + 1))), some (.int (N 1))]) (st' := []) (h' := (MP X c ((doS bu S s).1) bf kn kp ik od bu le th mk ol tu ib sp so al br tr (plN bu le s + s + 1) false ha se o)) rfl trivial ?_
        exact hr
