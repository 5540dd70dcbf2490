/-! the script is not changed by an instruction -/
section ScrP
variable {n i g : Nat} {pl : PL} {st : List Value} {h : PH} {cs : List Prop} {pc' : Nat} {pl' : PL} {st' : List Value} {h' : PH}
theorem sc_ldI  (x : ldI n i pl st h = some (cs, .inl (pc', pl', st', h'))) : h'.1 = h.1 := by
  unfold ldI at x
  (repeat' split at x) <;> first | (cases x; done) | (rw [← (nx_inv x).2.2.2.1]; done) | (rw [← (nxc_inv x).2.2.2.1]; done)
theorem sc_ldJ  (x : ldJ n i pl st h = some (cs, .inl (pc', pl', st', h'))) : h'.1 = h.1 := by
  unfold ldJ at x
  (repeat' split at x) <;> first | (cases x; done) | (rw [← (nx_inv x).2.2.2.1]; done) | (rw [← (nxc_inv x).2.2.2.1]; done)
theorem sc_ldD  (x : ldD n i pl st h = some (cs, .inl (pc', pl', st', h'))) : h'.1 = h.1 := by
  unfold ldD at x
  (repeat' split at x) <;> first | (cases x; done) | (rw [← (nx_inv x).2.2.2.1]; done) | (rw [← (nxc_inv x).2.2.2.1]; done)
theorem sc_ldA  (x : ldA n i pl st h = some (cs, .inl (pc', pl', st', h'))) : h'.1 = h.1 := by
  unfold ldA at x
  (repeat' split at x) <;> first | (cases x; done) | (rw [← (nx_inv x).2.2.2.1]; done) | (rw [← (nxc_inv x).2.2.2.1]; done)
theorem sc_stI  (x : stI n i pl st h = some (cs, .inl (pc', pl', st', h'))) : h'.1 = h.1 := by
  unfold stI at x
  (repeat' split at x) <;> first | (cases x; done) | (rw [← (nx_inv x).2.2.2.1]; done) | (rw [← (nxc_inv x).2.2.2.1]; done)
theorem sc_stA  (x : stA n i pl st h = some (cs, .inl (pc', pl', st', h'))) : h'.1 = h.1 := by
  unfold stA at x
  (repeat' split at x) <;> first | (cases x; done) | (rw [← (nx_inv x).2.2.2.1]; done) | (rw [← (nxc_inv x).2.2.2.1]; done)
theorem sc_stJ  (x : stJ n i pl st h = some (cs, .inl (pc', pl', st', h'))) : h'.1 = h.1 := by
  unfold stJ at x
  (repeat' split at x) <;> first | (cases x; done) | (rw [← (nx_inv x).2.2.2.1]; done) | (rw [← (nxc_inv x).2.2.2.1]; done)
theorem sc_stD  (x : stD n i pl st h = some (cs, .inl (pc', pl', st', h'))) : h'.1 = h.1 := by
  unfold stD at x
  (repeat' split at x) <;> first | (cases x; done) | (rw [← (nx_inv x).2.2.2.1]; done) | (rw [← (nxc_inv x).2.2.2.1]; done)
theorem sc_opI {f : Int32 → Int32 → Int32} (x : opI f n pl st h = some (cs, .inl (pc', pl', st', h'))) : h'.1 = h.1 := by
  unfold opI at x
  (repeat' split at x) <;> first | (cases x; done) | (rw [← (nx_inv x).2.2.2.1]; done) | (rw [← (nxc_inv x).2.2.2.1]; done)
theorem sc_opJ {f : Int64 → Int64 → Int64} (x : opJ f n pl st h = some (cs, .inl (pc', pl', st', h'))) : h'.1 = h.1 := by
  unfold opJ at x
  (repeat' split at x) <;> first | (cases x; done) | (rw [← (nx_inv x).2.2.2.1]; done) | (rw [← (nxc_inv x).2.2.2.1]; done)
theorem sc_opS {f : Int64 → Int32 → Int64} (x : opS f n pl st h = some (cs, .inl (pc', pl', st', h'))) : h'.1 = h.1 := by
  unfold opS at x
  (repeat' split at x) <;> first | (cases x; done) | (rw [← (nx_inv x).2.2.2.1]; done) | (rw [← (nxc_inv x).2.2.2.1]; done)
theorem sc_opDv {f : Int32 → Int32 → Int32} (x : opDv f n pl st h = some (cs, .inl (pc', pl', st', h'))) : h'.1 = h.1 := by
  unfold opDv at x
  (repeat' split at x) <;> first | (cases x; done) | (rw [← (nx_inv x).2.2.2.1]; done) | (rw [← (nxc_inv x).2.2.2.1]; done)
theorem sc_opD {f : UInt64 → UInt64 → UInt64} (x : opD f n pl st h = some (cs, .inl (pc', pl', st', h'))) : h'.1 = h.1 := by
  unfold opD at x
  (repeat' split at x) <;> first | (cases x; done) | (rw [← (nx_inv x).2.2.2.1]; done) | (rw [← (nxc_inv x).2.2.2.1]; done)
theorem sc_br1 {t : Int32 → Bool} (x : br1 t n g pl st h = some (cs, .inl (pc', pl', st', h'))) : h'.1 = h.1 := by
  unfold br1 at x
  (repeat' split at x) <;> first | (cases x; done) | (rw [← (nx_inv x).2.2.2.1]; done) | (rw [← (nxc_inv x).2.2.2.1]; done)
theorem sc_br2 {t : Int32 → Int32 → Bool} (x : br2 t n g pl st h = some (cs, .inl (pc', pl', st', h'))) : h'.1 = h.1 := by
  unfold br2 at x
  (repeat' split at x) <;> first | (cases x; done) | (rw [← (nx_inv x).2.2.2.1]; done) | (rw [← (nxc_inv x).2.2.2.1]; done)
theorem sc_astI  (x : astI n pl st h = some (cs, .inl (pc', pl', st', h'))) : h'.1 = h.1 := by
  unfold astI at x
  (repeat' split at x) <;> first | (cases x; done) | (rw [← (nx_inv x).2.2.2.1]; done) | (rw [← (nxc_inv x).2.2.2.1]; done)
theorem sc_astJ  (x : astJ n pl st h = some (cs, .inl (pc', pl', st', h'))) : h'.1 = h.1 := by
  unfold astJ at x
  (repeat' split at x) <;> first | (cases x; done) | (rw [← (nx_inv x).2.2.2.1]; done) | (rw [← (nxc_inv x).2.2.2.1]; done)
theorem sc_aldA  (x : aldA n pl st h = some (cs, .inl (pc', pl', st', h'))) : h'.1 = h.1 := by
  unfold aldA at x
  (repeat' split at x) <;> first | (cases x; done) | (rw [← (nx_inv x).2.2.2.1]; done) | (rw [← (nxc_inv x).2.2.2.1]; done)
theorem sc_astA  (x : astA n pl st h = some (cs, .inl (pc', pl', st', h'))) : h'.1 = h.1 := by
  unfold astA at x
  (repeat' split at x) <;> first | (cases x; done) | (rw [← (nx_inv x).2.2.2.1]; done) | (rw [← (nxc_inv x).2.2.2.1]; done)
theorem sc_tsw {d lo hi : Int} {offs : Array Int} (x : tsw d lo hi offs n pl st h = some (cs, .inl (pc', pl', st', h'))) : h'.1 = h.1 := by
  unfold tsw at x
  (repeat' split at x) <;> first | (cases x; done) | (rw [← (nx_inv x).2.2.2.1]; done) | (rw [← (nxc_inv x).2.2.2.1]; done)
theorem sc_extCopy  (x : extCopy n pl st h = some (cs, .inl (pc', pl', st', h'))) : h'.1 = h.1 := by
  unfold extCopy at x
  (repeat' split at x) <;> first | (cases x; done) | (rw [← (nx_inv x).2.2.2.1]; done) | (rw [← (nxc_inv x).2.2.2.1]; done)
theorem sc_aldI {lw : Bool} (x : aldI lw n pl st h = some (cs, .inl (pc', pl', st', h'))) : h'.1 = h.1 := by
  unfold aldI at x
  split at x
  next i a r =>
    split at x
    next => rw [← (nxc_inv x).2.2.2.1]
    next => cases x
    next hn =>
      cases hw : Nat.beq a 1000 && lw with
      | false =>
        rw [hw] at x
        cases x
      | true =>
        rw [hw] at x
        rw [← (nxc_inv x).2.2.2.1]
  next => cases x
theorem sc_alen {lw : Bool} (x : alen lw n pl st h = some (cs, .inl (pc', pl', st', h'))) : h'.1 = h.1 := by
  unfold alen at x
  split at x
  next a r =>
    split at x
    next => cases x
    next hn =>
      cases hw : Nat.beq a 1000 && lw with
      | false =>
        rw [hw] at x
        cases hv : Nat.beq a 1003 with
        | false =>
          rw [hv] at x
          cases x
        | true =>
          rw [hv] at x
          rw [← (nx_inv x).2.2.2.1]
      | true =>
        rw [hw] at x
        rw [← (nx_inv x).2.2.2.1]
  next => cases x
theorem sc_aldB (x : aldB n pl st h = some (cs, .inl (pc', pl', st', h'))) : h'.1 = h.1 := by
  unfold aldB at x
  split at x
  next i a r =>
    split at x
    next => cases x
    next hn =>
      cases hv : Nat.beq a 1003 with
      | false =>
        rw [hv] at x
        cases x
      | true =>
        rw [hv] at x
        rw [← (nxc_inv x).2.2.2.1]
  next => cases x
theorem sc_opM {mx : Bool} (x : opM mx n pl st h = some (cs, .inl (pc', pl', st', h'))) : h'.1 = h.1 := by
  unfold opM at x
  split at x
  next => rw [← (nxc_inv x).2.2.2.1]
  next => cases x
theorem sc_getS (x : getS i n pl st h = some (cs, .inl (pc', pl', st', h'))) : h'.1 = h.1 := by
  unfold getS at x
  split at x
  next a r =>
    cases hw : Nat.beq a 1002 with
    | false =>
      rw [hw] at x
      cases x
    | true =>
      rw [hw] at x
      dsimp only [cond_true] at x
      cases h9 : Nat.beq i 9 with
      | true =>
        rw [h9] at x
        rw [← (nx_inv x).2.2.2.1]
      | false =>
        rw [h9] at x
        dsimp only [cond_false] at x
        cases h15 : Nat.beq i 15 with
        | true =>
          rw [h15] at x
          rw [← (nx_inv x).2.2.2.1]
        | false =>
          rw [h15] at x
          cases x
  next => cases x
theorem sc_aldJ (x : aldJ n pl st h = some (cs, .inl (pc', pl', st', h'))) : h'.1 = h.1 := by
  unfold aldJ at x
  split at x
  next i a r =>
    split at x
    next => rw [← (nxc_inv x).2.2.2.1]
    next => cases x
    next hn =>
      cases hw : Nat.beq a 1001 with
      | false =>
        rw [hw] at x
        cases x
      | true =>
        rw [hw] at x
        rw [← (nxc_inv x).2.2.2.1]
  next => cases x
theorem sc_getF {cf : Option (Nat × Nat × Nat)} (x : getF cf n pl st h = some (cs, .inl (pc', pl', st', h'))) : h'.1 = h.1 := by
  unfold getF at x
  split at x
  next ci sl tg a r =>
    split at x
    next cj fs hf =>
      cases hz : Nat.beq ci cj with
      | false =>
        rw [hz] at x
        cases x
      | true =>
        rw [hz] at x
        dsimp only [cond_true] at x
        split at x
        · rw [← (nx_inv x).2.2.2.1]
        · cases x
    next => cases x
  next => cases x
theorem sc_putF {cf : Option (Nat × Nat × Nat)} (x : putF cf n pl st h = some (cs, .inl (pc', pl', st', h'))) : h'.1 = h.1 := by
  unfold putF at x
  split at x
  next ci sl tg v a r =>
    split at x
    next cj fs cs1 hf hfit =>
      cases hz : Nat.beq ci cj with
      | false =>
        rw [hz] at x
        cases x
      | true =>
        rw [hz] at x
        dsimp only [cond_true] at x
        split at x
        · simp only [Option.some.injEq, Prod.mk.injEq, Sum.inl.injEq] at x
          rw [← x.2.2.2.2]
        · cases x
    next => cases x
  next => cases x
set_option maxHeartbeats 4000000 in
theorem pstep_scr {q : MI} {pc : Nat} (x : pstep q pc pl st h = some (cs, .inl (pc', pl', st', h'))) : h'.1 = h.1 := by
  unfold pstep at x
  cases hcode : codeAt q pc with
  | none =>
    rw [hcode] at x
    cases x
  | some y =>
    obtain ⟨i, n, g⟩ := y
    rw [hcode] at x
    dsimp only at x
    cases i
    case ifCond cond off => cases cond <;> exact sc_br1 x
    case if_icmp cond off => cases cond <;> exact sc_br2 x
    case dconst i =>
      match i, x with
      | 0, x => rw [← (nx_inv x).2.2.2.1]
      | 1, x => rw [← (nx_inv x).2.2.2.1]
    case getstatic i =>
      simp only [pstepI] at x
      cases hz : Nat.beq (miK q) 4 && Nat.beq i 15 with
      | false =>
        rw [hz] at x
        dsimp only [cond_false] at x
        cases hw : Nat.beq (miK q) 11 && Nat.beq i 38 with
        | false =>
          rw [hw] at x
          cases x
        | true =>
          rw [hw] at x
          rw [← (nx_inv x).2.2.2.1]
      | true =>
        rw [hz] at x
        rw [← (nx_inv x).2.2.2.1]
    case getfield i =>
      simp only [pstepI] at x
      cases hz : Nat.beq (miK q) 11 with
      | true =>
        rw [hz] at x
        exact sc_getS x
      | false =>
        rw [hz] at x
        exact sc_getF x
    case ldc i =>
      simp only [pstepI] at x
      cases hz : Nat.beq (miK q) 5 && Nat.beq i 56 with
      | true =>
        rw [hz] at x
        rw [← (nx_inv x).2.2.2.1]
      | false =>
        rw [hz] at x
        dsimp only [cond_false] at x
        split at x
        · rw [← (nx_inv x).2.2.2.1]
        · split at x
          · rw [← (nx_inv x).2.2.2.1]
          · cases x
    case dup =>
      simp only [pstepI] at x
      split at x
      next v r =>
        cases hz : Nat.beq v.category 1 with
        | false =>
          rw [hz] at x
          cases x
        | true =>
          rw [hz] at x
          rw [← (nx_inv x).2.2.2.1]
      next => cases x
    case pop =>
      simp only [pstepI] at x
      split at x
      next v r =>
        cases hz : Nat.beq v.category 1 with
        | false =>
          rw [hz] at x
          cases x
        | true =>
          rw [hz] at x
          rw [← (nx_inv x).2.2.2.1]
      next => cases x
    case dup2 =>
      simp only [pstepI] at x
      split at x
      next v w r =>
        cases hz : Nat.beq v.category 1 && Nat.beq w.category 1 with
        | false =>
          rw [hz] at x
          cases x
        | true =>
          rw [hz] at x
          rw [← (nx_inv x).2.2.2.1]
      next => cases x
    case invokestatic i =>
      simp only [pstepI] at x
      cases hz : Nat.beq (miK q) 3 && Nat.beq i 15 with
      | false =>
        rw [hz] at x
        dsimp only [cond_false] at x
        cases hw : Nat.beq (miK q) 12 && Nat.beq i 92 with
        | true =>
          rw [hw] at x
          exact sc_opM x
        | false =>
          rw [hw] at x
          dsimp only [cond_false] at x
          cases hv : Nat.beq (miK q) 12 && Nat.beq i 38 with
          | true =>
            rw [hv] at x
            exact sc_opM x
          | false =>
            rw [hv] at x
            dsimp only [cond_false] at x
            split at x
            next y hy => exact absurd x (callO_no _ _ _ _ _)
            next => cases x
      | true =>
        rw [hz] at x
        exact sc_extCopy x
    case invokevirtual i =>
      simp only [pstepI] at x
      split at x
      next y hy => exact absurd x (callO_no _ _ _ _ _)
      next => cases x
    all_goals first
      | exact sc_ldI x
      | exact sc_ldJ x
      | exact sc_ldD x
      | exact sc_ldA x
      | exact sc_stI x
      | exact sc_stA x
      | exact sc_stJ x
      | exact sc_stD x
      | exact sc_opI x
      | exact sc_opJ x
      | exact sc_opS x
      | exact sc_opDv x
      | exact sc_opD x
      | exact sc_astI x
      | exact sc_astJ x
      | exact sc_aldA x
      | exact sc_astA x
      | exact sc_aldI x
      | exact sc_aldJ x
      | exact sc_aldB x
      | exact sc_alen x
      | exact sc_tsw x
      | exact sc_putF x
      | (rw [← (nx_inv x).2.2.2.1]; done)
      | (simp only [pstepI] at x; (repeat' split at x) <;> first | (cases x; done) | (rw [← (nx_inv x).2.2.2.1]; done) | (rw [← (nxc_inv x).2.2.2.1]; done))
      | (exfalso; simp [pstepI] at x; done)
end ScrP
