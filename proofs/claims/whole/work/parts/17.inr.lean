/-! what leaves the frame: ends, throws, calls -/
section InrP
variable {n i g : Nat} {pl : PL} {st : List Value} {h : PH} {cs : List Prop} {z : Option Value ⊕ (String ⊕ (MI × List Value × Nat × List Value))}
theorem nx_no {a : Nat} {b : PL} {d : List Value} {f : PH} (x : nx a b d f = some (cs, .inr z)) : False := by simp [nx] at x
theorem nxc_no {w : Prop} {a : Nat} {b : PL} {d : List Value} {f : PH} (x : nxc w a b d f = some (cs, .inr z)) : False := by simp [nxc] at x
theorem ni_ldI  (x : ldI n i pl st h = some (cs, .inr z)) : False := by
  unfold ldI at x
  (repeat' split at x) <;> first | (cases x; done) | exact nx_no x | exact nxc_no x
theorem ni_ldJ  (x : ldJ n i pl st h = some (cs, .inr z)) : False := by
  unfold ldJ at x
  (repeat' split at x) <;> first | (cases x; done) | exact nx_no x | exact nxc_no x
theorem ni_ldD  (x : ldD n i pl st h = some (cs, .inr z)) : False := by
  unfold ldD at x
  (repeat' split at x) <;> first | (cases x; done) | exact nx_no x | exact nxc_no x
theorem ni_ldA  (x : ldA n i pl st h = some (cs, .inr z)) : False := by
  unfold ldA at x
  (repeat' split at x) <;> first | (cases x; done) | exact nx_no x | exact nxc_no x
theorem ni_stI  (x : stI n i pl st h = some (cs, .inr z)) : False := by
  unfold stI at x
  (repeat' split at x) <;> first | (cases x; done) | exact nx_no x | exact nxc_no x
theorem ni_stA  (x : stA n i pl st h = some (cs, .inr z)) : False := by
  unfold stA at x
  (repeat' split at x) <;> first | (cases x; done) | exact nx_no x | exact nxc_no x
theorem ni_stJ  (x : stJ n i pl st h = some (cs, .inr z)) : False := by
  unfold stJ at x
  (repeat' split at x) <;> first | (cases x; done) | exact nx_no x | exact nxc_no x
theorem ni_stD  (x : stD n i pl st h = some (cs, .inr z)) : False := by
  unfold stD at x
  (repeat' split at x) <;> first | (cases x; done) | exact nx_no x | exact nxc_no x
theorem ni_opI {f : Int32 → Int32 → Int32} (x : opI f n pl st h = some (cs, .inr z)) : False := by
  unfold opI at x
  (repeat' split at x) <;> first | (cases x; done) | exact nx_no x | exact nxc_no x
theorem ni_opJ {f : Int64 → Int64 → Int64} (x : opJ f n pl st h = some (cs, .inr z)) : False := by
  unfold opJ at x
  (repeat' split at x) <;> first | (cases x; done) | exact nx_no x | exact nxc_no x
theorem ni_opS {f : Int64 → Int32 → Int64} (x : opS f n pl st h = some (cs, .inr z)) : False := by
  unfold opS at x
  (repeat' split at x) <;> first | (cases x; done) | exact nx_no x | exact nxc_no x
theorem ni_opDv {f : Int32 → Int32 → Int32} (x : opDv f n pl st h = some (cs, .inr z)) : False := by
  unfold opDv at x
  (repeat' split at x) <;> first | (cases x; done) | exact nx_no x | exact nxc_no x
theorem ni_opD {f : UInt64 → UInt64 → UInt64} (x : opD f n pl st h = some (cs, .inr z)) : False := by
  unfold opD at x
  (repeat' split at x) <;> first | (cases x; done) | exact nx_no x | exact nxc_no x
theorem ni_br1 {t : Int32 → Bool} (x : br1 t n g pl st h = some (cs, .inr z)) : False := by
  unfold br1 at x
  (repeat' split at x) <;> first | (cases x; done) | exact nx_no x | exact nxc_no x
theorem ni_br2 {t : Int32 → Int32 → Bool} (x : br2 t n g pl st h = some (cs, .inr z)) : False := by
  unfold br2 at x
  (repeat' split at x) <;> first | (cases x; done) | exact nx_no x | exact nxc_no x
theorem ni_astI  (x : astI n pl st h = some (cs, .inr z)) : False := by
  unfold astI at x
  (repeat' split at x) <;> first | (cases x; done) | exact nx_no x | exact nxc_no x
theorem ni_astJ  (x : astJ n pl st h = some (cs, .inr z)) : False := by
  unfold astJ at x
  (repeat' split at x) <;> first | (cases x; done) | exact nx_no x | exact nxc_no x
theorem ni_aldA  (x : aldA n pl st h = some (cs, .inr z)) : False := by
  unfold aldA at x
  (repeat' split at x) <;> first | (cases x; done) | exact nx_no x | exact nxc_no x
theorem ni_astA  (x : astA n pl st h = some (cs, .inr z)) : False := by
  unfold astA at x
  (repeat' split at x) <;> first | (cases x; done) | exact nx_no x | exact nxc_no x
theorem ni_tsw {d lo hi : Int} {offs : Array Int} (x : tsw d lo hi offs n pl st h = some (cs, .inr z)) : False := by
  unfold tsw at x
  (repeat' split at x) <;> first | (cases x; done) | exact nx_no x | exact nxc_no x
theorem ni_extCopy  (x : extCopy n pl st h = some (cs, .inr z)) : False := by
  unfold extCopy at x
  (repeat' split at x) <;> first | (cases x; done) | exact nx_no x | exact nxc_no x
theorem ni_aldI {lw : Bool} (x : aldI lw n pl st h = some (cs, .inr z)) : False := by
  unfold aldI at x
  split at x
  next i a r =>
    split at x
    next => exact nxc_no x
    next => cases x
    next hn =>
      cases hw : Nat.beq a 1000 && lw with
      | false =>
        rw [hw] at x
        cases x
      | true =>
        rw [hw] at x
        exact nxc_no x
  next => cases x
theorem ni_alen {lw : Bool} (x : alen lw n pl st h = some (cs, .inr z)) : False := by
  unfold alen at x
  split at x
  next a r =>
    split at x
    next => cases x
    next hn =>
      cases hw : Nat.beq a 1000 && lw with
      | false =>
        rw [hw] at x
        cases hv : Nat.beq a 1003 with
        | false =>
          rw [hv] at x
          cases x
        | true =>
          rw [hv] at x
          exact nx_no x
      | true =>
        rw [hw] at x
        exact nx_no x
  next => cases x
theorem ni_aldB (x : aldB n pl st h = some (cs, .inr z)) : False := by
  unfold aldB at x
  split at x
  next i a r =>
    split at x
    next => cases x
    next hn =>
      cases hv : Nat.beq a 1003 with
      | false =>
        rw [hv] at x
        cases x
      | true =>
        rw [hv] at x
        exact nxc_no x
  next => cases x
theorem ni_opM {mx : Bool} (x : opM mx n pl st h = some (cs, .inr z)) : False := by
  unfold opM at x
  split at x
  next => exact nxc_no x
  next => cases x
theorem ni_getS (x : getS i n pl st h = some (cs, .inr z)) : False := by
  unfold getS at x
  split at x
  next a r =>
    cases hw : Nat.beq a 1002 with
    | false =>
      rw [hw] at x
      cases x
    | true =>
      rw [hw] at x
      dsimp only [cond_true] at x
      cases h9 : Nat.beq i 9 with
      | true =>
        rw [h9] at x
        exact nx_no x
      | false =>
        rw [h9] at x
        dsimp only [cond_false] at x
        cases h15 : Nat.beq i 15 with
        | true =>
          rw [h15] at x
          exact nx_no x
        | false =>
          rw [h15] at x
          cases x
  next => cases x
theorem ni_aldJ (x : aldJ n pl st h = some (cs, .inr z)) : False := by
  unfold aldJ at x
  split at x
  next i a r =>
    split at x
    next => exact nxc_no x
    next => cases x
    next hn =>
      cases hw : Nat.beq a 1001 with
      | false =>
        rw [hw] at x
        cases x
      | true =>
        rw [hw] at x
        exact nxc_no x
  next => cases x
theorem ni_getF {cf : Option (Nat × Nat × Nat)} (x : getF cf n pl st h = some (cs, .inr z)) : False := by
  unfold getF at x
  split at x
  next ci sl tg a r =>
    split at x
    next cj fs hf =>
      cases hz : Nat.beq ci cj with
      | false =>
        rw [hz] at x
        cases x
      | true =>
        rw [hz] at x
        dsimp only [cond_true] at x
        split at x
        · exact nx_no x
        · cases x
    next => cases x
  next => cases x
theorem ni_putF {cf : Option (Nat × Nat × Nat)} (x : putF cf n pl st h = some (cs, .inr z)) : False := by
  unfold putF at x
  split at x
  next ci sl tg v a r =>
    split at x
    next cj fs cs1 hf hfit =>
      cases hz : Nat.beq ci cj with
      | false =>
        rw [hz] at x
        cases x
      | true =>
        rw [hz] at x
        dsimp only [cond_true] at x
        split at x
        · simp at x
        · cases x
    next => cases x
  next => cases x
theorem callO_inv {y : MI} {b : Bool} (x : callO y b n st h = some (cs, .inr z)) : z = .inr (.inr (y, (st.take (miA y)).reverse, n, st.drop (miA y))) ∧ miS y = b ∧ miA y ≤ st.length ∧ catS (st.drop (miA y)) ≤ 8 ∧ catS (st.take (miA y)) ≤ miL y ∧
    (b = true ∨ ∃ (a : Nat) (as : List Value), (st.take (miA y)).reverse = .ref a :: as ∧ ((∃ (cj : Nat) (fs : List Value), h.2[a]? = some (.inr (cj, fs)) ∧ cj + 2 = miK y ∧ miK y ≤ 7) ∨ (h.2[a]? = none ∧ a = 1002 ∧ miK y = 11))) := by
  unfold callO at x
  generalize hz : (miS y == b && _ && _ && _ && _) = w at x
  cases w with
  | false => cases x
  | true =>
    simp only [cond_true, Option.some.injEq, Prod.mk.injEq, Sum.inr.injEq] at x
    simp only [Bool.and_eq_true, Bool.or_eq_true] at hz
    obtain ⟨⟨⟨⟨h1, h2⟩, h3⟩, h4⟩, h5⟩ := hz
    refine ⟨x.2.symm, eq_of_beq h1, Nat.le_of_ble_eq_true h2, Nat.le_of_ble_eq_true h3, Nat.le_of_ble_eq_true h4, ?_⟩
    rcases h5 with h5 | h5
    · exact Or.inl h5
    · refine Or.inr ?_
      split at h5
      next a as ha =>
        split at h5
        next cj fs hf =>
          obtain ⟨f1, f2⟩ := Bool.and_eq_true_iff.mp h5
          exact ⟨a, as, ha, Or.inl ⟨cj, fs, hf, Nat.eq_of_beq_eq_true f1, Nat.le_of_ble_eq_true f2⟩⟩
        next => cases h5
        next hf =>
          obtain ⟨f1, f2⟩ := Bool.and_eq_true_iff.mp h5
          exact ⟨a, as, ha, Or.inr ⟨hf, Nat.eq_of_beq_eq_true f1, Nat.eq_of_beq_eq_true f2⟩⟩
      next => cases h5
def retAt (q : MI) (pc : Nat) : Option Value → Prop
  | none => decode (miB q) pc = .ok (.return_, 1) ∧ miR q = none
  | some (.int x) => decode (miB q) pc = .ok (.ireturn, 1) ∧ (miR q = some .int ∨ (miR q = some .boolean ∧ (x = 0 ∨ x = 1)) ∨ (miR q = some .byte ∧ x = 0))
  | some (.long _) => decode (miB q) pc = .ok (.lreturn, 1) ∧ miR q = some .long
  | some (.float _) => decode (miB q) pc = .ok (.freturn, 1) ∧ miR q = some .float
  | some (.double _) => decode (miB q) pc = .ok (.dreturn, 1) ∧ miR q = some .double
  | _ => False
set_option maxHeartbeats 8000000 in
theorem pstep_inr {q : MI} {pc : Nat} (M : rowsOK q) (x : pstep q pc pl st h = some (cs, .inr z)) (hc : allP cs) :
    (∃ v, z = .inl v ∧ retAt q pc v ∧ st = v.toList) ∨ (∃ k n g cls, codeAt q pc = some (.new k, n, g) ∧ cpT (miK q) k = some cls ∧ z = .inr (.inl cls) ∧ st = []) ∨
    (∃ k y, decode (miB q) pc = .ok (.invokestatic k, 3) ∧ cpM (miK q) k = some y ∧ callO y true (pc + 3) st h = some (cs, .inr z)) ∨ (∃ k y, decode (miB q) pc = .ok (.invokevirtual k, 3) ∧ cpM (miK q) k = some y ∧ callO y false (pc + 3) st h = some (cs, .inr z)) := by
  unfold pstep at x
  cases hcode : codeAt q pc with
  | none =>
    rw [hcode] at x
    cases x
  | some y =>
    obtain ⟨i, n, g⟩ := y
    rw [hcode] at x
    dsimp only at x
    have hr := M pc _ hcode
    cases i
    case ireturn =>
      obtain ⟨hd, rfl⟩ := dec_of hr rfl
      simp only [pstepI] at x
      split at x
      next v =>
        split at x
        next hq =>
          simp only [Option.some.injEq, Prod.mk.injEq, Sum.inr.injEq] at x
          exact Or.inl ⟨_, x.2.symm, ⟨hd, Or.inl hq⟩, rfl⟩
        next hq =>
          simp only [Option.some.injEq, Prod.mk.injEq, Sum.inr.injEq] at x
          rw [← x.1] at hc
          exact Or.inl ⟨_, x.2.symm, ⟨hd, Or.inr (Or.inl ⟨hq, hc.1⟩)⟩, rfl⟩
        next hq =>
          simp only [Option.some.injEq, Prod.mk.injEq, Sum.inr.injEq] at x
          rw [← x.1] at hc
          exact Or.inl ⟨_, x.2.symm, ⟨hd, Or.inr (Or.inr ⟨hq, hc.1⟩)⟩, rfl⟩
        next => cases x
      next => cases x
    case lreturn =>
      obtain ⟨hd, rfl⟩ := dec_of hr rfl
      simp only [pstepI] at x
      split at x
      next v =>
        split at x
        next hq =>
          simp only [Option.some.injEq, Prod.mk.injEq, Sum.inr.injEq] at x
          exact Or.inl ⟨_, x.2.symm, ⟨hd, hq⟩, rfl⟩
        next => cases x
      next => cases x
    case freturn =>
      obtain ⟨hd, rfl⟩ := dec_of hr rfl
      simp only [pstepI] at x
      split at x
      next v =>
        split at x
        next hq =>
          simp only [Option.some.injEq, Prod.mk.injEq, Sum.inr.injEq] at x
          exact Or.inl ⟨_, x.2.symm, ⟨hd, hq⟩, rfl⟩
        next => cases x
      next => cases x
    case dreturn =>
      obtain ⟨hd, rfl⟩ := dec_of hr rfl
      simp only [pstepI] at x
      split at x
      next v =>
        split at x
        next hq =>
          simp only [Option.some.injEq, Prod.mk.injEq, Sum.inr.injEq] at x
          exact Or.inl ⟨_, x.2.symm, ⟨hd, hq⟩, rfl⟩
        next => cases x
      next => cases x
    case return_ =>
      obtain ⟨hd, rfl⟩ := dec_of hr rfl
      simp only [pstepI] at x
      split at x
      next =>
        split at x
        next hq =>
          simp only [Option.some.injEq, Prod.mk.injEq, Sum.inr.injEq] at x
          exact Or.inl ⟨_, x.2.symm, ⟨hd, hq⟩, rfl⟩
        next => cases x
      next => cases x
    case new k =>
      simp only [pstepI] at x
      split at x
      next =>
        split at x
        next cls hq =>
          simp only [Option.some.injEq, Prod.mk.injEq, Sum.inr.injEq] at x
          exact Or.inr (Or.inl ⟨k, n, g, cls, rfl, hq, x.2.symm, rfl⟩)
        next => cases x
      next => cases x
    case invokestatic k =>
      obtain ⟨hd, rfl⟩ := dec_of hr rfl
      simp only [pstepI] at x
      cases hz : Nat.beq (miK q) 3 && Nat.beq k 15 with
      | false =>
        rw [hz] at x
        dsimp only [cond_false] at x
        cases hw : Nat.beq (miK q) 12 && Nat.beq k 92 with
        | true =>
          rw [hw] at x
          exact (ni_opM x).elim
        | false =>
          rw [hw] at x
          dsimp only [cond_false] at x
          cases hv : Nat.beq (miK q) 12 && Nat.beq k 38 with
          | true =>
            rw [hv] at x
            exact (ni_opM x).elim
          | false =>
            rw [hv] at x
            dsimp only [cond_false] at x
            split at x
            next y hy => exact Or.inr (Or.inr (Or.inl ⟨k, y, hd, hy, x⟩))
            next => cases x
      | true =>
        rw [hz] at x
        exact (ni_extCopy x).elim
    case invokevirtual k =>
      obtain ⟨hd, rfl⟩ := dec_of hr rfl
      simp only [pstepI] at x
      split at x
      next y hy => exact Or.inr (Or.inr (Or.inr ⟨k, y, hd, hy, x⟩))
      next => cases x
    case ifCond cond off => cases cond <;> exact (ni_br1 x).elim
    case if_icmp cond off => cases cond <;> exact (ni_br2 x).elim
    case dconst i =>
      match i, x with
      | 0, x => exact (nx_no x).elim
      | 1, x => exact (nx_no x).elim
    case getstatic i =>
      simp only [pstepI] at x
      cases hz : Nat.beq (miK q) 4 && Nat.beq i 15 with
      | false =>
        rw [hz] at x
        dsimp only [cond_false] at x
        cases hw : Nat.beq (miK q) 11 && Nat.beq i 38 with
        | false =>
          rw [hw] at x
          cases x
        | true =>
          rw [hw] at x
          exact (nx_no x).elim
      | true =>
        rw [hz] at x
        exact (nx_no x).elim
    case getfield i =>
      simp only [pstepI] at x
      cases hz : Nat.beq (miK q) 11 with
      | true =>
        rw [hz] at x
        exact (ni_getS x).elim
      | false =>
        rw [hz] at x
        exact (ni_getF x).elim
    case ldc i =>
      simp only [pstepI] at x
      cases hz : Nat.beq (miK q) 5 && Nat.beq i 56 with
      | true =>
        rw [hz] at x
        exact (nx_no x).elim
      | false =>
        rw [hz] at x
        dsimp only [cond_false] at x
        split at x
        · exact (nx_no x).elim
        · split at x
          · exact (nx_no x).elim
          · cases x
    case dup =>
      simp only [pstepI] at x
      split at x
      next v r =>
        cases hz : Nat.beq v.category 1 with
        | false =>
          rw [hz] at x
          cases x
        | true =>
          rw [hz] at x
          exact (nx_no x).elim
      next => cases x
    case pop =>
      simp only [pstepI] at x
      split at x
      next v r =>
        cases hz : Nat.beq v.category 1 with
        | false =>
          rw [hz] at x
          cases x
        | true =>
          rw [hz] at x
          exact (nx_no x).elim
      next => cases x
    case dup2 =>
      simp only [pstepI] at x
      split at x
      next v w r =>
        cases hz : Nat.beq v.category 1 && Nat.beq w.category 1 with
        | false =>
          rw [hz] at x
          cases x
        | true =>
          rw [hz] at x
          exact (nx_no x).elim
      next => cases x
    all_goals first
      | exact (ni_ldI x).elim
      | exact (ni_ldJ x).elim
      | exact (ni_ldD x).elim
      | exact (ni_ldA x).elim
      | exact (ni_stI x).elim
      | exact (ni_stA x).elim
      | exact (ni_stJ x).elim
      | exact (ni_stD x).elim
      | exact (ni_opI x).elim
      | exact (ni_opJ x).elim
      | exact (ni_opS x).elim
      | exact (ni_opDv x).elim
      | exact (ni_opD x).elim
      | exact (ni_astI x).elim
      | exact (ni_astJ x).elim
      | exact (ni_aldA x).elim
      | exact (ni_astA x).elim
      | exact (ni_aldI x).elim
      | exact (ni_aldJ x).elim
      | exact (ni_aldB x).elim
      | exact (ni_alen x).elim
      | exact (ni_tsw x).elim
      | exact (ni_putF x).elim
      | exact (nx_no x).elim
      | (simp only [pstepI] at x; (repeat' split at x) <;> first | (cases x; done) | exact (nx_no x).elim | exact (nxc_no x).elim)
      | (exfalso; simp [pstepI] at x; done)
end InrP
