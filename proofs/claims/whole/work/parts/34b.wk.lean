/-! LOCALS THAT ARE FORGOTTEN: a run that needs less also runs with more -/
def PLe : PL → PL → Prop
  | [], [] => True
  | a :: s, b :: t => (a = none ∨ a = b) ∧ PLe s t
  | _, _ => False
def rpR (b : PL) : PR → PR
  | .inl (pc, _, st, h) => .inl (pc, b, st, h)
  | .inr z => .inr z
def rp (b : PL) : PO → PO
  | some (cs, r) => some (cs, rpR b r)
  | none => none
theorem rp_none (b : PL) : (none : PO) = rp b none := rfl
theorem rp_nx {n : Nat} {b : PL} {st : List Value} {h : PH} : nx n b st h = rp b (nx n [] st h) := rfl
theorem rp_nxc {c : Prop} {n : Nat} {b : PL} {st : List Value} {h : PH} : nxc c n b st h = rp b (nxc c n [] st h) := rfl
theorem rp_cond {c : Bool} {b : PL} {x y x' y' : PO} (hx : x = rp b x') (hy : y = rp b y') : (bif c then x else y) = rp b (bif c then x' else y') := by cases c <;> assumption
theorem PLe.refl : ∀ a : PL, PLe a a
  | [] => trivial
  | _ :: t => ⟨Or.inr rfl, PLe.refl t⟩
theorem PLe.len : ∀ {a b : PL}, PLe a b → a.length = b.length
  | [], [], _ => rfl
  | _ :: s, _ :: t, h => by rw [List.length_cons, List.length_cons, PLe.len h.2]
  | [], _ :: _, h => h.elim
  | _ :: _, [], h => h.elim
theorem PLe.get : ∀ {a b : PL} {i : Nat} {v : Value}, PLe a b → a[i]? = some (some v) → b[i]? = some (some v)
  | [], [], _, _, _, h => by simp at h
  | x :: s, y :: t, 0, v, hl, h => by
    simp only [List.getElem?_cons_zero, Option.some.injEq] at h
    rcases hl.1 with z | z
    · rw [z] at h
      cases h
    · rw [← z, h]
      rfl
  | x :: s, y :: t, i + 1, v, hl, h => PLe.get (i := i) hl.2 h
  | [], _ :: _, _, _, hl, _ => hl.elim
  | _ :: _, [], _, _, hl, _ => hl.elim
theorem PLe.setN : ∀ {a b : PL} (i : Nat), PLe a b → PLe (setN a i) (setN b i)
  | [], [], _, _ => trivial
  | _ :: _, _ :: _, 0, h => ⟨Or.inl rfl, h.2⟩
  | _ :: _, _ :: _, i + 1, h => ⟨h.1, PLe.setN i h.2⟩
  | [], _ :: _, _, h => h.elim
  | _ :: _, [], _, h => h.elim
theorem kill2_le {a b : Option Value} (h : a = none ∨ a = b) : kill2 a = none ∨ kill2 a = kill2 b := by
  rcases h with rfl | rfl
  · exact Or.inl rfl
  · exact Or.inr rfl
theorem PLe.setL : ∀ {a b : PL} (i : Nat) (v : Option Value), PLe a b → PLe (setL a i v) (setL b i v)
  | [], [], _, _, _ => trivial
  | _ :: _, _ :: _, 0, _, h => ⟨Or.inr rfl, h.2⟩
  | _ :: _, _ :: _, 1, v, h => ⟨kill2_le h.1, PLe.setL 0 v h.2⟩
  | _ :: _, _ :: _, i + 2, v, h => ⟨h.1, PLe.setL (i + 1) v h.2⟩
  | [], _ :: _, _, _, h => h.elim
  | _ :: _, [], _, _, h => h.elim
section WkP
variable {n i g : Nat} {b : PL} {st : List Value} {h : PH}
theorem rp_opI {f : Int32 → Int32 → Int32} : opI f n b st h = rp b (opI f n [] st h) := by
  unfold opI
  (repeat' split) <;> first | rfl | (rename_i z; exact absurd z (by simp_all)) | simp_all
theorem rp_opJ {f : Int64 → Int64 → Int64} : opJ f n b st h = rp b (opJ f n [] st h) := by
  unfold opJ
  (repeat' split) <;> first | rfl | (rename_i z; exact absurd z (by simp_all)) | simp_all
theorem rp_opS {f : Int64 → Int32 → Int64} : opS f n b st h = rp b (opS f n [] st h) := by
  unfold opS
  (repeat' split) <;> first | rfl | (rename_i z; exact absurd z (by simp_all)) | simp_all
theorem rp_opDv {f : Int32 → Int32 → Int32} : opDv f n b st h = rp b (opDv f n [] st h) := by
  unfold opDv
  (repeat' split) <;> first | rfl | (rename_i z; exact absurd z (by simp_all)) | simp_all
theorem rp_opD {f : UInt64 → UInt64 → UInt64} : opD f n b st h = rp b (opD f n [] st h) := by
  unfold opD
  (repeat' split) <;> first | rfl | (rename_i z; exact absurd z (by simp_all)) | simp_all
theorem rp_br1 {t : Int32 → Bool} : br1 t n g b st h = rp b (br1 t n g [] st h) := by
  unfold br1
  (repeat' split) <;> first | rfl | (rename_i z; exact absurd z (by simp_all)) | simp_all
theorem rp_br2 {t : Int32 → Int32 → Bool} : br2 t n g b st h = rp b (br2 t n g [] st h) := by
  unfold br2
  (repeat' split) <;> first | rfl | (rename_i z; exact absurd z (by simp_all)) | simp_all
theorem rp_astI  : astI n b st h = rp b (astI n [] st h) := by
  unfold astI
  (repeat' split) <;> first | rfl | (rename_i z; exact absurd z (by simp_all)) | simp_all
theorem rp_astJ  : astJ n b st h = rp b (astJ n [] st h) := by
  unfold astJ
  (repeat' split) <;> first | rfl | (rename_i z; exact absurd z (by simp_all)) | simp_all
theorem rp_aldA  : aldA n b st h = rp b (aldA n [] st h) := by
  unfold aldA
  (repeat' split) <;> first | rfl | (rename_i z; exact absurd z (by simp_all)) | simp_all
theorem rp_astA  : astA n b st h = rp b (astA n [] st h) := by
  unfold astA
  (repeat' split) <;> first | rfl | (rename_i z; exact absurd z (by simp_all)) | simp_all
theorem rp_extCopy  : extCopy n b st h = rp b (extCopy n [] st h) := by
  unfold extCopy
  (repeat' split) <;> first | rfl | (rename_i z; exact absurd z (by simp_all)) | simp_all
theorem rp_opM {mx : Bool} : opM mx n b st h = rp b (opM mx n [] st h) := by
  unfold opM
  (repeat' split) <;> first | rfl | (rename_i z; exact absurd z (by simp_all)) | simp_all
theorem rp_tsw {d lo hi : Int} {offs : Array Int} : tsw d lo hi offs n b st h = rp b (tsw d lo hi offs n [] st h) := by
  unfold tsw
  (repeat' split) <;> first | rfl | (rename_i z; exact absurd z (by simp_all)) | simp_all
theorem rp_getF {cf : Option (Nat × Nat × Nat)} : getF cf n b st h = rp b (getF cf n [] st h) := by
  unfold getF
  split
  · split
    · refine rp_cond ?_ rfl
      split <;> rfl
    · rfl
  · rfl
theorem rp_putF {cf : Option (Nat × Nat × Nat)} : putF cf n b st h = rp b (putF cf n [] st h) := by
  unfold putF
  split
  · split
    · refine rp_cond ?_ rfl
      split <;> rfl
    · rfl
  · rfl
theorem rp_aldI {lw : Bool} : aldI lw n b st h = rp b (aldI lw n [] st h) := by
  unfold aldI
  split
  · split
    · rfl
    · rfl
    · exact rp_cond rfl rfl
  · rfl
theorem rp_aldJ : aldJ n b st h = rp b (aldJ n [] st h) := by
  unfold aldJ
  split
  · split
    · rfl
    · rfl
    · exact rp_cond rfl rfl
  · rfl
theorem rp_aldB : aldB n b st h = rp b (aldB n [] st h) := by
  unfold aldB
  split
  · split
    · rfl
    · exact rp_cond rfl rfl
  · rfl
theorem rp_alen {lw : Bool} : alen lw n b st h = rp b (alen lw n [] st h) := by
  unfold alen
  split
  · split
    · rfl
    · exact rp_cond rfl (rp_cond rfl rfl)
  · rfl
theorem rp_getS : getS i n b st h = rp b (getS i n [] st h) := by
  unfold getS
  split
  · exact rp_cond (rp_cond rfl (rp_cond rfl rfl)) rfl
  · rfl
theorem rp_callO {q : MI} {s9 : Bool} : callO q s9 n st h = rp b (callO q s9 n st h) := by
  unfold callO
  exact rp_cond rfl rfl
end WkP
/-- what two steps have in common -/
def RLe : PR → PR → Prop
  | .inl (pc, a, st, h), .inl (pc', b, st', h') => pc = pc' ∧ PLe a b ∧ st = st' ∧ h = h'
  | .inr z, .inr z' => z = z'
  | _, _ => False
theorem RLe_rp {a b : PL} (hl : PLe a b) (r : PR) : RLe (rpR a r) (rpR b r) := by
  rcases r with ⟨pc, x, st, h⟩ | z
  · exact ⟨rfl, hl, rfl, rfl⟩
  · rfl
theorem wk_rp {a b : PL} {x : PO} (hl : PLe a b) {cs : List Prop} {r : PR} (e : rp a x = some (cs, r)) : ∃ r', rp b x = some (cs, r') ∧ RLe r r' := by
  cases x with
  | none => cases e
  | some y =>
    obtain ⟨c2, r2⟩ := y
    simp only [rp, Option.some.injEq, Prod.mk.injEq] at e
    obtain ⟨rfl, rfl⟩ := e
    exact ⟨_, rfl, RLe_rp hl r2⟩
theorem wk_ldI {n i : Nat} {a b : PL} {st : List Value} {h : PH} (hl : PLe a b) {cs : List Prop} {r : PR} (e : ldI n i a st h = some (cs, r)) : ∃ r', ldI n i b st h = some (cs, r') ∧ RLe r r' := by
  unfold ldI at e ⊢
  split at e
  next x hx =>
    rw [hl.get hx]
    simp only [nx, Option.some.injEq, Prod.mk.injEq] at e
    obtain ⟨rfl, rfl⟩ := e
    exact ⟨_, rfl, rfl, hl, rfl, rfl⟩
  next => cases e
theorem wk_ldJ {n i : Nat} {a b : PL} {st : List Value} {h : PH} (hl : PLe a b) {cs : List Prop} {r : PR} (e : ldJ n i a st h = some (cs, r)) : ∃ r', ldJ n i b st h = some (cs, r') ∧ RLe r r' := by
  unfold ldJ at e ⊢
  split at e
  next x hx =>
    rw [hl.get hx]
    simp only [nx, Option.some.injEq, Prod.mk.injEq] at e
    obtain ⟨rfl, rfl⟩ := e
    exact ⟨_, rfl, rfl, hl, rfl, rfl⟩
  next => cases e
theorem wk_ldD {n i : Nat} {a b : PL} {st : List Value} {h : PH} (hl : PLe a b) {cs : List Prop} {r : PR} (e : ldD n i a st h = some (cs, r)) : ∃ r', ldD n i b st h = some (cs, r') ∧ RLe r r' := by
  unfold ldD at e ⊢
  split at e
  next x hx =>
    rw [hl.get hx]
    simp only [nx, Option.some.injEq, Prod.mk.injEq] at e
    obtain ⟨rfl, rfl⟩ := e
    exact ⟨_, rfl, rfl, hl, rfl, rfl⟩
  next => cases e
theorem wk_ldA {n i : Nat} {a b : PL} {st : List Value} {h : PH} (hl : PLe a b) {cs : List Prop} {r : PR} (e : ldA n i a st h = some (cs, r)) : ∃ r', ldA n i b st h = some (cs, r') ∧ RLe r r' := by
  unfold ldA at e ⊢
  split at e
  next x hx =>
    rw [hl.get hx]
    simp only [nx, Option.some.injEq, Prod.mk.injEq] at e
    obtain ⟨rfl, rfl⟩ := e
    exact ⟨_, rfl, rfl, hl, rfl, rfl⟩
  next => cases e
theorem wk_stI {n i : Nat} {a b : PL} {st : List Value} {h : PH} (hl : PLe a b) {cs : List Prop} {r : PR} (e : stI n i a st h = some (cs, r)) : ∃ r', stI n i b st h = some (cs, r') ∧ RLe r r' := by
  unfold stI at e ⊢
  split at e
  next x r9 =>
    rw [hl.len] at e
    split at e
    next hi =>
      simp only [nx, Option.some.injEq, Prod.mk.injEq] at e
      obtain ⟨rfl, rfl⟩ := e
      refine ⟨_, if_pos hi, rfl, hl.setL i _, rfl, rfl⟩
    next => cases e
  next => cases e
theorem wk_stA {n i : Nat} {a b : PL} {st : List Value} {h : PH} (hl : PLe a b) {cs : List Prop} {r : PR} (e : stA n i a st h = some (cs, r)) : ∃ r', stA n i b st h = some (cs, r') ∧ RLe r r' := by
  unfold stA at e ⊢
  split at e
  next x r9 =>
    rw [hl.len] at e
    split at e
    next hi =>
      simp only [nx, Option.some.injEq, Prod.mk.injEq] at e
      obtain ⟨rfl, rfl⟩ := e
      refine ⟨_, if_pos hi, rfl, hl.setL i _, rfl, rfl⟩
    next => cases e
  next => cases e
theorem wk_stJ {n i : Nat} {a b : PL} {st : List Value} {h : PH} (hl : PLe a b) {cs : List Prop} {r : PR} (e : stJ n i a st h = some (cs, r)) : ∃ r', stJ n i b st h = some (cs, r') ∧ RLe r r' := by
  unfold stJ at e ⊢
  split at e
  next x r9 =>
    rw [hl.len] at e
    split at e
    next hi =>
      simp only [nx, Option.some.injEq, Prod.mk.injEq] at e
      obtain ⟨rfl, rfl⟩ := e
      refine ⟨_, if_pos hi, rfl, (hl.setL i _).setN (i + 1), rfl, rfl⟩
    next => cases e
  next => cases e
theorem wk_stD {n i : Nat} {a b : PL} {st : List Value} {h : PH} (hl : PLe a b) {cs : List Prop} {r : PR} (e : stD n i a st h = some (cs, r)) : ∃ r', stD n i b st h = some (cs, r') ∧ RLe r r' := by
  unfold stD at e ⊢
  split at e
  next x r9 =>
    rw [hl.len] at e
    split at e
    next hi =>
      simp only [nx, Option.some.injEq, Prod.mk.injEq] at e
      obtain ⟨rfl, rfl⟩ := e
      refine ⟨_, if_pos hi, rfl, (hl.setL i _).setN (i + 1), rfl, rfl⟩
    next => cases e
  next => cases e
set_option maxHeartbeats 8000000 in
theorem wk_I {lw : Bool} {rt : Option FieldType} {k pc n g : Nat} {a b : PL} {st : List Value} {h : PH} (hl : PLe a b) {cs : List Prop} {r : PR} {i : Instr} (e : pstepI lw rt k pc n g a st h i = some (cs, r)) : ∃ r', pstepI lw rt k pc n g b st h i = some (cs, r') ∧ RLe r r' := by
  have fin : (∀ p : PL, pstepI lw rt k pc n g p st h i = rp p (pstepI lw rt k pc n g [] st h i)) → ∃ r', pstepI lw rt k pc n g b st h i = some (cs, r') ∧ RLe r r' := by
    intro f
    rw [f a] at e
    rw [f b]
    exact wk_rp hl e
  cases i
  case iload i => exact wk_ldI hl e
  case iload_n i => exact wk_ldI hl e
  case lload i => exact wk_ldJ hl e
  case lload_n i => exact wk_ldJ hl e
  case dload i => exact wk_ldD hl e
  case dload_n i => exact wk_ldD hl e
  case aload i => exact wk_ldA hl e
  case aload_n i => exact wk_ldA hl e
  case istore i => exact wk_stI hl e
  case istore_n i => exact wk_stI hl e
  case lstore i => exact wk_stJ hl e
  case lstore_n i => exact wk_stJ hl e
  case dstore i => exact wk_stD hl e
  case dstore_n i => exact wk_stD hl e
  case astore i => exact wk_stA hl e
  case astore_n i => exact wk_stA hl e
  case iinc i v =>
    simp only [pstepI] at e ⊢
    split at e
    next x hx =>
      rw [hl.get hx]
      simp only [nx, Option.some.injEq, Prod.mk.injEq] at e
      obtain ⟨rfl, rfl⟩ := e
      exact ⟨_, rfl, rfl, hl.setL i _, rfl, rfl⟩
    next => cases e
  case ifCond c off => cases c <;> exact fin (fun p => rp_br1)
  case if_icmp c off => cases c <;> exact fin (fun p => rp_br2)
  case ldc i =>
    refine fin (fun p => ?_)
    simp only [pstepI]
    refine rp_cond rfl ?_
    split
    · rfl
    · split <;> rfl
  case invokestatic i =>
    refine fin (fun p => ?_)
    simp only [pstepI]
    refine rp_cond rp_extCopy (rp_cond rp_opM (rp_cond rp_opM ?_))
    split
    · exact rp_callO
    · rfl
  case invokevirtual i =>
    refine fin (fun p => ?_)
    simp only [pstepI]
    split
    · exact rp_callO
    · rfl
  case getfield i => exact fin (fun p => rp_cond rp_getS rp_getF)
  case getstatic i => exact fin (fun p => rp_cond rfl (rp_cond rfl rfl))
  case aastore => exact fin (fun p => rp_astA)
  all_goals first
    | exact fin (fun p => rfl)
    | exact fin (fun p => rp_opI)
    | exact fin (fun p => rp_opJ)
    | exact fin (fun p => rp_opS)
    | exact fin (fun p => rp_opDv)
    | exact fin (fun p => rp_opD)
    | exact fin (fun p => rp_putF)
    | exact fin (fun p => rp_aldI)
    | exact fin (fun p => rp_astI)
    | exact fin (fun p => rp_aldB)
    | exact fin (fun p => rp_aldJ)
    | exact fin (fun p => rp_astJ)
    | exact fin (fun p => rp_aldA)
    | exact fin (fun p => rp_alen)
    | exact fin (fun p => rp_tsw)
    | (refine fin (fun p => ?_); simp only [pstepI]; (repeat' split) <;> first | rfl | exact rp_cond rfl rfl)
theorem wk_step {q : MI} {pc : Nat} {a b : PL} {st : List Value} {h : PH} (hl : PLe a b) {cs : List Prop} {r : PR} (e : pstep q pc a st h = some (cs, r)) : ∃ r', pstep q pc b st h = some (cs, r') ∧ RLe r r' := by
  unfold pstep at e ⊢
  split at e
  next i n g hc => exact wk_I hl e
  next => cases e
theorem wk_run : ∀ (n d : Nat) (q : MI) (pc : Nat) (a b : PL) (st : List Value) (h : PH) (r : (Option Value ⊕ String) × PH × Nat), PLe a b → prun n d q pc a st h = some r → prun n d q pc b st h = some r := by
  intro n
  induction n with
  | zero =>
    intro d q pc a b st h r hl hr
    simp [prun] at hr
  | succ n ih =>
    intro d q pc a b st h r hl hr
    rw [prun] at hr ⊢
    cases hp : pstep q pc a st h with
    | none =>
      rw [hp] at hr
      cases hr
    | some x =>
      obtain ⟨cs, rr⟩ := x
      obtain ⟨rr', hp2, hle⟩ := wk_step hl hp
      rw [hp] at hr
      rw [hp2]
      dsimp only at hr ⊢
      by_cases hc : allP cs
      · rw [if_pos hc] at hr ⊢
        rcases rr with ⟨pc', pl', st', h'⟩ | z
        · rcases rr' with ⟨pc2, pl2, st2, h2⟩ | z'
          · obtain ⟨rfl, h3, rfl, rfl⟩ := hle
            exact ih _ _ _ _ _ _ _ _ h3 hr
          · exact hle.elim
        · rcases rr' with ⟨pc2, pl2, st2, h2⟩ | z'
          · exact hle.elim
          · cases (show z = z' from hle)
            rcases z with v | e | ⟨y, as, pc', rest⟩
            · exact hr
            · exact hr
            · cases d with
              | zero => exact hr
              | succ d =>
                dsimp only at hr ⊢
                cases hq : prun n d y 0 (entP y as) [] h with
                | none =>
                  rw [hq] at hr
                  cases hr
                | some x1 =>
                  rw [hq] at hr
                  obtain ⟨o1, h1, k1⟩ := x1
                  obtain ⟨ro, rh, rk⟩ := r
                  cases o1 with
                  | inl v =>
                    dsimp only at hr ⊢
                    obtain ⟨j, hj, rfl⟩ := addK_some hr
                    rw [ih _ _ _ _ _ _ _ _ hl hj]
                    rfl
                  | inr e =>
                    dsimp only at hr ⊢
                    cases hy : (miH y).isEmpty with
                    | false =>
                      rw [hy] at hr
                      cases hr
                    | true =>
                      rw [hy] at hr
                      dsimp only [cond_true] at hr ⊢
                      cases hh : hndF pc e (miH q) with
                      | none =>
                        rw [hh] at hr
                        exact hr
                      | some z =>
                        rw [hh] at hr
                        dsimp only at hr ⊢
                        obtain ⟨j, hj, rfl⟩ := addK_some hr
                        rw [ih _ _ _ _ _ _ _ _ (hl.setL _ _) hj]
                        rfl
      · rw [if_neg hc] at hr
        cases hr
/-- locals are forgotten, the heap is put otherwise, the top of the stack too -/
theorem Runs.wk {d : Nat} {q : MI} {pc : Nat} {pl pl' : PL} {st st' : List Value} {h h' : PH} {o : Option Value ⊕ String} {h2 : PH} {k : Nat} (hl : PLe pl' pl) (hs : st = st') (hh : h = h') (r : Runs d q pc pl' st' h' o h2 k) : Runs d q pc pl st h o h2 k := by
  subst hs
  subst hh
  obtain ⟨n, e⟩ := r
  exact ⟨n, wk_run _ _ _ _ _ _ _ _ _ hl e⟩
theorem Runs.join {d : Nat} {q : MI} {pc : Nat} {pl : PL} {st : List Value} {h : PH} {o : Option Value ⊕ String} {h2 : PH} {k : Nat} (pc' : Nat) (pl' : PL) (st' : List Value) (h' : PH) (f : Runs d q pc' pl' st' h' o h2 k → Runs d q pc pl st h o h2 k) (r : Runs d q pc' pl' st' h' o h2 k) : Runs d q pc pl st h o h2 k := f r
