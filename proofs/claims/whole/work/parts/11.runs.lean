/-! RUNS of the pure machine: more fuel and more depth keep a result; rules by which a run is put together -/
def Runs (d : Nat) (q : MI) (pc : Nat) (pl : PL) (st : List Value) (h : PH) (o : Option Value ⊕ String) (h' : PH) (k : Nat) : Prop := ∃ n, prun n d q pc pl st h = some (o, h', k)
def Call (d : Nat) (q : MI) (as : List Value) (h : PH) (o : Option Value ⊕ String) (h' : PH) (k : Nat) : Prop := Runs d q 0 (entP q as) [] h o h' k
theorem addK_some {k : Nat} {x : PRes} {o : Option Value ⊕ String} {h : PH} {j : Nat} (e : addK k x = some (o, h, j)) : ∃ j', x = some (o, h, j') ∧ j = k + j' := by
  match x, e with
  | some (o', h', j'), e =>
    simp only [addK, Option.some.injEq, Prod.mk.injEq] at e
    obtain ⟨rfl, rfl, rfl⟩ := e
    exact ⟨j', rfl, rfl⟩
  | none, e => simp [addK] at e
theorem prun_more : ∀ (n d : Nat) (q : MI) (pc : Nat) (pl : PL) (st : List Value) (h : PH) (r : (Option Value ⊕ String) × PH × Nat), prun n d q pc pl st h = some r → prun (n + 1) d q pc pl st h = some r := by
  intro n
  induction n with
  | zero =>
    intro d q pc pl st h r hr
    simp [prun] at hr
  | succ n ih =>
    intro d q pc pl st h r hr
    rw [prun] at hr ⊢
    cases hp : pstep q pc pl st h with
    | none =>
      rw [hp] at hr
      exact hr
    | some x =>
      obtain ⟨cs, rr⟩ := x
      rw [hp] at hr
      dsimp only at hr ⊢
      by_cases hc : allP cs
      · rw [if_pos hc] at hr ⊢
        rcases rr with ⟨pc', pl', st', h'⟩ | v | e | ⟨y, as, pc', rest⟩
        · exact ih _ _ _ _ _ _ _ hr
        · exact hr
        · exact hr
        · cases d with
          | zero => exact hr
          | succ d =>
            dsimp only at hr ⊢
            cases hq : prun n d y 0 (entP y as) [] h with
            | none =>
              rw [hq] at hr
              cases hr
            | some x1 =>
              rw [hq] at hr
              rw [ih _ _ _ _ _ _ _ hq]
              obtain ⟨o1, h1, k1⟩ := x1
              obtain ⟨ro, rh, rk⟩ := r
              cases o1 with
              | inl v =>
                dsimp only at hr ⊢
                obtain ⟨j, hj, rfl⟩ := addK_some hr
                rw [ih _ _ _ _ _ _ _ hj]
                rfl
              | inr e =>
                dsimp only at hr ⊢
                cases hy : (miH y).isEmpty with
                | false =>
                  rw [hy] at hr
                  cases hr
                | true =>
                  rw [hy] at hr
                  dsimp only [cond_true] at hr ⊢
                  cases hh : hndF pc e (miH q) with
                  | none =>
                    rw [hh] at hr
                    exact hr
                  | some z =>
                    rw [hh] at hr
                    dsimp only at hr ⊢
                    obtain ⟨j, hj, rfl⟩ := addK_some hr
                    rw [ih _ _ _ _ _ _ _ hj]
                    rfl
      · rw [if_neg hc] at hr
        cases hr
theorem prun_deep : ∀ (n d : Nat) (q : MI) (pc : Nat) (pl : PL) (st : List Value) (h : PH) (r : (Option Value ⊕ String) × PH × Nat), prun n d q pc pl st h = some r → prun n (d + 1) q pc pl st h = some r := by
  intro n
  induction n with
  | zero =>
    intro d q pc pl st h r hr
    simp [prun] at hr
  | succ n ih =>
    intro d q pc pl st h r hr
    rw [prun] at hr ⊢
    cases hp : pstep q pc pl st h with
    | none =>
      rw [hp] at hr
      exact hr
    | some x =>
      obtain ⟨cs, rr⟩ := x
      rw [hp] at hr
      dsimp only at hr ⊢
      by_cases hc : allP cs
      · rw [if_pos hc] at hr ⊢
        rcases rr with ⟨pc', pl', st', h'⟩ | v | e | ⟨y, as, pc', rest⟩
        · exact ih _ _ _ _ _ _ _ hr
        · exact hr
        · exact hr
        · cases d with
          | zero => cases hr
          | succ d =>
            dsimp only at hr ⊢
            cases hq : prun n d y 0 (entP y as) [] h with
            | none =>
              rw [hq] at hr
              cases hr
            | some x1 =>
              rw [hq] at hr
              rw [ih _ _ _ _ _ _ _ hq]
              obtain ⟨o1, h1, k1⟩ := x1
              obtain ⟨ro, rh, rk⟩ := r
              cases o1 with
              | inl v =>
                dsimp only at hr ⊢
                obtain ⟨j, hj, rfl⟩ := addK_some hr
                rw [ih _ _ _ _ _ _ _ hj]
                rfl
              | inr e =>
                dsimp only at hr ⊢
                cases hy : (miH y).isEmpty with
                | false =>
                  rw [hy] at hr
                  cases hr
                | true =>
                  rw [hy] at hr
                  dsimp only [cond_true] at hr ⊢
                  cases hh : hndF pc e (miH q) with
                  | none =>
                    rw [hh] at hr
                    exact hr
                  | some z =>
                    rw [hh] at hr
                    dsimp only at hr ⊢
                    obtain ⟨j, hj, rfl⟩ := addK_some hr
                    rw [ih _ _ _ _ _ _ _ hj]
                    rfl
      · rw [if_neg hc] at hr
        cases hr
theorem prun_le {n n' d d' : Nat} (hn : n ≤ n') (hd : d ≤ d') {q : MI} {pc : Nat} {pl : PL} {st : List Value} {h : PH} {r : (Option Value ⊕ String) × PH × Nat} (e : prun n d q pc pl st h = some r) : prun n' d' q pc pl st h = some r := by
  have e1 : prun n' d q pc pl st h = some r := by
    induction hn with
    | refl => exact e
    | step _ ih => exact prun_more _ _ _ _ _ _ _ _ ih
  induction hd with
  | refl => exact e1
  | step _ ih => exact prun_deep _ _ _ _ _ _ _ _ ih
theorem Runs.deep {d d' : Nat} {q : MI} {pc : Nat} {pl : PL} {st : List Value} {h : PH} {o : Option Value ⊕ String} {h' : PH} {k : Nat} (hd : d ≤ d') (r : Runs d q pc pl st h o h' k) : Runs d' q pc pl st h o h' k := by
  obtain ⟨n, e⟩ := r
  exact ⟨n, prun_le (Nat.le_refl n) hd e⟩
theorem Call.deep {d d' : Nat} {q : MI} {as : List Value} {h : PH} {o : Option Value ⊕ String} {h' : PH} {k : Nat} (hd : d ≤ d') (r : Call d q as h o h' k) : Call d' q as h o h' k := Runs.deep hd r
theorem allP_app {a b : List Prop} (h : allP (a ++ b)) : allP a ∧ allP b := by
  induction a with
  | nil => exact ⟨trivial, h⟩
  | cons c t ih => exact ⟨⟨h.1, (ih h.2).1⟩, (ih h.2).2⟩
theorem Runs.one {d : Nat} {q : MI} {pc : Nat} {pl : PL} {st : List Value} {h : PH} {o : Option Value ⊕ String} {h2 : PH} {k : Nat} {cs : List Prop} {pc' : Nat} {pl' : PL} {st' : List Value} {h' : PH} (e : pstep q pc pl st h = some (cs, .inl (pc', pl', st', h'))) (hc : allP cs) (r : Runs d q pc' pl' st' h' o h2 k) : Runs d q pc pl st h o h2 k := by
  obtain ⟨n, hn⟩ := r
  refine ⟨n + 1, ?_⟩
  rw [prun, e]
  dsimp only
  rw [if_pos hc]
  exact hn
/-- m instructions at once -/
theorem Runs.go (m : Nat) {d : Nat} {q : MI} {pc : Nat} {pl : PL} {st : List Value} {h : PH} {o : Option Value ⊕ String} {h2 : PH} {k : Nat} {cs : List Prop} {pc' : Nat} {pl' : PL} {st' : List Value} {h' : PH} (e : psteps m q pc pl st h = some (cs, pc', pl', st', h')) (hc : allP cs) (r : Runs d q pc' pl' st' h' o h2 k) : Runs d q pc pl st h o h2 k := by
  induction m generalizing pc pl st h cs with
  | zero =>
    simp only [psteps, Option.some.injEq, Prod.mk.injEq] at e
    obtain ⟨-, rfl, rfl, rfl, rfl⟩ := e
    exact r
  | succ m ih =>
    rw [psteps] at e
    split at e
    next cs1 pc1 pl1 st1 h1 e1 =>
      split at e
      next cs2 r2 e2 =>
        simp only [Option.some.injEq, Prod.mk.injEq] at e
        obtain ⟨rfl, rfl⟩ := e
        obtain ⟨a, b⟩ := allP_app hc
        exact Runs.one e1 a (ih e2 b)
      next => cases e
    next => cases e
theorem Runs.ret {d : Nat} {q : MI} {pc : Nat} {pl : PL} {st : List Value} {h : PH} {cs : List Prop} {v : Option Value} (e : pstep q pc pl st h = some (cs, .inr (.inl v))) (hc : allP cs) : Runs d q pc pl st h (.inl v) h 0 := by
  refine ⟨1, ?_⟩
  rw [prun, e]
  dsimp only
  rw [if_pos hc]
theorem Runs.thr {d : Nat} {q : MI} {pc : Nat} {pl : PL} {st : List Value} {h : PH} {cs : List Prop} {x : String} (e : pstep q pc pl st h = some (cs, .inr (.inr (.inl x)))) (hc : allP cs) : Runs d q pc pl st h (.inr x) h 1 := by
  refine ⟨1, ?_⟩
  rw [prun, e]
  dsimp only
  rw [if_pos hc]
theorem Runs.call {d d1 : Nat} {q y : MI} {pc : Nat} {pl : PL} {st as rest : List Value} {h h1 h2 : PH} {o : Option Value ⊕ String} {k k1 : Nat} {cs : List Prop} {pc' : Nat} {v : Option Value} (e : pstep q pc pl st h = some (cs, .inr (.inr (.inr (y, as, pc', rest))))) (hc : allP cs) (hd : d1 + 1 ≤ d) (c : Call d1 y as h (.inl v) h1 k1) (r : Runs d q pc' pl (v.toList ++ rest) h1 o h2 k) : Runs d q pc pl st h o h2 (k1 + k) := by
  obtain ⟨d, rfl⟩ : ∃ d', d = d' + 1 := ⟨d - 1, by omega⟩
  obtain ⟨n, hn⟩ := c
  obtain ⟨m, hm⟩ := r
  refine ⟨max n m + 1, ?_⟩
  rw [prun, e]
  dsimp only
  rw [if_pos hc]
  rw [prun_le (Nat.le_max_left n m) (Nat.le_of_succ_le_succ hd) hn]
  dsimp only
  rw [prun_le (Nat.le_max_right n m) (Nat.le_refl (d + 1)) hm]
  rfl
theorem Runs.callX {d d1 : Nat} {q y : MI} {pc : Nat} {pl : PL} {st as rest : List Value} {h h1 : PH} {k1 : Nat} {cs : List Prop} {pc' : Nat} {x : String} (e : pstep q pc pl st h = some (cs, .inr (.inr (.inr (y, as, pc', rest))))) (hc : allP cs) (hd : d1 + 1 ≤ d) (c : Call d1 y as h (.inr x) h1 k1) (hy : (miH y).isEmpty = true) (hh : hndF pc x (miH q) = none) : Runs d q pc pl st h (.inr x) h1 k1 := by
  obtain ⟨d, rfl⟩ : ∃ d', d = d' + 1 := ⟨d - 1, by omega⟩
  obtain ⟨n, hn⟩ := c
  refine ⟨n + 1, ?_⟩
  rw [prun, e]
  dsimp only
  rw [if_pos hc]
  rw [prun_le (Nat.le_refl n) (Nat.le_of_succ_le_succ hd) hn]
  dsimp only
  rw [hy]
  dsimp only [cond_true]
  rw [hh]
theorem Runs.callH {d d1 : Nat} {q y : MI} {pc : Nat} {pl : PL} {st as rest : List Value} {h h1 h2 : PH} {o : Option Value ⊕ String} {k k1 : Nat} {cs : List Prop} {pc' ph i : Nat} {x : String} (e : pstep q pc pl st h = some (cs, .inr (.inr (.inr (y, as, pc', rest))))) (hc : allP cs) (hd : d1 + 1 ≤ d) (c : Call d1 y as h (.inr x) h1 k1) (hy : (miH y).isEmpty = true) (hh : hndF pc x (miH q) = some (ph, i)) (r : Runs d q ph (setL pl i none) [] h1 o h2 k) : Runs d q pc pl st h o h2 (k1 + k) := by
  obtain ⟨d, rfl⟩ : ∃ d', d = d' + 1 := ⟨d - 1, by omega⟩
  obtain ⟨n, hn⟩ := c
  obtain ⟨m, hm⟩ := r
  refine ⟨max n m + 1, ?_⟩
  rw [prun, e]
  dsimp only
  rw [if_pos hc]
  rw [prun_le (Nat.le_max_left n m) (Nat.le_of_succ_le_succ hd) hn]
  dsimp only
  rw [hy]
  dsimp only [cond_true]
  rw [hh]
  dsimp only
  rw [prun_le (Nat.le_max_right n m) (Nat.le_refl (d + 1)) hm]
  rfl
/-- a branch: the next place is one of two -/
theorem Runs.br {d : Nat} {q : MI} {a b : Nat} {pl : PL} {st : List Value} {h : PH} {o : Option Value ⊕ String} {h2 : PH} {k : Nat} {c : Bool} (ht : c = true → Runs d q a pl st h o h2 k) (hf : c = false → Runs d q b pl st h o h2 k) : Runs d q (bif c then a else b) pl st h o h2 k := by
  cases c with
  | true => exact ht rfl
  | false => exact hf rfl
