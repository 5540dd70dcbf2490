/-! more rules of runs; values of booleans -/
theorem Runs.cal {d d1 : Nat} {q y : MI} {pc : Nat} {pl : PL} {st as rest : List Value} {h h1 h2 : PH} {o : Option Value ⊕ String} {k : Nat} {cs : List Prop} {pc' : Nat} {v : Option Value} (e : pstep q pc pl st h = some (cs, .inr (.inr (.inr (y, as, pc', rest))))) (hc : allP cs) (hd : d1 + 1 ≤ d) (c : Call d1 y as h (.inl v) h1 0) (r : Runs d q pc' pl (v.toList ++ rest) h1 o h2 k) : Runs d q pc pl st h o h2 k := by
  have z := Runs.call e hc hd c r
  rw [Nat.zero_add] at z
  exact z
theorem Runs.brT {d : Nat} {q : MI} {a b : Nat} {pl : PL} {st : List Value} {h : PH} {o : Option Value ⊕ String} {h2 : PH} {k : Nat} {c : Bool} (hc : c = true) (r : Runs d q a pl st h o h2 k) : Runs d q (bif c then a else b) pl st h o h2 k := by
  rw [hc]
  exact r
theorem Runs.brF {d : Nat} {q : MI} {a b : Nat} {pl : PL} {st : List Value} {h : PH} {o : Option Value ⊕ String} {h2 : PH} {k : Nat} {c : Bool} (hc : c = false) (r : Runs d q b pl st h o h2 k) : Runs d q (bif c then a else b) pl st h o h2 k := by
  rw [hc]
  exact r
theorem Runs.retE {d : Nat} {q : MI} {pc : Nat} {pl : PL} {st : List Value} {h h' : PH} {o : Option Value ⊕ String} {cs : List Prop} {v : Option Value} (e : pstep q pc pl st h = some (cs, .inr (.inl v))) (hc : allP cs) (ho : o = .inl v) (hh : h' = h) : Runs d q pc pl st h o h' 0 := by
  rw [ho, hh]
  exact Runs.ret e hc
def bI (b : Bool) : Int32 := bif b then 1 else 0
theorem bI_01 (b : Bool) : bI b = 0 ∨ bI b = 1 := by cases b <;> simp [bI]
theorem bI_0 (b : Bool) : bI b = 0 ↔ b = false := by cases b <;> simp [bI]
theorem bI_n0 (b : Bool) : ¬ bI b = 0 ↔ b = true := by cases b <;> simp [bI]
theorem retI {x y : Int32} (h : x = y) : (Sum.inl (some (Value.int x)) : Option Value ⊕ String) = .inl (some (.int y)) := by rw [h]
theorem retJ {x y : Int64} (h : x = y) : (Sum.inl (some (Value.long x)) : Option Value ⊕ String) = .inl (some (.long y)) := by rw [h]
