/-! WHAT A FRAME STANDS IN: the words of the tables, what is said of a method, of the heap and of what nobody writes -/
def kN : Nat → String
  | 0 => RX0
  | 1 => RX1
  | 2 => RX2
  | 3 => RX3
  | 4 => RX4
  | 5 => RX5
  | 6 => RX6
  | 7 => RX7
  | 8 => RL
  | 9 => RJ6
  | 10 => RJ13
  | 11 => RJ0
  | _ => RJ1
def WORDS : List Cond := lw_tbl.filter goodWord
theorem wm {w : Cond} (n : Nat) (h : lw_tbl[n]? = some w) (g : goodWord w = true) : w ∈ WORDS := List.mem_filter.mpr ⟨List.mem_of_getElem? h, g⟩
def ilen : Instr → Nat
  | .iload _ => 2
  | .lload _ => 2
  | .dload _ => 2
  | .aload _ => 2
  | .istore _ => 2
  | .lstore _ => 2
  | .dstore _ => 2
  | .astore _ => 2
  | .bipush _ => 2
  | .sipush _ => 3
  | .ldc _ => 2
  | .ldc_w _ => 3
  | .ldc2_w _ => 3
  | .ifCond _ _ => 3
  | .if_icmp _ _ => 3
  | .goto _ => 3
  | .iinc _ _ => 3
  | .getfield _ => 3
  | .putfield _ => 3
  | .getstatic _ => 3
  | .invokestatic _ => 3
  | .invokevirtual _ => 3
  | .invokespecial _ => 3
  | .new _ => 3
  | .newarray _ => 2
  | _ => 1
def tgtB (pc g : Nat) : Instr → Bool
  | .ifCond _ off => decide ((pc : Int) + off = (g : Int))
  | .if_icmp _ off => decide ((pc : Int) + off = (g : Int))
  | .goto off => decide ((pc : Int) + off = (g : Int))
  | _ => true
def decB (b : ByteArray) (pc n : Nat) : Instr → Bool
  | .tableswitch d lo hi offs => decide (decode b pc = .ok (.tableswitch d lo hi offs, n - pc))
  | i => decide (decode b pc = .ok (i, ilen i)) && Nat.beq n (pc + ilen i)
def rowB (b : ByteArray) (pc : Nat) (x : Instr × Nat × Nat) : Bool := decB b pc x.2.1 x.1 && tgtB pc x.2.2 x.1
def chunkB (b : ByteArray) (r : List (Nat × Instr × Nat × Nat)) : Bool := r.all (fun y => rowB b y.1 y.2)
theorem fnd_mem {α : Type} {k : Nat} : ∀ {l : List (Nat × α)} {x : α}, fnd k l = some x → (k, x) ∈ l
  | [], x, h => by simp [fnd] at h
  | (j, a) :: t, x, h => by
    rw [fnd] at h
    cases hj : Nat.beq j k with
    | true =>
      rw [hj] at h
      simp only [cond_true, Option.some.injEq] at h
      rw [Nat.eq_of_beq_eq_true hj, h]
      exact List.mem_cons_self
    | false =>
      rw [hj] at h
      exact List.mem_cons_of_mem _ (fnd_mem h)
theorem fnd2_mem {α : Type} {i k : Nat} {l : List (List (Nat × α))} {x : α} (h : fnd2 i k l = some x) : ∃ r, l[i]? = some r ∧ (k, x) ∈ r := by
  rw [fnd2] at h
  cases hl : l[i]? with
  | none =>
    rw [hl] at h
    cases h
  | some r =>
    rw [hl] at h
    exact ⟨r, rfl, fnd_mem h⟩
def rowsOK (q : MI) : Prop := ∀ (pc : Nat) (x : Instr × Nat × Nat), codeAt q pc = some x → rowB (miB q) pc x = true
theorem rowsOK_of {q : MI} (h : ∀ r ∈ miT q, chunkB (miB q) r = true) : rowsOK q := by
  intro pc x hx
  obtain ⟨r, hr, hm⟩ := fnd2_mem hx
  exact List.all_eq_true.mp (h r (List.mem_of_getElem? hr)) (pc, x) hm
/-- what the tables say of a method -/
def MOK (q : MI) : Prop := rowsOK q ∧ Cond.initialized (miN q).cls ∈ WORDS ∧ (bif miS q then Cond.static (miN q) ∈ WORDS else (Cond.instanceMethod (miN q) ∈ WORDS ∧ Cond.selects (miN q).cls (miN q) (miN q) ∈ WORDS)) ∧
  ((miN q).cls ≠ "java/lang/invoke/MethodHandle" ∧ (miN q).cls ≠ "java/lang/invoke/VarHandle" ∧ (parseMethodDescriptor (miN q).desc).map (fun d => d.parameters.length) = some (bif miS q then miA q else miA q - 1)) ∧
  plainName (miN q).cls = true ∧ (miN q).cls = kN (miK q) ∧ miL q ≤ 20 ∧ (bif miS q then 0 else 1) ≤ miA q
def MOKc (q : MI) : Prop := MOK q ∧ miH q = [] ∧ Cond.code (miN q) (miB q) (miL q) (miR q) ∈ WORDS
def tagT : Nat → FieldType
  | 0 => .int
  | 1 => .long
  | _ => .boolean
/-- what the tables say of a field of a constant pool -/
def FOK (k i : Nat) (x : Nat × Nat × Nat) : Prop := ∃ (C : String) (T : u_T) (N : Nat) (ty0 : Nat → FieldType), vwCl[x.1]? = some (C, T, N) ∧ x.2.1 < N ∧ (∀ w ∈ u_ws C T N, w ∈ WORDS) ∧ Cond.fieldLink (kN k) i C (T x.2.1).2.1 (T x.2.1).2.2.1 ∈ WORDS ∧ (T x.2.1).1 = C ∧
  (∀ k, k < N → parseFieldDescriptor (T k).2.2.1 = some (ty0 k)) ∧ (∀ a, a < N → ∀ b, b < N → a ≠ b → (T a).2.1 ≠ (T b).2.1) ∧ (x.2.2 ≤ 2 → (T x.2.1).2.2.2 = false ∧ parseFieldDescriptor (T x.2.1).2.2.1 = some (tagT x.2.2))
def LOK (k i : Nat) (q : MI) : Prop := Cond.methodLink (kN k) i (miN q) ∈ WORDS ∧ (miN q).name ≠ "law"
