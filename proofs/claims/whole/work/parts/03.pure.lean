/-! THE PURE MACHINE: states of one frame over a heap of numbered cells, with references as numbers -/
abbrev PL : Type := List (Option Value)
abbrev PE : Type := (Nat × vp_A) ⊕ (Nat × List Value)
abbrev PH : Type := (Nat × (Nat → Int32)) × List PE
/-- a method: name, bytes, locals, what it returns, static, key of its own table of constants, arguments, decoded rows by blocks of 32 bytes -/
abbrev MI : Type := MethodName × ByteArray × Nat × Option FieldType × Bool × Nat × Nat × List (Nat × Nat × String × Nat × Nat) × List (List (Nat × Instr × Nat × Nat))
abbrev miN (q : MI) : MethodName := q.1
abbrev miB (q : MI) : ByteArray := q.2.1
abbrev miL (q : MI) : Nat := q.2.2.1
abbrev miR (q : MI) : Option FieldType := q.2.2.2.1
abbrev miS (q : MI) : Bool := q.2.2.2.2.1
abbrev miK (q : MI) : Nat := q.2.2.2.2.2.1
abbrev miA (q : MI) : Nat := q.2.2.2.2.2.2.1
abbrev miH (q : MI) : List (Nat × Nat × String × Nat × Nat) := q.2.2.2.2.2.2.2.1
abbrev miT (q : MI) : List (List (Nat × Instr × Nat × Nat)) := q.2.2.2.2.2.2.2.2
/-- what an instruction comes to: the next state of the frame; its end with a value; a new exception; a call -/
abbrev PR : Type := (Nat × PL × List Value × PH) ⊕ (Option Value ⊕ (String ⊕ (MI × List Value × Nat × List Value)))
abbrev PO : Type := Option (List Prop × PR)
def fnd {α : Type} (k : Nat) : List (Nat × α) → Option α
  | [] => none
  | (j, a) :: t => bif Nat.beq j k then some a else fnd k t
def fnd2 {α : Type} (i k : Nat) (l : List (List (Nat × α))) : Option α :=
  match l[i]? with
  | some r => fnd k r
  | none => none
def codeAt (q : MI) (pc : Nat) : Option (Instr × Nat × Nat) := fnd2 (pc / 32) pc (miT q)
def allP : List Prop → Prop
  | [] => True
  | c :: t => c ∧ allP t
/-- a category 2 value in front of a place that is written is gone -/
def kill2 : Option Value → Option Value
  | some (.long _) => none
  | some (.double _) => none
  | o => o
def setL : PL → Nat → Option Value → PL
  | [], _, _ => []
  | _ :: t, 0, v => v :: t
  | o :: t, 1, v => kill2 o :: setL t 0 v
  | o :: t, i + 2, v => o :: setL t (i + 1) v
def setN : PL → Nat → PL
  | [], _ => []
  | _ :: t, 0 => none :: t
  | o :: t, i + 1 => o :: setN t i
def entL : List Value → PL
  | [] => []
  | v :: t => some v :: (if v.category = 2 then none :: entL t else entL t)
def padL (n : Nat) (l : PL) : PL := l ++ List.replicate (n - l.length) none
def entP (q : MI) (as : List Value) : PL := padL (miL q) (entL as)
def catS : List Value → Nat
  | [] => 0
  | v :: t => v.category + catS t
def nx (pc : Nat) (pl : PL) (st : List Value) (h : PH) : PO := some ([], .inl (pc, pl, st, h))
def nxc (c : Prop) (pc : Nat) (pl : PL) (st : List Value) (h : PH) : PO := some ([c], .inl (pc, pl, st, h))
/-- loads, by the sort of value -/
def ldI (n i : Nat) (pl : PL) (st : List Value) (h : PH) : PO := match pl[i]? with
  | some (some (.int x)) => nx n pl (.int x :: st) h
  | _ => none
def ldJ (n i : Nat) (pl : PL) (st : List Value) (h : PH) : PO := match pl[i]? with
  | some (some (.long x)) => nx n pl (.long x :: st) h
  | _ => none
def ldD (n i : Nat) (pl : PL) (st : List Value) (h : PH) : PO := match pl[i]? with
  | some (some (.double x)) => nx n pl (.double x :: st) h
  | _ => none
def ldA (n i : Nat) (pl : PL) (st : List Value) (h : PH) : PO := match pl[i]? with
  | some (some (.ref x)) => nx n pl (.ref x :: st) h
  | _ => none
def stI (n i : Nat) (pl : PL) (st : List Value) (h : PH) : PO := match st with
  | .int x :: r => if i < pl.length then nx n (setL pl i (some (.int x))) r h else none
  | _ => none
def stA (n i : Nat) (pl : PL) (st : List Value) (h : PH) : PO := match st with
  | .ref x :: r => if i < pl.length then nx n (setL pl i (some (.ref x))) r h else none
  | _ => none
def stJ (n i : Nat) (pl : PL) (st : List Value) (h : PH) : PO := match st with
  | .long x :: r => if i + 1 < pl.length then nx n (setN (setL pl i (some (.long x))) (i + 1)) r h else none
  | _ => none
def stD (n i : Nat) (pl : PL) (st : List Value) (h : PH) : PO := match st with
  | .double x :: r => if i + 1 < pl.length then nx n (setN (setL pl i (some (.double x))) (i + 1)) r h else none
  | _ => none
/-- arithmetic on the top of the stack -/
def opI (f : Int32 → Int32 → Int32) (n : Nat) (pl : PL) (st : List Value) (h : PH) : PO := match st with
  | .int y :: .int x :: r => nx n pl (.int (f x y) :: r) h
  | _ => none
def opJ (f : Int64 → Int64 → Int64) (n : Nat) (pl : PL) (st : List Value) (h : PH) : PO := match st with
  | .long y :: .long x :: r => nx n pl (.long (f x y) :: r) h
  | _ => none
def opS (f : Int64 → Int32 → Int64) (n : Nat) (pl : PL) (st : List Value) (h : PH) : PO := match st with
  | .int y :: .long x :: r => nx n pl (.long (f x y) :: r) h
  | _ => none
def opDv (f : Int32 → Int32 → Int32) (n : Nat) (pl : PL) (st : List Value) (h : PH) : PO := match st with
  | .int y :: .int x :: r => nxc (¬ y = 0) n pl (.int (f x y) :: r) h
  | _ => none
def opD (f : UInt64 → UInt64 → UInt64) (n : Nat) (pl : PL) (st : List Value) (h : PH) : PO := match st with
  | .double y :: .double x :: r => nxc (vf_n64 (f x y)) n pl (.double (f x y) :: r) h
  | _ => none
def br1 (t : Int32 → Bool) (n g : Nat) (pl : PL) (st : List Value) (h : PH) : PO := match st with
  | .int x :: r => nx (bif t x then g else n) pl r h
  | _ => none
def br2 (t : Int32 → Int32 → Bool) (n g : Nat) (pl : PL) (st : List Value) (h : PH) : PO := match st with
  | .int y :: .int x :: r => nx (bif t x y then g else n) pl r h
  | _ => none
/-- what a value of a field of a sort must be: 0 int, 1 long, 2 boolean -/
def fitF (tag : Nat) (v : Value) : Option (List Prop) := match tag, v with
  | 0, .int _ => some []
  | 1, .long _ => some []
  | 2, .int x => some [x = 0 ∨ x = 1]
  | _, _ => none
def getF (cf : Option (Nat × Nat × Nat)) (n : Nat) (pl : PL) (st : List Value) (h : PH) : PO := match cf, st with
  | some (ci, k, _), .ref a :: r => (match h.2[a]? with
    | some (.inr (cj, fs)) => bif Nat.beq ci cj then (match fs[k]? with
      | some v => nx n pl (v :: r) h
      | none => none) else none
    | _ => none)
  | _, _ => none
def putF (cf : Option (Nat × Nat × Nat)) (n : Nat) (pl : PL) (st : List Value) (h : PH) : PO := match cf, st with
  | some (ci, k, tag), v :: .ref a :: r => (match h.2[a]?, fitF tag v with
    | some (.inr (cj, fs)), some cs => bif Nat.beq ci cj then (match fs[k]? with
      | some _ => some (cs, .inl (n, pl, r, (h.1, h.2.set a (.inr (cj, fs.set k v)))))
      | none => none) else none
    | _, _ => none)
  | _, _ => none
/-- the numbers of the law's script and of the static table -/
def idS : Nat := 1000
def idT : Nat := 1001
def tabT (i : Nat) : Int64 := ([33825, 18465, 33345, 10305, 17025, 9345, 33810, 18450, 33090, 6210, 16770, 5250, 33300, 10260, 33060, 6180, 8580, 4740, 16920, 9240, 16680, 5160, 8520, 4680] : List Int64).getD i 0
def aldI (lw : Bool) (n : Nat) (pl : PL) (st : List Value) (h : PH) : PO := match st with
  | .int i :: .ref a :: r => (match h.2[a]? with
    | some (.inl (0, m, .inl f)) => nxc (vp_in i m) n pl (.int (f i.toNatClampNeg) :: r) h
    | some _ => none
    | none => bif Nat.beq a 1000 && lw then nxc (vp_in i h.1.1) n pl (.int (h.1.2 i.toNatClampNeg) :: r) h else none)
  | _ => none
def astI (n : Nat) (pl : PL) (st : List Value) (h : PH) : PO := match st with
  | .int x :: .int i :: .ref a :: r => (match h.2[a]? with
    | some (.inl (0, m, .inl f)) => nxc (vp_in i m) n pl r (h.1, h.2.set a (.inl (0, m, .inl (upd f i.toNatClampNeg x))))
    | _ => none)
  | _ => none
def aldJ (n : Nat) (pl : PL) (st : List Value) (h : PH) : PO := match st with
  | .int i :: .ref a :: r => (match h.2[a]? with
    | some (.inl (1, m, .inr (.inl f))) => nxc (vp_in i m) n pl (.long (f i.toNatClampNeg) :: r) h
    | some _ => none
    | none => bif Nat.beq a 1001 then nxc (vp_in i 24) n pl (.long (tabT i.toNatClampNeg) :: r) h else none)
  | _ => none
def astJ (n : Nat) (pl : PL) (st : List Value) (h : PH) : PO := match st with
  | .long x :: .int i :: .ref a :: r => (match h.2[a]? with
    | some (.inl (1, m, .inr (.inl f))) => nxc (vp_in i m) n pl r (h.1, h.2.set a (.inl (1, m, .inr (.inl (vp_updL f i.toNatClampNeg x)))))
    | _ => none)
  | _ => none
def aldA (n : Nat) (pl : PL) (st : List Value) (h : PH) : PO := match st with
  | .int i :: .ref a :: r => (match h.2[a]? with
    | some (.inl (2, m, .inr (.inr (.inr (.inr f))))) => nxc (vp_in i m) n pl (va_rf (f i.toNatClampNeg) :: r) h
    | _ => none)
  | _ => none
/-- an object of State is put into the row of States -/
def astA (n : Nat) (pl : PL) (st : List Value) (h : PH) : PO := match st with
  | .ref x :: .int i :: .ref a :: r => (match h.2[a]?, h.2[x]? with
    | some (.inl (2, m, .inr (.inr (.inr (.inr f))))), some (.inr (1, _)) => nxc (vp_in i m) n pl r (h.1, h.2.set a (.inl (2, m, .inr (.inr (.inr (.inr (va_up f i.toNatClampNeg (some x)))))))) 
    | _, _ => none)
  | _ => none
def alen (lw : Bool) (n : Nat) (pl : PL) (st : List Value) (h : PH) : PO := match st with
  | .ref a :: r => (match h.2[a]? with
    | some _ => none
    | none => bif Nat.beq a 1000 && lw then nx n pl (.int (Int32.ofNat h.1.1) :: r) h else (bif Nat.beq a 1003 then nx n pl (.int 7 :: r) h else none))
  | _ => none
/-- the text of signs: its bytes; its fields -/
def strB (i : Nat) : Int32 := ([61, 35, 60, 126, 64, 33, 124] : List Int32).getD i 0
def aldB (n : Nat) (pl : PL) (st : List Value) (h : PH) : PO := match st with
  | .int i :: .ref a :: r => (match h.2[a]? with
    | some _ => none
    | none => bif Nat.beq a 1003 then nxc (vp_in i 7) n pl (.int (strB i.toNatClampNeg) :: r) h else none)
  | _ => none
def getS (i n : Nat) (pl : PL) (st : List Value) (h : PH) : PO := match st with
  | .ref a :: r => bif Nat.beq a 1002 then (bif Nat.beq i 9 then nx n pl (.ref 1003 :: r) h else (bif Nat.beq i 15 then nx n pl (.int 0 :: r) h else none)) else none
  | _ => none
def opM (mx : Bool) (n : Nat) (pl : PL) (st : List Value) (h : PH) : PO := match st with
  | .int y :: .int x :: r => nxc (catS r ≤ 8) n pl (.int (bif mx then (if x < y then y else x) else (if y < x then y else x)) :: r) h
  | _ => none
def tsw (dflt lo hi : Int) (offs : Array Int) (pc : Nat) (pl : PL) (st : List Value) (h : PH) : PO := match st with
  | .int x :: r => (if x.toInt < lo ∨ hi < x.toInt then nxc (0 ≤ (pc : Int) + dflt) ((pc : Int) + dflt).toNat pl r h
    else match offs.toList[(x.toInt - lo).toNat]? with
      | some off => nxc (0 ≤ (pc : Int) + off) ((pc : Int) + off).toNat pl r h
      | none => none)
  | _ => none
/-- System.arraycopy of ints, between two rows -/
def extCopy (n : Nat) (pl : PL) (st : List Value) (h : PH) : PO := match st with
  | .int k :: .int dp :: .ref a :: .int sp :: .ref b :: r => (match h.2[b]?, h.2[a]? with
    | some (.inl (0, n0, .inl f)), some (.inl (0, n1, .inl g)) => nxc (((¬ sp < 0) ∧ (¬ dp < 0) ∧ (¬ k < 0)) ∧ sp.toNatClampNeg + k.toNatClampNeg ≤ n0 ∧ dp.toNatClampNeg + k.toNatClampNeg ≤ n1 ∧ r = []) n pl r (h.1, h.2.set a (.inl (0, n1, .inl (va_cpy f g sp.toNatClampNeg dp.toNatClampNeg k.toNatClampNeg))))
    | _, _ => none)
  | _ => none
def callO (q : MI) (stat : Bool) (n : Nat) (st : List Value) (h : PH) : PO :=
  bif (miS q == stat) && Nat.ble (miA q) st.length && Nat.ble (catS (st.drop (miA q))) 8 && Nat.ble (catS (st.take (miA q))) (miL q) && (stat || (match (st.take (miA q)).reverse with
    | .ref a :: _ => (match h.2[a]? with
      | some (.inr (cj, _)) => Nat.beq (cj + 2) (miK q) && Nat.ble (miK q) 7
      | some _ => false
      | none => Nat.beq a 1002 && Nat.beq (miK q) 11)
    | _ => false)) then some ([], .inr (.inr (.inr (q, (st.take (miA q)).reverse, n, st.drop (miA q))))) else none
