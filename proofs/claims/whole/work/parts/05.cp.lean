/-! tables of constants, by key and index -/
noncomputable def cpF (k i : Nat) : Option (Nat × Nat × Nat) := fnd2 k i cpFs
noncomputable def cpM (k i : Nat) : Option MI := fnd2 k i cpMs
noncomputable def cpL (k i : Nat) : Option Int64 := fnd2 k i cpLs
noncomputable def cpD (k i : Nat) : Option UInt64 := fnd2 k i cpDs
noncomputable def cpI (k i : Nat) : Option Int32 := fnd2 k i cpIs
def cpT (k i : Nat) : Option String := bif Nat.beq k 6 then (bif Nat.beq i 189 then some "java/lang/IndexOutOfBoundsException" else bif Nat.beq i 135 then some "java/lang/IllegalArgumentException" else bif Nat.beq i 95 then some "java/lang/IllegalStateException" else none) else none
noncomputable def cpX (k i : Nat) : Option UInt32 := fnd2 k i cpXs
