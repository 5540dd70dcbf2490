/-! THE HEAP of the class, of the reference and of the law's row, as values -/
abbrev SV : Type := (Nat → Int32) × Int32 × Int64 × Int32 × Int32
/-- now, snapshot, the row of saved states, the six states, the buffer, its length, end, roundCount, barredAlone, found, used, isFresh, savedCount, hasSnapshot -/
abbrev CT : Type := SV × SV × (Nat → Option Nat) × (Nat → SV) × (Nat → Int32) × Int32 × Int64 × Int32 × (Nat → Int32) × Int32 × Int64 × Int32 × Int32 × Int32
/-- s, before, known, kept, isKept, orders, buffer, length, thrown, mask, old, turns, isBad, spot, solved, alone, barred, truly, at, isWrong, hash, second -/
abbrev MT : Type := (Nat → Int32) × (Nat → Int32) × Int32 × (Nat → Int32) × Int32 × (Nat → Int32) × (Nat → Int32) × Int32 × Int32 × (Nat → Int32) × (Nat → Int32) × Int32 × Int32 × (Nat → Int32) × Int32 × (Nat → Int32) × (Nat → Int32) × (Nat → Int32) × Int32 × Int32 × Int64 × (Nat → Int32)
def stE (a : Nat) (v : SV) : PE := .inr (1, [.ref a, .int v.2.1, .long v.2.2.1, .int v.2.2.2.1, .int v.2.2.2.2])
def arE (n : Nat) (f : Nat → Int32) : PE := .inl (0, n, .inl f)
def HP (X : Nat × (Nat → Int32)) (c : CT) (m : MT) (o : Nat → Int64) : PH :=
  (X, [.inr (4, [.ref 1, .ref 3, .ref 5, .ref 6, .ref 8, .ref 9, .int c.2.2.2.2.2.2.2.2.2.2.2.2.1, .int c.2.2.2.2.2.2.2.2.2.2.2.2.2]),
    stE 2 c.1, arE 12 c.1.1, stE 4 c.2.1, arE 12 c.2.1.1, .inl (2, 6, .inr (.inr (.inr (.inr c.2.2.1)))),
    .inr (3, [.ref 7, .int c.2.2.2.2.2.1]), arE 60 c.2.2.2.2.1, .inr (0, [.long c.2.2.2.2.2.2.1, .int c.2.2.2.2.2.2.2.1]),
    .inr (2, [.ref 10, .int c.2.2.2.2.2.2.2.2.2.1, .long c.2.2.2.2.2.2.2.2.2.2.1, .int c.2.2.2.2.2.2.2.2.2.2.2.1]), arE 12 c.2.2.2.2.2.2.2.2.1,
    stE 12 (c.2.2.2.1 0), arE 12 (c.2.2.2.1 0).1, stE 14 (c.2.2.2.1 1), arE 12 (c.2.2.2.1 1).1, stE 16 (c.2.2.2.1 2), arE 12 (c.2.2.2.1 2).1,
    stE 18 (c.2.2.2.1 3), arE 12 (c.2.2.2.1 3).1, stE 20 (c.2.2.2.1 4), arE 12 (c.2.2.2.1 4).1, stE 22 (c.2.2.2.1 5), arE 12 (c.2.2.2.1 5).1,
    .inr (5, [.ref 24, .ref 25, .int m.2.2.1, .ref 26, .int m.2.2.2.2.1, .ref 27, .ref 28, .int m.2.2.2.2.2.2.2.1, .int m.2.2.2.2.2.2.2.2.1, .ref 29, .ref 30, .int m.2.2.2.2.2.2.2.2.2.2.2.1, .int m.2.2.2.2.2.2.2.2.2.2.2.2.1, .ref 31, .int m.2.2.2.2.2.2.2.2.2.2.2.2.2.2.1, .ref 32, .ref 33, .ref 34,
      .int m.2.2.2.2.2.2.2.2.2.2.2.2.2.2.2.2.2.2.1, .int m.2.2.2.2.2.2.2.2.2.2.2.2.2.2.2.2.2.2.2.1, .long m.2.2.2.2.2.2.2.2.2.2.2.2.2.2.2.2.2.2.2.2.1, .ref 35]),
    arE 63 m.1, arE 378 m.2.1, arE 63 m.2.2.2.1, arE 96 m.2.2.2.2.2.1, arE 60 m.2.2.2.2.2.2.1, arE 12 m.2.2.2.2.2.2.2.2.2.1, arE 12 m.2.2.2.2.2.2.2.2.2.2.1, arE 12 m.2.2.2.2.2.2.2.2.2.2.2.2.2.1, arE 12 m.2.2.2.2.2.2.2.2.2.2.2.2.2.2.2.1,
    arE 12 m.2.2.2.2.2.2.2.2.2.2.2.2.2.2.2.2.1, arE 12 m.2.2.2.2.2.2.2.2.2.2.2.2.2.2.2.2.2.1, arE 12 m.2.2.2.2.2.2.2.2.2.2.2.2.2.2.2.2.2.2.2.2.2, .inl (1, 1, .inr (.inl o))])
