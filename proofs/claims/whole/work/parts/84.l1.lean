/-! THE LAW: what always holds between its steps (by hand) -/
abbrev CTN (cl : Nat → Nat) (cn cx ma ru : Nat) (sn : SV) (sg : Nat → Option Nat) (sv : Nat → SV) (cd : Nat → Nat) (ln pe pr : Nat) (ba : Nat → Nat) (fo us : Nat) (fr : Bool) (sc : Nat) (hs : Bool) : CT :=
  ((aN cl, N cn, L cx, N ma, N ru), sn, sg, sv, aN cd, N ln, L pe, N pr, aN ba, N fo, L us, bI fr, N sc, bI hs)
abbrev MTN (S bf : Nat → Nat) (kn : Nat) (kp : Nat → Nat) (ik : Bool) (od bu : Nat → Nat) (le th : Nat) (mk ol : Nat → Nat) (tu : Nat) (ib : Bool) (sp : Nat → Nat) (so : Nat) (al br tr : Nat → Nat) (at_ : Nat) (iw : Bool) (ha : Int64) (se : Nat → Int32) : MT :=
  (aN S, aN bf, N kn, aN kp, bI ik, aN od, aN bu, N le, N th, aN mk, aN ol, N tu, bI ib, aN sp, N so, aN al, aN br, aN tr, N at_, bI iw, ha, se)
theorem KP_HP (X : Nat × (Nat → Int32)) (cl : Nat → Nat) (cn cx ma ru : Nat) (sn : SV) (sg : Nat → Option Nat) (sv : Nat → SV) (cd : Nat → Nat) (ln pe pr : Nat) (ba : Nat → Nat) (fo us : Nat) (fr : Bool) (sc : Nat) (hs : Bool) (m : MT) (o : Nat → Int64) : KP X cl cn cx ma ru sn sg sv cd ln pe pr ba fo us fr sc hs m o = HP X (CTN cl cn cx ma ru sn sg sv cd ln pe pr ba fo us fr sc hs) m o := rfl
theorem MP_HP (X : Nat × (Nat → Int32)) (c : CT) (S bf : Nat → Nat) (kn : Nat) (kp : Nat → Nat) (ik : Bool) (od bu : Nat → Nat) (le th : Nat) (mk ol : Nat → Nat) (tu : Nat) (ib : Bool) (sp : Nat → Nat) (so : Nat) (al br tr : Nat → Nat) (at_ : Nat) (iw : Bool) (ha : Int64) (se : Nat → Int32) (o : Nat → Int64) : MP X c S bf kn kp ik od bu le th mk ol tu ib sp so al br tr at_ iw ha se o = HP X c (MTN S bf kn kp ik od bu le th mk ol tu ib sp so al br tr at_ iw ha se) o := rfl
/-- the class's side of what holds, at row S -/
def IC (c : CT) (S : Nat → Nat) (r sc : Nat) (hs : Bool) (bf kp cd : Nat → Nat) (ln : Nat) : Prop :=
  ∃ (cl : Nat → Nat) (sn : SV) (sv : Nat → SV) (pe pr : Nat) (ba : Nat → Nat) (fo us : Nat) (fr : Bool), c = CTN cl (S 0) (pk (CX S)) (S 61) (S 62) sn (sgR r) sv cd ln pe pr ba fo us fr sc hs ∧ (∀ k, k < S 0 → cl k = ecl S k) ∧ SVI r sc bf sv ∧ (hs = true → REP sn kp) ∧ Z12 ba ∧ (fr = true → fo = SVO S ∧ us = pk (SVU S) ∧ ba = SVA S)
/-- the reference's side of what holds, at row S -/
def IM (m : MT) (S : Nat → Nat) (sc : Nat) (hs : Bool) (bf kp cd : Nat → Nat) (ln th : Nat) : Prop :=
  ∃ (mk ol : Nat → Nat) (tu : Nat) (ib : Bool) (sp : Nat → Nat) (so : Nat) (al br tr : Nat → Nat) (at_ : Nat) (iw : Bool) (ha : Int64) (se : Nat → Int32), m = MTN S bf sc kp hs odC cd ln th mk ol tu ib sp so al br tr at_ iw ha se ∧ Z12 mk ∧ Z12 ol ∧ Z12 sp ∧ Z12 al ∧ Z12 br ∧ Z12 tr
/-- what holds of both -/
def IB (S : Nat → Nat) (r sc : Nat) (kp cd : Nat → Nat) (ln : Nat) : Prop :=
  VC S ∧ ZN 63 S ∧ r < 6 ∧ sc ≤ 6 ∧ ZN 63 kp ∧ BF cd ln ∧ (∀ i, i < 60 → cd i < 127)
def INV (c : CT) (m : MT) (th : Nat) : Prop :=
  ∃ (S : Nat → Nat) (r sc : Nat) (hs : Bool) (bf kp cd : Nat → Nat) (ln : Nat), IB S r sc kp cd ln ∧ IC c S r sc hs bf kp cd ln ∧ IM m S sc hs bf kp cd ln th
theorem row_0 : rowZ = sgR 0 := by
  funext i
  unfold rowZ sgR
  by_cases h : i < 6
  · rcases (show i = 0 ∨ i = 1 ∨ i = 2 ∨ i = 3 ∨ i = 4 ∨ i = 5 by omega) with rfl | rfl | rfl | rfl | rfl | rfl <;> rfl
  · simp [h]
theorem VC_0 : VC (fun _ => 0) := ⟨fun _ _ => (show 0 < 16 by decide), (show 0 ≤ 12 by decide), fun k hk => absurd hk (Nat.not_lt_zero k)⟩
theorem pk_0 : pk (CX (fun _ => 0)) = 0 := by decide +kernel
theorem INV_0 : INV CT0 (MT0 (aN odC)) 0 := by
  refine ⟨fun _ => 0, 0, 0, false, fun _ => 0, fun _ => 0, fun _ => 0, 0, ⟨VC_0, fun _ _ => rfl, by decide, by decide, fun _ _ => rfl, ⟨by decide, fun i hi => absurd hi (Nat.not_lt_zero i)⟩, fun _ _ => (show 0 < 127 by decide)⟩, ?_, ?_⟩
  · refine ⟨fun _ => 0, svZ, fun _ => svZ, 0, 0, fun _ => 0, 0, 0, false, ?_, fun k hk => absurd hk (Nat.not_lt_zero k), fun i hi => absurd hi (Nat.not_lt_zero i), fun z => (by cases z), fun _ _ => rfl, fun z => (by cases z)⟩
    rw [← row_0, pk_0]
    rfl
  · exact ⟨fun _ => 0, fun _ => 0, 0, false, fun _ => 0, 0, fun _ => 0, fun _ => 0, fun _ => 0, 0, false, 0, fun _ => 0, rfl, fun _ _ => rfl, fun _ _ => rfl, fun _ _ => rfl, fun _ _ => rfl, fun _ _ => rfl, fun _ _ => rfl⟩
