/-! FROM THE ENTRY OF THE LAW to its loop, and the claim out of runs of the pure machine (gen_start.py) -/
def svZ : SV := (fun _ => 0, 0, 0, 0, 0)
def rowZ : Nat → Option Nat := fun j => if j < 6 then some (11 + 2 * j) else none
def CT0 : CT := (svZ, svZ, rowZ, fun _ => svZ, fun _ => 0, 0, 0, 0, fun _ => 0, 0, 0, 0, 0, 0)
def MT0 (od : Nat → Int32) : MT := (fun _ => 0, fun _ => 0, 0, fun _ => 0, 0, od, fun _ => 0, 0, 0, fun _ => 0, fun _ => 0, 0, 0, fun _ => 0, 0, fun _ => 0, fun _ => 0, fun _ => 0, 0, 0, 0, fun _ => 0)
/-- the law's locals at its loop: script, class, reference, row, counter -/
def lawL (i : Int32) : PL := [some (.ref 1000), some (.ref 0), some (.ref 23), some (.ref 36), some (.int i), none, none, none, none]
def adS (q r : Nat → Nat) (z : Nat) (f : Nat → Nat) (k : Nat) : Nat := bif Nat.ble 37 k then f k else bif Nat.ble 36 k then z else bif Nat.ble 23 k then r (k - 23) else q k
theorem sref {own tx : String} {k : Nat} {A : Array Value} {s : State} (h : (Jvm.Cond.stringRef own k tx).before A s = true) : (Jvm.Cond.stringRef own k tx).before #[] s = true := by
  simpa only [Cond.before, Cond.holds, Cond.value] using h
/-- what nobody writes, out of the start's words -/
theorem st_SR {b : Nat} {s : State} (hts0 : ∀ w ∈ lw_tbl, w.before #[Value.ref b] s = true) (hfl : ∀ c ∈ flatC (Jvm.Cond.and given_1 narrow_1), c.before #[Value.ref b] s = true) : ∃ ad : Nat → Nat, ad 1000 = b ∧ SRel ad (fun q : Nat => s.heap.size ≤ q) s s.heap ∧ TRel ad s := by
  have hA : ∀ a : Nat, a < s.heap.size → ¬ (fun q : Nat => s.heap.size ≤ q) a := fun a h => Nat.not_le.mpr h
  obtain ⟨t1, e1, hT1⟩ := va_Tof (tm := (Jvm.Term.static "ClueGrid$Survey" "ORDER" "[J")) (ty := .long) (N := 24) (f := fun j => .long (tabT j)) (A := fun q : Nat => s.heap.size ≤ q) (by decide) (hfl _ (show Jvm.Cond.arrayOf (Jvm.Term.static "ClueGrid$Survey" "ORDER" "[J") .long ∈ flatC (Jvm.Cond.and given_1 narrow_1) by decide +kernel)) (va_eqt (hfl _ (show Jvm.Cond.eq (Jvm.Term.length (Jvm.Term.static "ClueGrid$Survey" "ORDER" "[J")) (Jvm.Term.int (Int32.ofNat 24)) ∈ flatC (Jvm.Cond.and given_1 narrow_1) by decide +kernel))) (fun j hj => va_eqtl (hfl _ ((show ∀ j, j < 24 → Jvm.Cond.eq (Jvm.Term.elem (Jvm.Term.static "ClueGrid$Survey" "ORDER" "[J") (Jvm.Term.int (Int32.ofNat j))) (Jvm.Term.long (tabT j)) ∈ flatC (Jvm.Cond.and given_1 narrow_1) by decide +kernel) j hj))) hA
  have hZ1 := va_Zof (hts0 _ (show Jvm.Cond.laysStatic "ClueGrid$Survey" "ORDER" "[J" ∈ lw_tbl by decide +kernel)) (hts0 _ (show Jvm.Cond.initialized "ClueGrid$Survey" ∈ lw_tbl by decide +kernel)) e1 hA
  obtain ⟨a2, c2, cA, kA, q1, q2, q3, q4, q5, q6, -⟩ := Cond.exactly_spec (args := #[Value.ref b]) (first := s) (o := none) (s := s) (idx := []) (t := (Jvm.Term.string "ClueGrid$Text" 56)) (cls := "java/lang/String") (hfl _ (show Jvm.Cond.exactly (Jvm.Term.string "ClueGrid$Text" 56) "java/lang/String" ∈ flatC (Jvm.Cond.and given_1 narrow_1) by decide +kernel))
  obtain ⟨t2, e2, hT2⟩ := va_Tof (tm := (Jvm.Term.field (Jvm.Term.string "ClueGrid$Text" 56) "java/lang/String" "value" "[B")) (ty := .byte) (N := 7) (f := fun j => .int (strB j)) (A := fun q : Nat => s.heap.size ≤ q) (by decide) (hfl _ (show Jvm.Cond.arrayOf (Jvm.Term.field (Jvm.Term.string "ClueGrid$Text" 56) "java/lang/String" "value" "[B") .byte ∈ flatC (Jvm.Cond.and given_1 narrow_1) by decide +kernel)) (va_eqt (hfl _ (show Jvm.Cond.eq (Jvm.Term.length (Jvm.Term.field (Jvm.Term.string "ClueGrid$Text" 56) "java/lang/String" "value" "[B")) (Jvm.Term.int (Int32.ofNat 7)) ∈ flatC (Jvm.Cond.and given_1 narrow_1) by decide +kernel))) (fun j hj => va_eqt (hfl _ ((show ∀ j, j < 7 → Jvm.Cond.eq (Jvm.Term.elem (Jvm.Term.field (Jvm.Term.string "ClueGrid$Text" 56) "java/lang/String" "value" "[B") (Jvm.Term.int (Int32.ofNat j))) (Jvm.Term.int (strB j)) ∈ flatC (Jvm.Cond.and given_1 narrow_1) by decide +kernel) j hj))) hA
  have hO : va_O "java/lang/String" a2 (fun q : Nat => s.heap.size ≤ q) s s.heap := va_Oof (hfl _ (show Jvm.Cond.exactly (Jvm.Term.string "ClueGrid$Text" 56) "java/lang/String" ∈ flatC (Jvm.Cond.and given_1 narrow_1) by decide +kernel)) q1 hA
  have hC := vk_OFof (o := "java/lang/String") (n := "coder") (d := "B") q1 (va_eqt (hfl _ (show Jvm.Cond.eq (Jvm.Term.field (Jvm.Term.string "ClueGrid$Text" 56) "java/lang/String" "coder" "B") (Jvm.Term.int 0) ∈ flatC (Jvm.Cond.and given_1 narrow_1) by decide +kernel))) hA
  have hV := vk_OFof (o := "java/lang/String") (n := "value") (d := "[B") q1 e2 hA
  have hZ2 := va_Zof (A := fun q : Nat => s.heap.size ≤ q) (hts0 _ (show Jvm.Cond.laysStatic "java/lang/String" "COMPACT_STRINGS" "Z" ∈ lw_tbl by decide +kernel)) (hts0 _ (show Jvm.Cond.initialized "java/lang/String" ∈ lw_tbl by decide +kernel)) (va_eqi (hfl _ (show Jvm.Cond.eq (Jvm.Term.static "java/lang/String" "COMPACT_STRINGS" "Z") (Jvm.Term.int 1) ∈ flatC (Jvm.Cond.and given_1 narrow_1) by decide +kernel))) hA
  have hU := vx_Zqof (A := fun q : Nat => s.heap.size ≤ q) (hts0 _ (show Jvm.Cond.laysStatic "java/lang/Throwable" "UNASSIGNED_STACK" "[Ljava/lang/StackTraceElement;" ∈ lw_tbl by decide +kernel)) (hts0 _ (show Jvm.Cond.initialized "java/lang/Throwable" ∈ lw_tbl by decide +kernel)) (hfl _ (show Jvm.Cond.isRef (Jvm.Term.static "java/lang/Throwable" "UNASSIGNED_STACK" "[Ljava/lang/StackTraceElement;") ∈ flatC (Jvm.Cond.and given_1 narrow_1) by decide +kernel)) hA
  have hE := vx_Zqof (A := fun q : Nat => s.heap.size ≤ q) (hts0 _ (show Jvm.Cond.laysStatic "java/lang/Throwable" "SUPPRESSED_SENTINEL" "Ljava/util/List;" ∈ lw_tbl by decide +kernel)) (hts0 _ (show Jvm.Cond.initialized "java/lang/Throwable" ∈ lw_tbl by decide +kernel)) (hfl _ (show Jvm.Cond.isRef (Jvm.Term.static "java/lang/Throwable" "SUPPRESSED_SENTINEL" "Ljava/util/List;") ∈ flatC (Jvm.Cond.and given_1 narrow_1) by decide +kernel)) hA
  refine ⟨fun k => bif Nat.beq k 1000 then b else bif Nat.beq k 1001 then t1 else bif Nat.beq k 1002 then a2 else t2, rfl, ⟨hZ1, hT1, hU, hE, hZ2, hO, hC, hV, hT2⟩, ⟨fun w hw => ?_, fun y hy => ?_, fun y hy => ?_, ?_⟩⟩
  · exact va_any (ncW_on w hw) (hts0 w ((show ∀ w ∈ ncW, w ∈ lw_tbl by decide +kernel) w hw))
  · obtain ⟨a3, c3, cA3, kA3, z1, -⟩ := Cond.exactly_spec (args := #[Value.ref b]) (first := s) (o := none) (s := s) (idx := []) (t := Jvm.Term.string RX6 y.1) (cls := "java/lang/String") (hfl _ ((show ∀ y ∈ txW, Jvm.Cond.exactly (Jvm.Term.string RX6 y.1) "java/lang/String" ∈ flatC (Jvm.Cond.and given_1 narrow_1) by decide +kernel) y hy))
    exact ⟨a3, vk_R.of (sref (hts0 _ ((show ∀ y ∈ txW, Jvm.Cond.stringRef RX6 y.1 y.2 ∈ lw_tbl by decide +kernel) y hy))) (by
      have z2 := z1
      rw [Term.string_eval_of_vm (args := #[]) (rfl : s.vm = s.vm)] at z2
      exact z2)⟩
  · exact va_Nc.of (hfl _ ((show ∀ y ∈ exP, Jvm.Cond.not (Jvm.Cond.castable y.1 y.2) ∈ flatC (Jvm.Cond.and given_1 narrow_1) by decide +kernel) y hy))
  · exact vk_R.of (sref (hts0 _ (show Jvm.Cond.stringRef "ClueGrid$Text" 56 "=#<~@!|" ∈ lw_tbl by decide +kernel))) (by
      have z2 := q1
      rw [Term.string_eval_of_vm (args := #[]) (rfl : s.vm = s.vm)] at z2
      exact z2)
theorem st_K {b : Nat} {s : State} (hts : ∀ w ∈ WORDS, w.before #[Value.ref b] s = true) : ∃ (dC : Nat → ClassId) (dI : Nat → Nat → Nat), va_K (dC, dI) vwCl [] s := by
  obtain ⟨c0, i0, h0⟩ := u_known (C := RX2) (T := TX2) (N := 2) (n := 2) hts uwX2 (hts _ (wm 140 (by decide +kernel) rfl))
  obtain ⟨c1, i1, h1⟩ := u_known (C := RX3) (T := TX3) (N := 5) (n := 5) hts uwX3 (hts _ (wm 90 (by decide +kernel) rfl))
  obtain ⟨c2, i2, h2⟩ := u_known (C := RX4) (T := TX4) (N := 4) (n := 4) hts uwX4 (hts _ (wm 155 (by decide +kernel) rfl))
  obtain ⟨c3, i3, h3⟩ := u_known (C := RX5) (T := TX5) (N := 2) (n := 2) hts uwX5 (hts _ (wm 125 (by decide +kernel) rfl))
  obtain ⟨c4, i4, h4⟩ := u_known (C := RX6) (T := TX6) (N := 8) (n := 8) hts uwX6 (hts _ (wm 82 (by decide +kernel) rfl))
  obtain ⟨c5, i5, h5⟩ := u_known (C := RX7) (T := TX7) (N := 22) (n := 22) hts uwX7 (hts _ (wm 994 (by decide +kernel) rfl))
  refine ⟨fun k => [c0, c1, c2, c3, c4, c5].getD k c0, fun k => [i0, i1, i2, i3, i4, i5].getD k i0, fun k q hq => ?_, fun k q h => by simp at h⟩
  match k, hq with
  | 0, hq => cases hq; exact h0
  | 1, hq => cases hq; exact h1
  | 2, hq => cases hq; exact h2
  | 3, hq => cases hq; exact h3
  | 4, hq => cases hq; exact h4
  | 5, hq => cases hq; exact h5
  | k + 6, hq => simp [vwCl] at hq
set_option maxHeartbeats 8000000 in
set_option maxRecDepth 100000 in
/-- the claim's walk, out of a run of the pure machine from the loop's head -/
theorem whole_of (od : Nat → Int32) (hm : ∃ n, prun n 0 mX7_init 101 (entP mX7_init [.ref 0]) [] (mtH (fun _ => 0)) = some (.inl none, mtH od, 0))
    (hlaw : ∀ X : Nat × (Nat → Int32), X.1 ≤ 2048 → ∃ (n k : Nat) (h' : PH), k ≤ 600000 ∧ prun n 60 mL_law 23 (lawL 0) [] (HP X CT0 (MT0 od) (fun _ => 0)) = some (.inl (some (.int 1)), h', k))
    {p : Program} {e : Env} {s : State} {m : MethodId} {below : List Frame} {meth : Method} {c : Code} (l : Launch) (hflags : l.flags = flags0) {b L : Nat} {xs : Nat → Int32} (hL : L ≤ 2048) (C0 : lw_At p s m meth c b L xs) : W p l e room_1 s m #[Value.ref b] below meth c s.heap [] 0 0 (lw_Z below #[Value.ref b] s) (entryFrame m ([Value.ref b] : List Value).toArray 9) := by
  obtain ⟨hx, hb, hr, hml, hown, hts0, hX, hbl, hlocks, hgv⟩ := id C0
  have hts : ∀ w ∈ WORDS, w.before #[Value.ref b] s = true := fun w hw => hts0 w (List.mem_filter.mp hw).1
  have hlt : l.stackTraces = false := by
    rw [Launch.stackTraces, hflags]
    decide
  obtain ⟨ad, had, hSR, hTR⟩ := st_SR hts0 (flat_of_before _ hgv)
  obtain ⟨dC, dI, hK⟩ := st_K hts
  have hA : ∀ q : Nat, s.heap.size ≤ q → (fun q : Nat => s.heap.size ≤ q) q := fun _ h => h
  have hS : va_S (fun q : Nat => s.heap.size ≤ q) s.heap s.heap [] := va_S.rf
  have hP : va_P (dC, dI) vwCl [] s.heap := fun k q h => by simp at h
  have hD : va_D (fun q : Nat => s.heap.size ≤ q) [] := ⟨fun i j p q h => by simp at h, fun k q h => by simp at h⟩
  have hl := lv_entry ([.ref b]) (n := 9) (Nat.le_of_ble_eq_true rfl)
  rw [lg_entry_eq]
  generalize (lg_sl ([.ref b]) ++ List.replicate (9 - (lg_sl ([.ref b])).length) Slot.unset).toArray = ls at hl ⊢
  have hl : lv_has ls 9 [(0, .ref b)] := hl
  refine va_new (ci := 4) (fs := [.null, .null, .null, .null, .null, .null, .int 0, .int 0]) (C := RX6) (T := TX6) (N := 8) hx hb hts uwX6 tyX6 tyX6_ok hown (hts _ (wm 81 (by decide +kernel) rfl)) (hts _ (wm 82 (by decide +kernel) rfl)) (hts _ (wm 58 (by decide +kernel) rfl)) hK hP hD hS hA rfl (fun j hj => by rcases (show j = 0 ∨ j = 1 ∨ j = 2 ∨ j = 3 ∨ j = 4 ∨ j = 5 ∨ j = 6 ∨ j = 7 by omega) with rfl | rfl | rfl | rfl | rfl | rfl | rfl | rfl <;> rfl) (Nat.le_of_ble_eq_true rfl) (Nat.le_of_ble_eq_true rfl) (show decode code 0 = .ok (.new 8, 3) by decide +kernel) (fun q0 H hP hD hS => ?_)
  have hP : va_P (dC, dI) vwCl [(q0, .inr (4, [.null, .null, .null, .null, .null, .null, .int 0, .int 0]))] H := hP
  have hD : va_D (fun q : Nat => s.heap.size ≤ q) [(q0, .inr (4, [.null, .null, .null, .null, .null, .null, .int 0, .int 0]))] := hD
  refine W.widen (k := 1) (n := 8) (by omega) (by omega) ?_
  refine lv_dup hx hb (show decode code 3 = .ok (.dup, 1) by decide +kernel) rfl ?_
  have hPc := hP.sub (ws' := [(q0, .inr (4, [.null, .null, .null, .null, .null, .null, .int 0, .int 0]))]) [0] rfl
  have hDc := hD.sub (ws' := [(q0, .inr (4, [.null, .null, .null, .null, .null, .null, .int 0, .int 0]))]) [0] (by decide) rfl
  have hKc := hK.sub (tys' := []) [] rfl
  have hFc := va_free (wc := [(q0, .inr (4, [.null, .null, .null, .null, .null, .null, .int 0, .int 0]))]) hD hS hA [0] rfl
  have hN1 : va_Nw (.methodLinkNest RX6 9 yX3_init RX6) s := va_Nw.of rfl (hts0 _ (show Cond.methodLinkNest RX6 9 yX3_init RX6 ∈ lw_tbl by decide +kernel))
  have hN2 : va_Nw (.methodLinkNest RX6 25 yX5_init RX6) s := va_Nw.of rfl (hts0 _ (show Cond.methodLinkNest RX6 25 yX5_init RX6 ∈ lw_tbl by decide +kernel))
  have hN3 : va_Nw (.methodLinkNest RX6 32 yX2_init RX6) s := va_Nw.of rfl (hts0 _ (show Cond.methodLinkNest RX6 32 yX2_init RX6 ∈ lw_tbl by decide +kernel))
  have hN4 : va_Nw (.methodLinkNest RX6 39 yX4_init RX6) s := va_Nw.of rfl (hts0 _ (show Cond.methodLinkNest RX6 39 yX4_init RX6 ∈ lw_tbl by decide +kernel))
  have hAO : va_AO RX3 s := va_AO.of (hts0 _ (show Cond.arrayOver (.object RX3) ∈ lw_tbl by decide +kernel))
  refine va_callv (va_runI (As := []) (rest := [.ref q0]) ⟨hx, hb, hml, hown, hts⟩ (ct_ClueGrid l dC dI q0 H.size) (cwI 0 hts (goodC yX6_init cX6_init 2 (wm 85 (by decide +kernel) rfl)) rfl rfl rfl (hts _ (wm 58 (by decide +kernel) rfl)) (hts _ (wm 83 (by decide +kernel) rfl)) (hts _ (wm 84 (by decide +kernel) rfl)) rfl ⟨by decide +kernel, by decide +kernel, by decide +kernel⟩ ⟨Nat.le_of_ble_eq_true rfl, Nat.le_of_ble_eq_true rfl⟩) ⟨fun a U g mk q9 => by
    obtain ⟨e1, e2, qP, qK, qD, n1, n2, n3, n4, n5⟩ := q9
    exact ⟨e1, e2, qP, va_K.moved (u := U) (U := U.calling g mk a) (Vm.Alike.refl U.vm) qK, qD, va_Nw.same rfl (u := U) (U := U.calling g mk a) rfl n1, va_Nw.same rfl (u := U) (U := U.calling g mk a) rfl n2, va_Nw.same rfl (u := U) (U := U.calling g mk a) rfl n3, va_Nw.same rfl (u := U) (U := U.calling g mk a) rfl n4, va_AO.moved (u := U) (U := U.calling g mk a) (Vm.Alike.refl U.vm) n5⟩, fun U hU hW => ⟨rfl, by rw [hU], by rw [hU]; exact hPc, va_K.moved hW.alike hKc, hDc.weaken (fun _ _ _ _ => trivial), hN1.warmM hW, hN2.warmM hW, hN3.warmM hW, hN4.warmM hW, hAO.moved hW.alike⟩⟩ rfl rfl hl.1 rfl (lv_room (Nat.le_of_ble_eq_true rfl)) (show decode code 4 = .ok (.invokespecial 99, 3) by decide +kernel) ⟨Nat.le_of_ble_eq_true rfl, Nat.le_of_ble_eq_true rfl⟩) hS (fun q9 _ h => hFc q9 h) hFc (fun u t H1 locs ht hvm hw hB hz1 hk1 hS => ?_)
  obtain ⟨q, cI, cS, sg, rfl, hsg, hP1, hK1, hD1⟩ := hB
  obtain rfl : sg = fun j => if j < 6 then some (q (11 + 2 * j)) else none := funext hsg
  rw [ht] at hP1
  have hK1 := va_K.moved hvm.symm hK1
  obtain ⟨hP, hD⟩ := va_join (wr := []) (w1 := ctW (q 0) q cI cS (fun j => if j < 6 then some (q (11 + 2 * j)) else none)) hP hD [0] [] rfl rfl (by decide) (by decide) hk1 hFc hP1 hD1
  have hK : va_K (dC, dI) vwCl [(cI, .int), (cS, .object RX3)] s := hK.app hK1
  generalize H1 = H at hP hS ⊢
  have hP : va_P (dC, dI) vwCl (ctW (q 0) q cI cS (fun j => if j < 6 then some (q (11 + 2 * j)) else none)) H := hP
  have hD : va_D (fun q : Nat => s.heap.size ≤ q) (ctW (q 0) q cI cS (fun j => if j < 6 then some (q (11 + 2 * j)) else none)) := hD
  refine W.widen (k := 23) (n := 230) (by omega) (by omega) ?_
  refine lv_astore_n (lv' := [(1, .ref (q 0)), (0, .ref b)]) hx hb (show decode code 7 = .ok (.astore_n 1, 1) by decide +kernel) rfl hl (by decide) rfl (fun ls hl => ?_)
  refine va_new (ci := 5) (fs := [.null, .null, .int 0, .null, .int 0, .null, .null, .int 0, .int 0, .null, .null, .int 0, .int 0, .null, .int 0, .null, .null, .null, .int 0, .int 0, .long 0, .null]) (C := RX7) (T := TX7) (N := 22) hx hb hts uwX7 tyX7 tyX7_ok hown (hts _ (wm 993 (by decide +kernel) rfl)) (hts _ (wm 994 (by decide +kernel) rfl)) (hts _ (wm 63 (by decide +kernel) rfl)) hK hP hD hS hA rfl (fun j hj => by rcases (show j = 0 ∨ j = 1 ∨ j = 2 ∨ j = 3 ∨ j = 4 ∨ j = 5 ∨ j = 6 ∨ j = 7 ∨ j = 8 ∨ j = 9 ∨ j = 10 ∨ j = 11 ∨ j = 12 ∨ j = 13 ∨ j = 14 ∨ j = 15 ∨ j = 16 ∨ j = 17 ∨ j = 18 ∨ j = 19 ∨ j = 20 ∨ j = 21 by omega) with rfl | rfl | rfl | rfl | rfl | rfl | rfl | rfl | rfl | rfl | rfl | rfl | rfl | rfl | rfl | rfl | rfl | rfl | rfl | rfl | rfl | rfl <;> rfl) (Nat.le_of_ble_eq_true rfl) (Nat.le_of_ble_eq_true rfl) (show decode code 8 = .ok (.new 100, 3) by decide +kernel) (fun q1 H hP hD hS => ?_)
  have hP : va_P (dC, dI) vwCl (ctW (q 0) q cI cS (fun j => if j < 6 then some (q (11 + 2 * j)) else none) ++ [(q1, .inr (5, [.null, .null, .int 0, .null, .int 0, .null, .null, .int 0, .int 0, .null, .null, .int 0, .int 0, .null, .int 0, .null, .null, .null, .int 0, .int 0, .long 0, .null]))]) H := hP
  have hD : va_D (fun q : Nat => s.heap.size ≤ q) (ctW (q 0) q cI cS (fun j => if j < 6 then some (q (11 + 2 * j)) else none) ++ [(q1, .inr (5, [.null, .null, .int 0, .null, .int 0, .null, .null, .int 0, .int 0, .null, .null, .int 0, .int 0, .null, .int 0, .null, .null, .null, .int 0, .int 0, .long 0, .null]))]) := hD
  refine W.widen (k := 24) (n := 252) (by omega) (by omega) ?_
  refine lv_dup hx hb (show decode code 11 = .ok (.dup, 1) by decide +kernel) rfl ?_
  have hPc := hP.sub (ws' := [(q1, .inr (5, [.null, .null, .int 0, .null, .int 0, .null, .null, .int 0, .int 0, .null, .null, .int 0, .int 0, .null, .int 0, .null, .null, .null, .int 0, .int 0, .long 0, .null]))]) [23] rfl
  have hDc := hD.sub (ws' := [(q1, .inr (5, [.null, .null, .int 0, .null, .int 0, .null, .null, .int 0, .int 0, .null, .null, .int 0, .int 0, .null, .int 0, .null, .null, .null, .int 0, .int 0, .long 0, .null]))]) [23] (by decide) rfl
  have hKc := hK.sub (tys' := []) [] rfl
  have hKs := hK.sub (tys' := [(cS, .object RX3)]) [1] rfl
  have hFc := va_free (wc := [(q1, .inr (5, [.null, .null, .int 0, .null, .int 0, .null, .null, .int 0, .int 0, .null, .null, .int 0, .int 0, .null, .int 0, .null, .null, .null, .int 0, .int 0, .long 0, .null]))]) hD hS hA [23] rfl
  refine va_callv (va_runI (As := []) (rest := [.ref q1]) ⟨hx, hb, hml, hown, hts⟩ (ct_Model l hlt od hm ad cS dC dI q1 H.size) (cwI 0 hts (goodC yX7_init cX7_init 7 (wm 997 (by decide +kernel) rfl)) rfl rfl rfl (hts _ (wm 63 (by decide +kernel) rfl)) (hts _ (wm 995 (by decide +kernel) rfl)) (hts _ (wm 996 (by decide +kernel) rfl)) rfl ⟨by decide +kernel, by decide +kernel, by decide +kernel⟩ ⟨Nat.le_of_ble_eq_true rfl, Nat.le_of_ble_eq_true rfl⟩) ⟨fun a U g mk q9 => by
    obtain ⟨e1, e2, qP, qK, qD, n1, n2, n3⟩ := q9
    exact ⟨e1, e2, qP, va_K.moved (u := U) (U := U.calling g mk a) (Vm.Alike.refl U.vm) qK, qD, va_K.moved (u := U) (U := U.calling g mk a) (Vm.Alike.refl U.vm) n1, SRel.moved (u := U) (U := U.calling g mk a) (Vm.Alike.refl U.vm) n2, TRel.same (u := U) (U := U.calling g mk a) rfl n3⟩, fun U hU hW => ⟨rfl, by rw [hU], by rw [hU]; exact hPc, va_K.moved hW.alike hKc, hDc.weaken (fun _ _ _ _ => trivial), va_K.moved hW.alike hKs, by
    rw [hU]
    exact ((hSR.moved hW.alike).kept (fun a h1 h2 => hS.2.1 a h1 h2)).narrow hFc, hTR.warm hW⟩⟩ rfl rfl hl.1 rfl (lv_room (Nat.le_of_ble_eq_true rfl)) (show decode code 12 = .ok (.invokespecial 102, 3) by decide +kernel) ⟨Nat.le_of_ble_eq_true rfl, Nat.le_of_ble_eq_true rfl⟩) hS (fun q9 _ h => hFc q9 h) hFc (fun u t H1 locs ht hvm hw hB hz1 hk1 hS => ?_)
  obtain ⟨r, cI2, rfl, hP1, hK1, hD1⟩ := hB
  rw [ht] at hP1
  have hK1 := va_K.moved hvm.symm hK1
  obtain rfl : cI = cI2 := Option.some.inj ((hK.2 0 _ rfl).2.symm.trans (hK1.2 0 _ rfl).2)
  obtain ⟨hP, hD⟩ := va_join (wr := ctW (q 0) q cI cS (fun j => if j < 6 then some (q (11 + 2 * j)) else none)) (w1 := mtW (r 0) r cI od) hP hD [23] [0, 1, 2, 3, 4, 5, 6, 7, 8, 9, 10, 11, 12, 13, 14, 15, 16, 17, 18, 19, 20, 21, 22] rfl rfl (by decide) (by decide) hk1 hFc hP1 hD1
  generalize H1 = H at hP hS ⊢
  refine W.widen (k := 36) (n := 996) (by omega) (by omega) ?_
  refine lv_astore_n (lv' := [(2, .ref (r 0)), (1, .ref (q 0)), (0, .ref b)]) hx hb (show decode code 15 = .ok (.astore_n 2, 1) by decide +kernel) rfl hl (by decide) rfl (fun ls hl => ?_)
  refine lv_iconst (v := 1) hx hb (show decode code 16 = .ok (.iconst 1, 1) by decide +kernel) (by decide) ?_
  refine va_newa (atype := .long) (a0 := (1, .inr (.inl (fun _ => 0)))) hx hb (hts _ (wm 1434 (by decide +kernel) rfl)) rfl hK hP hD hS hA (fun cA => rfl) (by decide) (by decide) (Nat.le_of_ble_eq_true rfl) (Nat.le_of_ble_eq_true rfl) (Nat.le_of_ble_eq_true rfl) (show decode code 17 = .ok (.newarray .long, 2) by decide +kernel) (fun z cL H hK hP hD hS => ?_)
  refine W.widen (k := 37) (n := 997) (by omega) (by omega) ?_
  refine lv_astore_n (lv' := [(3, .ref z), (2, .ref (r 0)), (1, .ref (q 0)), (0, .ref b)]) hx hb (show decode code 19 = .ok (.astore_n 3, 1) by decide +kernel) rfl hl (by decide) rfl (fun ls hl => ?_)
  refine lv_iconst (v := 0) hx hb (show decode code 20 = .ok (.iconst 0, 1) by decide +kernel) (by decide) ?_
  refine lv_istore (lv' := [(4, .int 0), (3, .ref z), (2, .ref (r 0)), (1, .ref (q 0)), (0, .ref b)]) hx hb (show decode code 21 = .ok (.istore 4, 2) by decide +kernel) hl (by decide) rfl (fun ls hl => ?_)
  have hK9 : va_K (dC, dI) vwCl (tysL (fun k => [cI, cL, cS].getD k cI)) s := hK.sub [0, 2, 1] rfl
  have hrow : (fun j => (rowZ j).map (adS q r z ad)) = (fun j => if j < 6 then some (q (11 + 2 * j)) else none) := by
    funext j
    match j with
    | 0 => rfl
    | 1 => rfl
    | 2 => rfl
    | 3 => rfl
    | 4 => rfl
    | 5 => rfl
    | j + 6 =>
      have h6 : ¬ j + 6 < 6 := by omega
      simp [rowZ, h6]
  have hWr : WRel (adS q r z ad) (fun k => [cI, cL, cS].getD k cI) (dC, dI) (fun q : Nat => s.heap.size ≤ q) s (HP (L, xs) CT0 (MT0 od) (fun _ => 0)) H locs := by
    rw [← hrow] at hP hD
    exact ⟨hK9, hP, hD, hS, hA⟩
  obtain ⟨n, k, h', hk, hn⟩ := hlaw (L, xs) hL
  have hPH : PHas (adS q r z ad) ls 9 (lawL 0) := by
    refine ⟨hl.1, hl.2.1, rfl, fun i v hi => ?_⟩
    have h9 : ∀ i v, (lawL 0)[i]? = some (some v) → (i, trV (adS q r z ad) v) ∈ [(4, Value.int 0), (3, .ref z), (2, .ref (r 0)), (1, .ref (q 0)), (0, .ref b)] := by
      intro i v hi
      match i, hi with
      | 0, hi =>
        cases hi
        rw [← had]
        exact List.mem_cons_of_mem _ (List.mem_cons_of_mem _ (List.mem_cons_of_mem _ (List.mem_cons_of_mem _ List.mem_cons_self)))
      | 1, hi => cases hi; exact List.mem_cons_of_mem _ (List.mem_cons_of_mem _ (List.mem_cons_of_mem _ List.mem_cons_self))
      | 2, hi => cases hi; exact List.mem_cons_of_mem _ (List.mem_cons_of_mem _ List.mem_cons_self)
      | 3, hi => cases hi; exact List.mem_cons_of_mem _ List.mem_cons_self
      | 4, hi => cases hi; exact List.mem_cons_self
      | 5, hi => cases hi
      | 6, hi => cases hi
      | 7, hi => cases hi
      | 8, hi => cases hi
      | i + 9, hi => simp [lawL] at hi
    exact hl.2.2 _ (h9 i v hi)
  refine sim n 60 mL_law 23 (lawL 0) [] (HP (L, xs) CT0 (MT0 od) (fun _ => 0)) (.inl (some (.int 1))) h' k hn rwL_law toL_law p l e room_1 s m #[Value.ref b] below meth c H locs 37 997 _ (adS q r z ad) (fun k => [cI, cL, cS].getD k cI) (dC, dI) (fun q : Nat => s.heap.size ≤ q) ls ⟨hx, hb, hml, hown, hts, hlt, hlocks, hr⟩ (hSR.ad rfl rfl rfl) (hTR.ad rfl) (fun _ => ?_) (HRel_no rfl) (Nat.le_of_ble_eq_true rfl) (Nat.le_of_ble_eq_true rfl) (by show 37 + k ≤ 601024; omega) (by show 997 + 6 * k ≤ 7293033; omega) hWr hPH ?_ ?_
  · have e1 : adS q r z ad 1000 = b := had
    rw [e1]
    exact ⟨hX, hbl, Nat.not_le.mpr hbl⟩
  · intro v H2 locs2 ls2 pc2 ho hW2 hra
    cases ho
    refine va_forget (fun q hq => hW2.2.2.2.1.2.2 q hq) ?_
    refine W.widen (k := 601024) (n := 7293033) (by omega) (by omega) ?_
    exact W.base (lw_ret (Drawn.sameBut.refl s.drawn lw_cs) hx hb hr hlocks hra.1)
  · intro x ho
    cases ho
