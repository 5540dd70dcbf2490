/-! ONE INSTRUCTION: the machine follows the pure one -/
section RowsP
variable {p : Program} {l : Launch} {e : Env} {R : Room} {s : State} {m : MethodId} {args : Array Value} {below : List Frame} {meth : Method} {c : Code} {H : Heap} {locs : List Loc} {cells slots : Nat} {Q : State → Prop}
variable {ad : Nat → Nat} {tid : Nat → ClassId} {D : va_G} {A : Nat → Prop} {ls : Array Slot} {nL pc n g : Nat} {pl : PL} {st : List Value} {h : PH} {cs : List Prop} {pc' : Nat} {pl' : PL} {st' : List Value} {h' : PH}
/-- how it goes on -/
def KK (p : Program) (l : Launch) (e : Env) (R : Room) (s : State) (m : MethodId) (args : Array Value) (below : List Frame) (meth : Method) (c : Code) (cells slots : Nat) (Q : State → Prop) (ad : Nat → Nat) (tid : Nat → ClassId) (D : va_G) (A : Nat → Prop) (nL : Nat) (pc' : Nat) (pl' : PL) (st' : List Value) (h' : PH) : Prop :=
  ∀ (H2 : Heap) (locs2 : List Loc) (ls2 : Array Slot), WRel ad tid D A s h' H2 locs2 → PHas ad ls2 nL pl' → W p l e R s m args below meth c H2 locs2 cells slots Q (F0 m pc' ls2 (st'.map (trV ad)))
theorem nx_inv {a : Nat} {b : PL} {d : List Value} {f : PH} (x : nx a b d f = some (cs, .inl (pc', pl', st', h'))) : a = pc' ∧ b = pl' ∧ d = st' ∧ f = h' ∧ [] = cs := by
  simp only [nx, Option.some.injEq, Prod.mk.injEq, Sum.inl.injEq] at x
  exact ⟨x.2.1, x.2.2.1, x.2.2.2.1, x.2.2.2.2, x.1⟩
theorem nxc_inv {z : Prop} {a : Nat} {b : PL} {d : List Value} {f : PH} (x : nxc z a b d f = some (cs, .inl (pc', pl', st', h'))) : a = pc' ∧ b = pl' ∧ d = st' ∧ f = h' ∧ [z] = cs := by
  simp only [nxc, Option.some.injEq, Prod.mk.injEq, Sum.inl.injEq] at x
  exact ⟨x.2.1, x.2.2.1, x.2.2.2.1, x.2.2.2.2, x.1⟩
theorem g_push {v : Value} (row : W p l e R s m args below meth c H locs cells slots Q (F0 m n ls (trV ad v :: st.map (trV ad))) → W p l e R s m args below meth c H locs cells slots Q (F0 m pc ls (st.map (trV ad)))) (hW : WRel ad tid D A s h H locs) (hl : PHas ad ls nL pl) (x : nx n pl (v :: st) h = some (cs, .inl (pc', pl', st', h'))) (K : KK p l e R s m args below meth c cells slots Q ad tid D A nL pc' pl' st' h') : W p l e R s m args below meth c H locs cells slots Q (F0 m pc ls (st.map (trV ad))) := by
  obtain ⟨rfl, rfl, rfl, rfl, -⟩ := nx_inv x
  exact row (K H locs ls hW hl)
theorem g_ldI {i : Nat} (row : ∀ x : Int32, ls[i]? = some (.val (.int x)) → W p l e R s m args below meth c H locs cells slots Q (F0 m n ls (.int x :: st.map (trV ad))) → W p l e R s m args below meth c H locs cells slots Q (F0 m pc ls (st.map (trV ad)))) (hW : WRel ad tid D A s h H locs) (hl : PHas ad ls nL pl) (x : ldI n i pl st h = some (cs, .inl (pc', pl', st', h'))) (K : KK p l e R s m args below meth c cells slots Q ad tid D A nL pc' pl' st' h') : W p l e R s m args below meth c H locs cells slots Q (F0 m pc ls (st.map (trV ad))) := by
  unfold ldI at x
  split at x
  next v hv =>
    obtain ⟨rfl, rfl, rfl, rfl, -⟩ := nx_inv x
    exact row v (hl.ld hv) (K H locs ls hW hl)
  next => cases x
theorem g_ldJ {i : Nat} (row : ∀ x : Int64, ls[i]? = some (.val (.long x)) → W p l e R s m args below meth c H locs cells slots Q (F0 m n ls (.long x :: st.map (trV ad))) → W p l e R s m args below meth c H locs cells slots Q (F0 m pc ls (st.map (trV ad)))) (hW : WRel ad tid D A s h H locs) (hl : PHas ad ls nL pl) (x : ldJ n i pl st h = some (cs, .inl (pc', pl', st', h'))) (K : KK p l e R s m args below meth c cells slots Q ad tid D A nL pc' pl' st' h') : W p l e R s m args below meth c H locs cells slots Q (F0 m pc ls (st.map (trV ad))) := by
  unfold ldJ at x
  split at x
  next v hv =>
    obtain ⟨rfl, rfl, rfl, rfl, -⟩ := nx_inv x
    exact row v (hl.ld hv) (K H locs ls hW hl)
  next => cases x
theorem g_ldD {i : Nat} (row : ∀ x : UInt64, ls[i]? = some (.val (.double x)) → W p l e R s m args below meth c H locs cells slots Q (F0 m n ls (.double x :: st.map (trV ad))) → W p l e R s m args below meth c H locs cells slots Q (F0 m pc ls (st.map (trV ad)))) (hW : WRel ad tid D A s h H locs) (hl : PHas ad ls nL pl) (x : ldD n i pl st h = some (cs, .inl (pc', pl', st', h'))) (K : KK p l e R s m args below meth c cells slots Q ad tid D A nL pc' pl' st' h') : W p l e R s m args below meth c H locs cells slots Q (F0 m pc ls (st.map (trV ad))) := by
  unfold ldD at x
  split at x
  next v hv =>
    obtain ⟨rfl, rfl, rfl, rfl, -⟩ := nx_inv x
    exact row v (hl.ld hv) (K H locs ls hW hl)
  next => cases x
theorem g_ldA {i : Nat} (row : ∀ x : Nat, ls[i]? = some (.val (.ref x)) → W p l e R s m args below meth c H locs cells slots Q (F0 m n ls (.ref x :: st.map (trV ad))) → W p l e R s m args below meth c H locs cells slots Q (F0 m pc ls (st.map (trV ad)))) (hW : WRel ad tid D A s h H locs) (hl : PHas ad ls nL pl) (x : ldA n i pl st h = some (cs, .inl (pc', pl', st', h'))) (K : KK p l e R s m args below meth c cells slots Q ad tid D A nL pc' pl' st' h') : W p l e R s m args below meth c H locs cells slots Q (F0 m pc ls (st.map (trV ad))) := by
  unfold ldA at x
  split at x
  next v hv =>
    obtain ⟨rfl, rfl, rfl, rfl, -⟩ := nx_inv x
    exact row (ad v) (hl.ld hv) (K H locs ls hW hl)
  next => cases x
theorem g_stI {i : Nat} (row : ∀ (x : Int32) (r : List Value) (lv lv' : List (Nat × Value)), lv_has ls nL lv → i < nL → (i, Value.int x) :: lv.filter (fun q => !(q.1 == i) && !(q.1 + 1 == i && q.2.category == 2)) = lv' → (∀ ls' : Array Slot, lv_has ls' nL lv' → W p l e R s m args below meth c H locs cells slots Q (F0 m n ls' r)) → W p l e R s m args below meth c H locs cells slots Q (F0 m pc ls (.int x :: r))) (hW : WRel ad tid D A s h H locs) (hl : PHas ad ls nL pl) (x : stI n i pl st h = some (cs, .inl (pc', pl', st', h'))) (K : KK p l e R s m args below meth c cells slots Q ad tid D A nL pc' pl' st' h') : W p l e R s m args below meth c H locs cells slots Q (F0 m pc ls (st.map (trV ad))) := by
  unfold stI at x
  split at x
  next v r =>
    split at x
    next hi =>
      obtain ⟨rfl, rfl, rfl, rfl, -⟩ := nx_inv x
      exact row v _ _ _ hl.lv (by rw [← hl.2.2.1]; exact hi) rfl (fun ls' hl' => K H locs ls' hW (hl.st1 (x := .int v) hl'))
    next => cases x
  next => cases x
theorem g_stA {i : Nat} (row : ∀ (x : Nat) (r : List Value) (lv lv' : List (Nat × Value)), lv_has ls nL lv → i < nL → (i, Value.ref x) :: lv.filter (fun q => !(q.1 == i) && !(q.1 + 1 == i && q.2.category == 2)) = lv' → (∀ ls' : Array Slot, lv_has ls' nL lv' → W p l e R s m args below meth c H locs cells slots Q (F0 m n ls' r)) → W p l e R s m args below meth c H locs cells slots Q (F0 m pc ls (.ref x :: r))) (hW : WRel ad tid D A s h H locs) (hl : PHas ad ls nL pl) (x : stA n i pl st h = some (cs, .inl (pc', pl', st', h'))) (K : KK p l e R s m args below meth c cells slots Q ad tid D A nL pc' pl' st' h') : W p l e R s m args below meth c H locs cells slots Q (F0 m pc ls (st.map (trV ad))) := by
  unfold stA at x
  split at x
  next v r =>
    split at x
    next hi =>
      obtain ⟨rfl, rfl, rfl, rfl, -⟩ := nx_inv x
      exact row (ad v) _ _ _ hl.lv (by rw [← hl.2.2.1]; exact hi) rfl (fun ls' hl' => K H locs ls' hW (hl.st1 (x := .ref v) hl'))
    next => cases x
  next => cases x
theorem g_stJ {i : Nat} (row : ∀ (x : Int64) (r : List Value) (lv lv' : List (Nat × Value)), lv_has ls nL lv → i + 1 < nL → (i, Value.long x) :: lv.filter (fun q => !(q.1 == i) && (!(q.1 == i + 1) && !(q.1 + 1 == i && q.2.category == 2))) = lv' → (∀ ls' : Array Slot, lv_has ls' nL lv' → W p l e R s m args below meth c H locs cells slots Q (F0 m n ls' r)) → W p l e R s m args below meth c H locs cells slots Q (F0 m pc ls (.long x :: r))) (hW : WRel ad tid D A s h H locs) (hl : PHas ad ls nL pl) (x : stJ n i pl st h = some (cs, .inl (pc', pl', st', h'))) (K : KK p l e R s m args below meth c cells slots Q ad tid D A nL pc' pl' st' h') : W p l e R s m args below meth c H locs cells slots Q (F0 m pc ls (st.map (trV ad))) := by
  unfold stJ at x
  split at x
  next v r =>
    split at x
    next hi =>
      obtain ⟨rfl, rfl, rfl, rfl, -⟩ := nx_inv x
      exact row v _ _ _ hl.lv (by rw [← hl.2.2.1]; exact hi) rfl (fun ls' hl' => K H locs ls' hW (hl.st2 (x := .long v) hl'))
    next => cases x
  next => cases x
theorem g_stD {i : Nat} (row : ∀ (x : UInt64) (r : List Value) (lv lv' : List (Nat × Value)), lv_has ls nL lv → i + 1 < nL → (i, Value.double x) :: lv.filter (fun q => !(q.1 == i) && (!(q.1 == i + 1) && !(q.1 + 1 == i && q.2.category == 2))) = lv' → (∀ ls' : Array Slot, lv_has ls' nL lv' → W p l e R s m args below meth c H locs cells slots Q (F0 m n ls' r)) → W p l e R s m args below meth c H locs cells slots Q (F0 m pc ls (.double x :: r))) (hW : WRel ad tid D A s h H locs) (hl : PHas ad ls nL pl) (x : stD n i pl st h = some (cs, .inl (pc', pl', st', h'))) (K : KK p l e R s m args below meth c cells slots Q ad tid D A nL pc' pl' st' h') : W p l e R s m args below meth c H locs cells slots Q (F0 m pc ls (st.map (trV ad))) := by
  unfold stD at x
  split at x
  next v r =>
    split at x
    next hi =>
      obtain ⟨rfl, rfl, rfl, rfl, -⟩ := nx_inv x
      exact row v _ _ _ hl.lv (by rw [← hl.2.2.1]; exact hi) rfl (fun ls' hl' => K H locs ls' hW (hl.st2 (x := .double v) hl'))
    next => cases x
  next => cases x
theorem g_opI {f : Int32 → Int32 → Int32} (row : ∀ (x y : Int32) (r : List Value), W p l e R s m args below meth c H locs cells slots Q (F0 m n ls (.int (f x y) :: r)) → W p l e R s m args below meth c H locs cells slots Q (F0 m pc ls (.int y :: .int x :: r))) (hW : WRel ad tid D A s h H locs) (hl : PHas ad ls nL pl) (x : opI f n pl st h = some (cs, .inl (pc', pl', st', h'))) (K : KK p l e R s m args below meth c cells slots Q ad tid D A nL pc' pl' st' h') : W p l e R s m args below meth c H locs cells slots Q (F0 m pc ls (st.map (trV ad))) := by
  unfold opI at x
  split at x
  next y v r =>
    obtain ⟨rfl, rfl, rfl, rfl, -⟩ := nx_inv x
    exact row v y _ (K H locs ls hW hl)
  next => cases x
theorem g_opJ {f : Int64 → Int64 → Int64} (row : ∀ (x y : Int64) (r : List Value), W p l e R s m args below meth c H locs cells slots Q (F0 m n ls (.long (f x y) :: r)) → W p l e R s m args below meth c H locs cells slots Q (F0 m pc ls (.long y :: .long x :: r))) (hW : WRel ad tid D A s h H locs) (hl : PHas ad ls nL pl) (x : opJ f n pl st h = some (cs, .inl (pc', pl', st', h'))) (K : KK p l e R s m args below meth c cells slots Q ad tid D A nL pc' pl' st' h') : W p l e R s m args below meth c H locs cells slots Q (F0 m pc ls (st.map (trV ad))) := by
  unfold opJ at x
  split at x
  next y v r =>
    obtain ⟨rfl, rfl, rfl, rfl, -⟩ := nx_inv x
    exact row v y _ (K H locs ls hW hl)
  next => cases x
theorem g_opS {f : Int64 → Int32 → Int64} (row : ∀ (x : Int64) (y : Int32) (r : List Value), W p l e R s m args below meth c H locs cells slots Q (F0 m n ls (.long (f x y) :: r)) → W p l e R s m args below meth c H locs cells slots Q (F0 m pc ls (.int y :: .long x :: r))) (hW : WRel ad tid D A s h H locs) (hl : PHas ad ls nL pl) (x : opS f n pl st h = some (cs, .inl (pc', pl', st', h'))) (K : KK p l e R s m args below meth c cells slots Q ad tid D A nL pc' pl' st' h') : W p l e R s m args below meth c H locs cells slots Q (F0 m pc ls (st.map (trV ad))) := by
  unfold opS at x
  split at x
  next y v r =>
    obtain ⟨rfl, rfl, rfl, rfl, -⟩ := nx_inv x
    exact row v y _ (K H locs ls hW hl)
  next => cases x
theorem g_opDv {f : Int32 → Int32 → Int32} (row : ∀ (x y : Int32) (r : List Value), ¬ y = 0 → W p l e R s m args below meth c H locs cells slots Q (F0 m n ls (.int (f x y) :: r)) → W p l e R s m args below meth c H locs cells slots Q (F0 m pc ls (.int y :: .int x :: r))) (hW : WRel ad tid D A s h H locs) (hl : PHas ad ls nL pl) (x : opDv f n pl st h = some (cs, .inl (pc', pl', st', h'))) (hc : allP cs) (K : KK p l e R s m args below meth c cells slots Q ad tid D A nL pc' pl' st' h') : W p l e R s m args below meth c H locs cells slots Q (F0 m pc ls (st.map (trV ad))) := by
  unfold opDv at x
  split at x
  next y v r =>
    obtain ⟨rfl, rfl, rfl, rfl, rfl⟩ := nxc_inv x
    exact row v y _ hc.1 (K H locs ls hW hl)
  next => cases x
theorem g_opD {f : UInt64 → UInt64 → UInt64} (row : ∀ (x y : UInt64) (r : List Value), vf_n64 (f x y) → W p l e R s m args below meth c H locs cells slots Q (F0 m n ls (.double (f x y) :: r)) → W p l e R s m args below meth c H locs cells slots Q (F0 m pc ls (.double y :: .double x :: r))) (hW : WRel ad tid D A s h H locs) (hl : PHas ad ls nL pl) (x : opD f n pl st h = some (cs, .inl (pc', pl', st', h'))) (hc : allP cs) (K : KK p l e R s m args below meth c cells slots Q ad tid D A nL pc' pl' st' h') : W p l e R s m args below meth c H locs cells slots Q (F0 m pc ls (st.map (trV ad))) := by
  unfold opD at x
  split at x
  next y v r =>
    obtain ⟨rfl, rfl, rfl, rfl, rfl⟩ := nxc_inv x
    exact row v y _ hc.1 (K H locs ls hW hl)
  next => cases x
theorem g_br1 {t : Int32 → Bool} (row : ∀ (x : Int32) (r : List Value), (t x = true → W p l e R s m args below meth c H locs cells slots Q (F0 m g ls r)) → (t x = false → W p l e R s m args below meth c H locs cells slots Q (F0 m n ls r)) → W p l e R s m args below meth c H locs cells slots Q (F0 m pc ls (.int x :: r))) (hW : WRel ad tid D A s h H locs) (hl : PHas ad ls nL pl) (x : br1 t n g pl st h = some (cs, .inl (pc', pl', st', h'))) (K : KK p l e R s m args below meth c cells slots Q ad tid D A nL pc' pl' st' h') : W p l e R s m args below meth c H locs cells slots Q (F0 m pc ls (st.map (trV ad))) := by
  unfold br1 at x
  split at x
  next v r =>
    obtain ⟨rfl, rfl, rfl, rfl, -⟩ := nx_inv x
    refine row v _ (fun z => ?_) (fun z => ?_)
    · have k := K H locs ls hW hl
      rw [z] at k
      exact k
    · have k := K H locs ls hW hl
      rw [z] at k
      exact k
  next => cases x
theorem g_br2 {t : Int32 → Int32 → Bool} (row : ∀ (x y : Int32) (r : List Value), (t x y = true → W p l e R s m args below meth c H locs cells slots Q (F0 m g ls r)) → (t x y = false → W p l e R s m args below meth c H locs cells slots Q (F0 m n ls r)) → W p l e R s m args below meth c H locs cells slots Q (F0 m pc ls (.int y :: .int x :: r))) (hW : WRel ad tid D A s h H locs) (hl : PHas ad ls nL pl) (x : br2 t n g pl st h = some (cs, .inl (pc', pl', st', h'))) (K : KK p l e R s m args below meth c cells slots Q ad tid D A nL pc' pl' st' h') : W p l e R s m args below meth c H locs cells slots Q (F0 m pc ls (st.map (trV ad))) := by
  unfold br2 at x
  split at x
  next y v r =>
    obtain ⟨rfl, rfl, rfl, rfl, -⟩ := nx_inv x
    refine row v y _ (fun z => ?_) (fun z => ?_)
    · have k := K H locs ls hW hl
      rw [z] at k
      exact k
    · have k := K H locs ls hW hl
      rw [z] at k
      exact k
  next => cases x
theorem WRel.set {i : Nat} {e0 e1 : PE} (hW : WRel ad tid D A s h H locs) {H2 : Heap} {locs2 : List Loc} (a1 : va_P D vwCl ((trW ad tid 0 h.2).set i (ad i, trE ad tid e1)) H2) (a2 : va_D A ((trW ad tid 0 h.2).set i (ad i, trE ad tid e1))) (a3 : va_S A s.heap H2 locs2) : WRel ad tid D A s (h.1, h.2.set i e1) H2 locs2 :=
  ⟨hW.1, by rw [trW_set0]; exact a1, by rw [trW_set0]; exact a2, a3, hW.2.2.2.2⟩
theorem g_aldI {cc : ByteArray} {q : MI} (hx : p.tables.exec = Jvm.exec) (hb : c.code = cc) (hdg : decode cc pc = .ok (.iaload, 1)) (hX : XRel ad A s q h) (hW : WRel ad tid D A s h H locs) (hl : PHas ad ls nL pl) (x : aldI ((miN q).name == "law") (pc + 1) pl st h = some (cs, .inl (pc', pl', st', h'))) (hc : allP cs) (K : KK p l e R s m args below meth c cells slots Q ad tid D A nL pc' pl' st' h') : W p l e R s m args below meth c H locs cells slots Q (F0 m pc ls (st.map (trV ad))) := by
  unfold aldI at x
  split at x
  next i a r =>
    split at x
    next n0 f hf =>
      obtain ⟨rfl, rfl, rfl, rfl, rfl⟩ := nxc_inv x
      exact va_iald hx hb hW.1 hW.2.1 a 0 (trW_at hf) rfl hc.1 hdg (K H locs ls hW hl)
    next => cases x
    next hn =>
      cases hz : Nat.beq a 1000 && ((miN q).name == "law") with
      | false =>
        rw [hz] at x
        cases x
      | true =>
        rw [hz] at x
        obtain ⟨ha, hlw⟩ := Bool.and_eq_true_iff.mp hz
        have ha := Nat.eq_of_beq_eq_true ha
        subst ha
        obtain ⟨rfl, rfl, rfl, rfl, rfl⟩ := nxc_inv x
        obtain ⟨x1, x2, x3⟩ := hX (eq_of_beq hlw)
        exact va_sld hx hb x1 x2 x3 hW.2.2.2.1 hc.1 hdg (K H locs ls hW hl)
  next => cases x
theorem g_alen {cc : ByteArray} {q : MI} (hx : p.tables.exec = Jvm.exec) (hb : c.code = cc) (hdg : decode cc pc = .ok (.arraylength, 1)) (hS : SRel ad A s s.heap) (hX : XRel ad A s q h) (hW : WRel ad tid D A s h H locs) (hl : PHas ad ls nL pl) (x : alen ((miN q).name == "law") (pc + 1) pl st h = some (cs, .inl (pc', pl', st', h'))) (K : KK p l e R s m args below meth c cells slots Q ad tid D A nL pc' pl' st' h') : W p l e R s m args below meth c H locs cells slots Q (F0 m pc ls (st.map (trV ad))) := by
  unfold alen at x
  split at x
  next a r =>
    split at x
    next => cases x
    next hn =>
      cases hz : Nat.beq a 1000 && ((miN q).name == "law") with
      | false =>
        rw [hz] at x
        cases hw : Nat.beq a 1003 with
        | false =>
          rw [hw] at x
          cases x
        | true =>
          rw [hw] at x
          have ha := Nat.eq_of_beq_eq_true hw
          subst ha
          obtain ⟨rfl, rfl, rfl, rfl, rfl⟩ := nx_inv x
          exact va_tlen hx hb hS.2.2.2.2.2.2.2.2 hW.2.2.2.1 rfl hdg (K H locs ls hW hl)
      | true =>
        rw [hz] at x
        obtain ⟨ha, hlw⟩ := Bool.and_eq_true_iff.mp hz
        have ha := Nat.eq_of_beq_eq_true ha
        subst ha
        obtain ⟨rfl, rfl, rfl, rfl, rfl⟩ := nx_inv x
        obtain ⟨x1, x2, x3⟩ := hX (eq_of_beq hlw)
        exact va_slen hx hb x1 x2 x3 hW.2.2.2.1 hdg (K H locs ls hW hl)
  next => cases x
theorem g_aldB {cc : ByteArray} (hx : p.tables.exec = Jvm.exec) (hb : c.code = cc) (hdg : decode cc pc = .ok (.baload, 1)) (hS : SRel ad A s s.heap) (hW : WRel ad tid D A s h H locs) (hl : PHas ad ls nL pl) (x : aldB (pc + 1) pl st h = some (cs, .inl (pc', pl', st', h'))) (hc : allP cs) (K : KK p l e R s m args below meth c cells slots Q ad tid D A nL pc' pl' st' h') : W p l e R s m args below meth c H locs cells slots Q (F0 m pc ls (st.map (trV ad))) := by
  unfold aldB at x
  split at x
  next i a r =>
    split at x
    next => cases x
    next hn =>
      cases hw : Nat.beq a 1003 with
      | false =>
        rw [hw] at x
        cases x
      | true =>
        rw [hw] at x
        have ha := Nat.eq_of_beq_eq_true hw
        subst ha
        obtain ⟨rfl, rfl, rfl, rfl, rfl⟩ := nxc_inv x
        exact va_tb hx hb hS.2.2.2.2.2.2.2.2 hW.2.2.2.1 hc.1 rfl hdg (K H locs ls hW hl)
  next => cases x
theorem g_getS {cc : ByteArray} {i : Nat} (hx : p.tables.exec = Jvm.exec) (hb : c.code = cc) (hown : s.vm.findClass RJ0 = some m.cls) (hl9 : (Cond.fieldLink RJ0 9 "java/lang/String" "value" "[B").before args s = true) (hl15 : (Cond.fieldLink RJ0 15 "java/lang/String" "coder" "B").before args s = true) (hdg : decode cc pc = .ok (.getfield i, 3)) (hS : SRel ad A s s.heap) (hW : WRel ad tid D A s h H locs) (hl : PHas ad ls nL pl) (x : getS i (pc + 3) pl st h = some (cs, .inl (pc', pl', st', h'))) (K : KK p l e R s m args below meth c cells slots Q ad tid D A nL pc' pl' st' h') : W p l e R s m args below meth c H locs cells slots Q (F0 m pc ls (st.map (trV ad))) := by
  unfold getS at x
  split at x
  next a r =>
    cases hw : Nat.beq a 1002 with
    | false =>
      rw [hw] at x
      cases x
    | true =>
      rw [hw] at x
      have ha := Nat.eq_of_beq_eq_true hw
      subst ha
      dsimp only [cond_true] at x
      cases h9 : Nat.beq i 9 with
      | true =>
        rw [h9] at x
        have h9 := Nat.eq_of_beq_eq_true h9
        subst h9
        obtain ⟨rfl, rfl, rfl, rfl, -⟩ := nx_inv x
        exact vk_getf hx hb hS.2.2.2.2.2.2.2.1 hW.2.2.2.1 hown hl9 (fun _ y => y) hdg (K H locs ls hW hl)
      | false =>
        rw [h9] at x
        dsimp only [cond_false] at x
        cases h15 : Nat.beq i 15 with
        | true =>
          rw [h15] at x
          have h15 := Nat.eq_of_beq_eq_true h15
          subst h15
          obtain ⟨rfl, rfl, rfl, rfl, -⟩ := nx_inv x
          exact vk_getf hx hb hS.2.2.2.2.2.2.1 hW.2.2.2.1 hown hl15 (fun _ y => y) hdg (K H locs ls hW hl)
        | false =>
          rw [h15] at x
          cases x
  next => cases x
theorem g_astI {cc : ByteArray} (hx : p.tables.exec = Jvm.exec) (hb : c.code = cc) (hdg : decode cc pc = .ok (.iastore, 1)) (hW : WRel ad tid D A s h H locs) (hl : PHas ad ls nL pl) (x : astI (pc + 1) pl st h = some (cs, .inl (pc', pl', st', h'))) (hc : allP cs) (K : KK p l e R s m args below meth c cells slots Q ad tid D A nL pc' pl' st' h') : W p l e R s m args below meth c H locs cells slots Q (F0 m pc ls (st.map (trV ad))) := by
  unfold astI at x
  split at x
  next v i a r =>
    split at x
    next n0 f hf =>
      obtain ⟨rfl, rfl, rfl, rfl, rfl⟩ := nxc_inv x
      exact va_iast hx hb hW.1 hW.2.1 hW.2.2.1 hW.2.2.2.1 a 0 (trW_at hf) rfl hc.1 hdg (fun H2 locs2 a1 a2 a3 => K H2 locs2 ls (hW.set (e0 := .inl (0, n0, .inl f)) a1 a2 a3) hl)
    next => cases x
  next => cases x
theorem g_aldJ {cc : ByteArray} (hx : p.tables.exec = Jvm.exec) (hb : c.code = cc) (hdg : decode cc pc = .ok (.laload, 1)) (hS : SRel ad A s s.heap) (hW : WRel ad tid D A s h H locs) (hl : PHas ad ls nL pl) (x : aldJ (pc + 1) pl st h = some (cs, .inl (pc', pl', st', h'))) (hc : allP cs) (K : KK p l e R s m args below meth c cells slots Q ad tid D A nL pc' pl' st' h') : W p l e R s m args below meth c H locs cells slots Q (F0 m pc ls (st.map (trV ad))) := by
  unfold aldJ at x
  split at x
  next i a r =>
    split at x
    next n0 f hf =>
      obtain ⟨rfl, rfl, rfl, rfl, rfl⟩ := nxc_inv x
      exact va_lald hx hb hW.1 hW.2.1 a 1 (trW_at hf) rfl hc.1 hdg (K H locs ls hW hl)
    next => cases x
    next hn =>
      cases hz : Nat.beq a 1001 with
      | false =>
        rw [hz] at x
        cases x
      | true =>
        rw [hz] at x
        have ha := Nat.eq_of_beq_eq_true hz
        subst ha
        obtain ⟨rfl, rfl, rfl, rfl, rfl⟩ := nxc_inv x
        exact va_tl hx hb hS.2.1 hW.2.2.2.1 hc.1 rfl hdg (K H locs ls hW hl)
  next => cases x
theorem g_astJ {cc : ByteArray} (hx : p.tables.exec = Jvm.exec) (hb : c.code = cc) (hdg : decode cc pc = .ok (.lastore, 1)) (hW : WRel ad tid D A s h H locs) (hl : PHas ad ls nL pl) (x : astJ (pc + 1) pl st h = some (cs, .inl (pc', pl', st', h'))) (hc : allP cs) (K : KK p l e R s m args below meth c cells slots Q ad tid D A nL pc' pl' st' h') : W p l e R s m args below meth c H locs cells slots Q (F0 m pc ls (st.map (trV ad))) := by
  unfold astJ at x
  split at x
  next v i a r =>
    split at x
    next n0 f hf =>
      obtain ⟨rfl, rfl, rfl, rfl, rfl⟩ := nxc_inv x
      exact va_last hx hb hW.1 hW.2.1 hW.2.2.1 hW.2.2.2.1 a 1 (trW_at hf) rfl hc.1 hdg (fun H2 locs2 a1 a2 a3 => K H2 locs2 ls (hW.set (e0 := .inl (1, n0, .inr (.inl f))) a1 a2 a3) hl)
    next => cases x
  next => cases x
theorem g_aldA {cc : ByteArray} (hx : p.tables.exec = Jvm.exec) (hb : c.code = cc) (hdg : decode cc pc = .ok (.aaload, 1)) (hW : WRel ad tid D A s h H locs) (hl : PHas ad ls nL pl) (x : aldA (pc + 1) pl st h = some (cs, .inl (pc', pl', st', h'))) (hc : allP cs) (K : KK p l e R s m args below meth c cells slots Q ad tid D A nL pc' pl' st' h') : W p l e R s m args below meth c H locs cells slots Q (F0 m pc ls (st.map (trV ad))) := by
  unfold aldA at x
  split at x
  next i a r =>
    split at x
    next n0 f hf =>
      obtain ⟨rfl, rfl, rfl, rfl, rfl⟩ := nxc_inv x
      have k := K H locs ls hW hl
      rw [List.map_cons, trV_rf] at k
      exact va_aldq hx hb hW.1 hW.2.1 a 2 (C := "ClueGrid$State") (f := fun j => (f j).map ad) (trW_at hf) rfl hc.1 hdg k
    next => cases x
  next => cases x
theorem map_up (ad : Nat → Nat) (f : Nat → Option Nat) (i v : Nat) : (fun j => (va_up f i (some v) j).map ad) = va_up (fun j => (f j).map ad) i (some (ad v)) := by
  funext j
  by_cases hj : j = i
  · simp [va_up, hj]
  · simp [va_up, hj]
theorem g_astA {cc : ByteArray} (hx : p.tables.exec = Jvm.exec) (hb : c.code = cc) (hdg : decode cc pc = .ok (.aastore, 1)) (hW : WRel ad tid D A s h H locs) (hl : PHas ad ls nL pl) (x : astA (pc + 1) pl st h = some (cs, .inl (pc', pl', st', h'))) (hc : allP cs) (K : KK p l e R s m args below meth c cells slots Q ad tid D A nL pc' pl' st' h') : W p l e R s m args below meth c H locs cells slots Q (F0 m pc ls (st.map (trV ad))) := by
  unfold astA at x
  split at x
  next v i a r =>
    split at x
    next n0 f vs hf hv =>
      obtain ⟨rfl, rfl, rfl, rfl, rfl⟩ := nxc_inv x
      refine va_astq hx hb hW.1 hW.2.1 hW.2.2.1 hW.2.2.2.1 a 2 v 1 (r := (RX3, TX3, 5)) (f := fun j => (f j).map ad) (trW_at hf) rfl (trW_at hv) rfl hc.1 hdg (fun H2 locs2 a1 a2 a3 => ?_)
      refine K H2 locs2 ls ⟨hW.1, ?_, ?_, a3, hW.2.2.2.2⟩ hl
      · show va_P D vwCl (trW ad tid 0 (h.2.set a _)) H2
        rw [trW_set0]
        show va_P D vwCl ((trW ad tid 0 h.2).set a (ad a, .inl (tid 2, n0, .inr (.inr (.inr (.inr (fun j => (va_up f i.toNatClampNeg (some v) j).map ad))))))) H2
        rw [map_up]
        exact a1
      · show va_D A (trW ad tid 0 (h.2.set a _))
        rw [trW_set0]
        show va_D A ((trW ad tid 0 h.2).set a (ad a, .inl (tid 2, n0, .inr (.inr (.inr (.inr (fun j => (va_up f i.toNatClampNeg (some v) j).map ad)))))))
        rw [map_up]
        exact a2
    next => cases x
  next => cases x
theorem g_tsw {cc : ByteArray} {dflt lo hi : Int} {offs : Array Int} {len : Nat} (hx : p.tables.exec = Jvm.exec) (hb : c.code = cc) (hdg : decode cc pc = .ok (.tableswitch dflt lo hi offs, len)) (hW : WRel ad tid D A s h H locs) (hl : PHas ad ls nL pl) (x : tsw dflt lo hi offs pc pl st h = some (cs, .inl (pc', pl', st', h'))) (hc : allP cs) (K : KK p l e R s m args below meth c cells slots Q ad tid D A nL pc' pl' st' h') : W p l e R s m args below meth c H locs cells slots Q (F0 m pc ls (st.map (trV ad))) := by
  unfold tsw at x
  split at x
  next v r =>
    split at x
    next ho =>
      obtain ⟨rfl, rfl, rfl, rfl, rfl⟩ := nxc_inv x
      exact lv_tableOut hx hb hdg ho (Int.toNat_of_nonneg hc.1).symm (K H locs ls hW hl)
    next ho =>
      split at x
      next off hoff =>
        obtain ⟨rfl, rfl, rfl, rfl, rfl⟩ := nxc_inv x
        exact lv_tableIn hx hb hdg (fun z => ho (Or.inl z)) (fun z => ho (Or.inr z)) (by rw [← Array.getElem?_toList]; exact hoff) (Int.toNat_of_nonneg hc.1).symm (K H locs ls hW hl)
      next => cases x
  next => cases x
theorem g_getF {cc : ByteArray} {k i : Nat} (hx : p.tables.exec = Jvm.exec) (hb : c.code = cc) (hts : ∀ w ∈ WORDS, w.before args s = true) (hown : s.vm.findClass (kN k) = some m.cls) (hF : ∀ x, cpF k i = some x → FOK k i x) (hdg : decode cc pc = .ok (.getfield i, 3)) (hW : WRel ad tid D A s h H locs) (hl : PHas ad ls nL pl) (x : getF (cpF k i) (pc + 3) pl st h = some (cs, .inl (pc', pl', st', h'))) (K : KK p l e R s m args below meth c cells slots Q ad tid D A nL pc' pl' st' h') : W p l e R s m args below meth c H locs cells slots Q (F0 m pc ls (st.map (trV ad))) := by
  unfold getF at x
  split at x
  next ci sl tg a r hcf =>
    split at x
    next cj fs hf =>
      cases hz : Nat.beq ci cj with
      | false =>
        rw [hz] at x
        cases x
      | true =>
        rw [hz] at x
        have hc := Nat.eq_of_beq_eq_true hz
        subst hc
        dsimp only [cond_true] at x
        split at x
        next v hv =>
          obtain ⟨rfl, rfl, rfl, rfl, -⟩ := nx_inv x
          obtain ⟨C, T, N, ty0, f1, f2, f3, f4, f5, -⟩ := hF _ hcf
          exact va_get hx hb hts f3 hown hW.1 hW.2.1 a (trW_at hf) f1 sl f2 (hts _ f4) (fun y hy => by rw [f5] at hy; exact hy) (by rw [List.getElem?_map, hv]; rfl) hdg (K H locs ls hW hl)
        next => cases x
    next => cases x
  next => cases x
theorem fitF_ok {tag : Nat} {v : Value} {cs : List Prop} (x : fitF tag v = some cs) (hc : allP cs) : tag ≤ 2 ∧ narrow (tagT tag) v = v ∧ Jvm.fits (tagT tag) v = true := by
  unfold fitF at x
  split at x
  next y => exact ⟨by decide, rfl, rfl⟩
  next y => exact ⟨by decide, rfl, rfl⟩
  next y =>
    simp only [Option.some.injEq] at x
    subst x
    rcases hc.1 with rfl | rfl
    · exact ⟨by decide, rfl, rfl⟩
    · exact ⟨by decide, rfl, rfl⟩
  next => cases x
theorem fitF_tr {tag : Nat} {v : Value} {cs : List Prop} (ad : Nat → Nat) (x : fitF tag v = some cs) : trV ad v = v := by
  unfold fitF at x
  split at x
  next y => rfl
  next y => rfl
  next y => rfl
  next => cases x
theorem g_putF {cc : ByteArray} {k i : Nat} (hx : p.tables.exec = Jvm.exec) (hb : c.code = cc) (hts : ∀ w ∈ WORDS, w.before args s = true) (hown : s.vm.findClass (kN k) = some m.cls) (hF : ∀ x, cpF k i = some x → FOK k i x) (hdg : decode cc pc = .ok (.putfield i, 3)) (hW : WRel ad tid D A s h H locs) (hl : PHas ad ls nL pl) (x : putF (cpF k i) (pc + 3) pl st h = some (cs, .inl (pc', pl', st', h'))) (hc : allP cs) (K : KK p l e R s m args below meth c cells slots Q ad tid D A nL pc' pl' st' h') : W p l e R s m args below meth c H locs cells slots Q (F0 m pc ls (st.map (trV ad))) := by
  unfold putF at x
  split at x
  next ci sl tg v a r hcf =>
    split at x
    next cj fs cs1 hf hfit =>
      cases hz : Nat.beq ci cj with
      | false =>
        rw [hz] at x
        cases x
      | true =>
        rw [hz] at x
        have hcc := Nat.eq_of_beq_eq_true hz
        subst hcc
        dsimp only [cond_true] at x
        split at x
        next v0 hv =>
          simp only [Option.some.injEq, Prod.mk.injEq, Sum.inl.injEq] at x
          obtain ⟨rfl, rfl, rfl, rfl, rfl⟩ := x
          obtain ⟨C, T, N, ty0, f1, f2, f3, f4, f5, f6, f7, f8⟩ := hF _ hcf
          obtain ⟨t1, t2, t3⟩ := fitF_ok hfit hc
          obtain ⟨g1, g2⟩ := f8 t1
          have hvt := fitF_tr ad hfit
          show W p l e R s m args below meth c H locs cells slots Q (F0 m pc ls (trV ad v :: .ref (ad a) :: r.map (trV ad)))
          rw [hvt]
          refine va_put hx hb hts f3 ty0 f6 f7 hown hW.1 hW.2.1 hW.2.2.1 hW.2.2.2.1 a (trW_at hf) f1 sl f2 (hts _ f4) (fun y hy => by rw [f5] at hy; exact hy) g1 g2 t2 t3 (by rw [List.length_map]; exact (List.getElem?_eq_some_iff.mp hv).1) hdg (fun H2 locs2 a1 a2 a3 => ?_)
          refine K H2 locs2 ls (hW.set (e0 := .inr (ci, fs)) ?_ ?_ a3) hl
          · show va_P D vwCl ((trW ad tid 0 h.2).set a (ad a, .inr (ci, (fs.set sl v).map (trV ad)))) H2
            rw [List.map_set, hvt]
            exact a1
          · show va_D A ((trW ad tid 0 h.2).set a (ad a, .inr (ci, (fs.set sl v).map (trV ad))))
            rw [List.map_set, hvt]
            exact a2
        next => cases x
    next => cases x
  next => cases x
end RowsP
