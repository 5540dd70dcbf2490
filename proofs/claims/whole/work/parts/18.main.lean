/-! THE MAIN SIMULATION: runs of any length, by their fuel -/
def rmD (d k : Nat) : Room := { frames := d + 8, cells := k, slots := 6 * k, locals := 64 * d + 300 }
def wsM (y : MI) : List Cond := Cond.code (miN y) (miB y) (miL y) (miR y) :: WORDS
def wsH (y : MI) (hh : List (Nat × Nat × Nat × Nat)) : List Cond := Cond.codeWith (miN y) (miB y) (miL y) (miR y) hh :: WORDS
/-- what the tables of handlers say, against the machine's -/
def HSt (y : MI) (hh : List (Nat × Nat × Nat × Nat)) : Prop := ∀ (pc : Nat) (e : String) (ph i : Nat), hndF pc e (miH y) = some (ph, i) → ∃ (pre suf : List ExceptionTableEntry) (x : ExceptionTableEntry), tableOf hh = pre ++ x :: suf ∧
  (∀ z ∈ pre, covers z pc = false ∨ (z.catchType ≠ 0 ∧ ∃ nm : String, Cond.classLink (kN (miK y)) z.catchType nm ∈ WORDS ∧ (e, nm) ∈ exP)) ∧ covers x pc = true ∧ x.catchType ≠ 0 ∧ Cond.classLink (kN (miK y)) x.catchType e ∈ WORDS ∧ Cond.castable e e ∈ ncW ∧
  ((decode (miB y) x.handlerPc = .ok (.astore i, 2) ∧ ph = x.handlerPc + 2) ∨ (∃ k : Fin 4, decode (miB y) x.handlerPc = .ok (.astore_n k, 1) ∧ (k : Nat) = i ∧ ph = x.handlerPc + 1)) ∧ i < miL y
def MOKw (y : MI) : Prop := MOK y ∧ miS y = true ∧ (miH y).isEmpty = false ∧ ∃ hh, Cond.codeWith (miN y) (miB y) (miL y) (miR y) hh ∈ WORDS ∧ HSt y hh
def PreC (ad : Nat → Nat) (tid : Nat → ClassId) (D : va_G) (sz : Nat) (h : PH) (U : State) : Prop :=
  U.heap.size = sz ∧ va_P D vwCl (trW ad tid 0 h.2) U.heap ∧ va_K D vwCl (tysL tid) U ∧ va_D (fun _ => True) (trW ad tid 0 h.2) ∧ SRel ad (va_A (trW ad tid 0 h.2) sz) U U.heap ∧ TRel ad U
def PostC (ad : Nat → Nat) (tid : Nat → ClassId) (D : va_G) (A : Nat → Prop) (h : PH) (t : State) : Prop := va_P D vwCl (trW ad tid 0 h.2) t.heap ∧ va_D A (trW ad tid 0 h.2)
def QcC (ad : Nat → Nat) (tid : Nat → ClassId) (D : va_G) (A : Nat → Prop) (o : Option Value ⊕ String) (h : PH) : Array Value → State → Outcome → State → Prop := fun _ st oc t => (∃ v, o = .inl v ∧ oc = .returned (v.map (trV ad))) ∧ PostC ad tid D A h t ∧ va_F A st t
def XcC (ad : Nat → Nat) (tid : Nat → ClassId) (D : va_G) (A : Nat → Prop) (o : Option Value ⊕ String) (h : PH) : String → State → State → Prop := fun E st t => o = .inr E ∧ PostC ad tid D A h t ∧ va_F A st t
/-- how a frame ends -/
def RetK (p : Program) (l : Launch) (e : Env) (R : Room) (s : State) (m : MethodId) (args : Array Value) (below : List Frame) (meth : Method) (c : Code) (cells slots : Nat) (Q : State → Prop) (ad : Nat → Nat) (tid : Nat → ClassId) (D : va_G) (A : Nat → Prop) (q : MI) (o : Option Value ⊕ String) (h' : PH) : Prop :=
  ∀ (v : Option Value) (H2 : Heap) (locs2 : List Loc) (ls2 : Array Slot) (pc2 : Nat), o = .inl v → WRel ad tid D A s h' H2 locs2 → retAt q pc2 v → W p l e R s m args below meth c H2 locs2 cells slots Q (F0 m pc2 ls2 (v.map (trV ad)).toList)
def ThrK (s : State) (args : Array Value) (below : List Frame) (c : Code) (cells slots : Nat) (Q : State → Prop) (ad : Nat → Nat) (tid : Nat → ClassId) (D : va_G) (A : Nat → Prop) (o : Option Value ⊕ String) (h' : PH) : Prop :=
  ∀ x, o = .inr x → (∀ z ∈ c.exceptionTable.toList, False) ∧ ∃ Qc XC mc ms free, Q = vx_MQ below Qc XC args s mc ms free ∧ cells ≤ mc ∧ slots ≤ ms ∧ (∀ z, A z → free z) ∧
    ∀ (H2 : Heap) (locs2 : List Loc), WRel ad tid D A s h' H2 locs2 → ∀ t : State, s.vm.Alike t.vm → H2.size ≤ t.heap.size → (∀ z : Nat, z < H2.size → t.heap[z]? = H2[z]?) → XC x s t
/-- handlers of this frame -/
def HRel (s : State) (args : Array Value) (c : Code) (q : MI) : Prop := ∀ (pc : Nat) (e : String) (ph i : Nat), hndF pc e (miH q) = some (ph, i) → ∃ (pre suf : List ExceptionTableEntry) (x : ExceptionTableEntry), c.exceptionTable.toList = pre ++ x :: suf ∧
  (∀ z ∈ pre, covers z pc = false ∨ (z.catchType ≠ 0 ∧ ∃ nm : String, (Cond.classLink (kN (miK q)) z.catchType nm).before args s = true ∧ va_Nc e nm s)) ∧ covers x pc = true ∧ x.catchType ≠ 0 ∧ (Cond.classLink (kN (miK q)) x.catchType e).before args s = true ∧ (Cond.castable e e).before args s = true ∧
  ((decode (miB q) x.handlerPc = .ok (.astore i, 2) ∧ ph = x.handlerPc + 2) ∨ (∃ k : Fin 4, decode (miB q) x.handlerPc = .ok (.astore_n k, 1) ∧ (k : Nat) = i ∧ ph = x.handlerPc + 1)) ∧ i < miL q
theorem HRel_no {s : State} {args : Array Value} {c : Code} {q : MI} (h : miH q = []) : HRel s args c q := by
  intro pc e ph i hh
  rw [h] at hh
  cases hh
def SimAt (n : Nat) : Prop := ∀ (d : Nat) (q : MI) (pc : Nat) (pl : PL) (st : List Value) (h : PH) (o : Option Value ⊕ String) (h' : PH) (k : Nat), prun n d q pc pl st h = some (o, h', k) → rowsOK q → TOK q →
  ∀ (p : Program) (l : Launch) (e : Env) (R : Room) (s : State) (m : MethodId) (args : Array Value) (below : List Frame) (meth : Method) (c : Code) (H : Heap) (locs : List Loc) (cells slots : Nat) (Q : State → Prop) (ad : Nat → Nat) (tid : Nat → ClassId) (D : va_G) (A : Nat → Prop) (ls : Array Slot),
    FRel p l s m args meth c q → SRel ad A s s.heap → TRel ad s → XRel ad A s q h → HRel s args c q → d + 8 ≤ R.frames → 64 * d + 300 ≤ R.locals → cells + k ≤ R.cells → slots + 6 * k ≤ R.slots → WRel ad tid D A s h H locs → PHas ad ls (miL q) pl →
    RetK p l e R s m args below meth c (cells + k) (slots + 6 * k) Q ad tid D A q o h' → ThrK s args below c (cells + k) (slots + 6 * k) Q ad tid D A o h' →
    W p l e R s m args below meth c H locs cells slots Q (F0 m pc ls (st.map (trV ad)))
theorem catS_app : ∀ a b : List Value, catS (a ++ b) = catS a + catS b
  | [], b => by simp [catS]
  | v :: t, b => by
    show v.category + catS (t ++ b) = v.category + catS t + catS b
    rw [catS_app t b, Nat.add_assoc]
theorem catS_rev (a : List Value) : catS a.reverse = catS a := by
  induction a with
  | nil => rfl
  | cons v t ih =>
    rw [List.reverse_cons, catS_app, ih]
    show catS t + (v.category + 0) = v.category + catS t
    omega
theorem cat_12 (v : Value) : v.category = 1 ∨ v.category = 2 := by
  cases v
  · exact Or.inl rfl
  · exact Or.inr rfl
  · exact Or.inl rfl
  · exact Or.inr rfl
  · exact Or.inl rfl
  · exact Or.inl rfl
  · exact Or.inl rfl
theorem entL_len : ∀ l : List Value, (entL l).length = catS l
  | [] => rfl
  | v :: t => by
    rw [entL]
    rcases cat_12 v with hv | hv
    · rw [if_neg (by omega), List.length_cons, entL_len t]
      show catS t + 1 = v.category + catS t
      omega
    · rw [if_pos hv, List.length_cons, List.length_cons, entL_len t]
      show catS t + 1 + 1 = v.category + catS t
      omega
theorem lg_len (ad : Nat → Nat) : ∀ l : List Value, (lg_sl (l.map (trV ad))).length = catS l
  | [] => rfl
  | v :: t => by
    have h := lg_len ad t
    have h2 : lg_sl ((v :: t).map (trV ad)) = (if (trV ad v).category = 2 then [.val (trV ad v), .second] else [.val (trV ad v)]) ++ lg_sl (t.map (trV ad)) := rfl
    rw [h2, List.length_append, h, trV_cat]
    rcases cat_12 v with hv | hv
    · rw [if_neg (by omega)]
      show 1 + catS t = v.category + catS t
      omega
    · rw [if_pos hv]
      show 2 + catS t = v.category + catS t
      omega
theorem ent_args (ad : Nat → Nat) : ∀ (l : List Value) (k i : Nat) (v : Value), (entL l)[i]? = some (some v) → (k + i, trV ad v) ∈ lv_args k (l.map (trV ad))
  | [], k, i, v, h => by simp [entL] at h
  | w :: t, k, i, v, h => by
    rw [List.map_cons, lv_args, trV_cat]
    rw [entL] at h
    cases i with
    | zero =>
      simp only [List.getElem?_cons_zero, Option.some.injEq] at h
      subst h
      exact List.mem_cons_self
    | succ i =>
      refine List.mem_cons_of_mem _ ?_
      rcases cat_12 w with hw | hw
      · rw [if_neg (by omega)] at h ⊢
        have h2 := ent_args ad t (k + 1) i v h
        rw [show k + (i + 1) = k + 1 + i by omega]
        exact h2
      · rw [if_pos hw] at h ⊢
        cases i with
        | zero => simp at h
        | succ i =>
          have h2 := ent_args ad t (k + 2) i v h
          rw [show k + (i + 1 + 1) = k + 2 + i by omega]
          exact h2
theorem PHas_entry {ad : Nat → Nat} {y : MI} {as : List Value} {ls : Array Slot} (hc : catS as ≤ miL y) (hl : lv_has ls (miL y) (lv_args 0 (as.map (trV ad)))) : PHas ad ls (miL y) (entP y as) := by
  refine ⟨hl.1, hl.2.1, ?_, fun i v hi => ?_⟩
  · rw [entP, padL, List.length_append, List.length_replicate, entL_len]
    omega
  · rw [entP, padL] at hi
    rcases Nat.lt_or_ge i (entL as).length with hlt | hge
    · rw [List.getElem?_append_left hlt] at hi
      have h2 := ent_args ad as 0 i v hi
      rw [Nat.zero_add] at h2
      exact hl.2.2 _ h2
    · rw [List.getElem?_append_right hge] at hi
      have h3 := List.mem_of_getElem? hi
      have h4 := List.eq_of_mem_replicate h3
      cases h4
section MainP
variable {p : Program} {l : Launch} {e : Env} {R : Room} {s : State} {m : MethodId} {args : Array Value} {below : List Frame} {meth : Method} {c : Code} {H : Heap} {locs : List Loc} {cells slots : Nat} {Q : State → Prop}
variable {ad : Nat → Nat} {tid : Nat → ClassId} {D : va_G} {A : Nat → Prop} {ls : Array Slot} {pc n : Nat} {pl : PL} {st : List Value} {h : PH}
theorem callG {Qa : State → Outcome → State → Prop} {XC : String → State → State → Prop} {mc ms : Nat} {free : Addr → Prop} {A0 A1 : Nat → Prop} {H0 : Heap} {st0 rest : List Value} {vr : Option Value} {B : State → Prop} {E0 : String}
    (hr : vx_Run p l e R s m args below meth c H locs cells slots mc ms (F0 m pc ls st0) rest Qa XC free) (hS : va_S A0 H0 H locs) (hA : ∀ q, q < H.size → A1 q → A0 q) (hf : ∀ q, free q → A0 q)
    (hQ : ∀ (st t : State) (v : Option Value), Qa st (.returned v) t → v = vr ∧ B t ∧ va_F A1 st t) (hX : ∀ (E : String) (st t : State), XC E st t → E = E0 ∧ B t ∧ va_F A1 st t)
    (kx : (∃ st t, XC E0 st t) → ∀ (ce : Cell) (q9 : Addr) (t : State) (H1 : Heap) (locs1 : List Loc), t.heap = H1 → s.vm.Alike t.vm → B t → va_S A0 H0 H1 locs1 → H1[q9]? = some ce → ce.vm = .none → s.vm.findClass E0 = some ce.cls → vx_W p l e R s m args below meth c H1 locs1 (cells + mc) (slots + ms) Q (F0 m pc ls rest) q9)
    (kk : (∃ st t, Qa st (.returned vr) t) → ∀ (t : State) (H1 : Heap) (locs1 : List Loc), t.heap = H1 → s.vm.Alike t.vm → B t → va_S A0 H0 H1 locs1 → W p l e R s m args below meth c H1 locs1 (cells + mc) (slots + ms) Q (F0 m (pc + 3) ls (vr.toList ++ rest))) : W p l e R s m args below meth c H locs cells slots Q (F0 m pc ls st0) := by
  intro T hT X
  rcases hr T hT X with ⟨v, st₀, t, T', L, h0, X', hL, e1, e2, hq, st⟩ | ⟨q, st₀, t, T', L, E, ce, h0, X', hL, e1, e2, hq, hce, hcv, hcl, st⟩
  · obtain ⟨rfl, hb, hF⟩ := hQ _ _ _ hq
    obtain ⟨k1, k2, k3⟩ := vx_keep h0 e1 hS hA hf hL hF
    obtain ⟨t2, a1, b1⟩ := kk ⟨_, _, hq⟩ t T'.heap (locs ++ L) e1.symm (by rw [← e2]; exact X'.warmed.alike) hb k3 T' rfl X'
    exact ⟨t2, st t2 a1, b1⟩
  · obtain ⟨rfl, hb, hF⟩ := hX _ _ _ hq
    obtain ⟨k1, k2, k3⟩ := vx_keep h0 e1 hS hA hf hL hF
    obtain ⟨t2, a1, b1⟩ := kx ⟨_, _, hq⟩ ce q t T'.heap (locs ++ L) e1.symm (by rw [← e2]; exact X'.warmed.alike) hb k3 (by rw [e1]; exact hce) hcv hcl T' rfl X'
    exact ⟨t2, st.trans a1, b1⟩
theorem goodW {ws : List Cond} (h : ∀ w ∈ ws, w ∈ WORDS) : GoodIn WORDS ws := fun w hw => ⟨h w hw, good_of_word (List.mem_filter.mp (h w hw)).2⟩
theorem WRel.free (hW : WRel ad tid D A s h H locs) : ∀ q, va_A (trW ad tid 0 h.2) H.size q → A q := by
  intro q hq
  rcases hq with ⟨k, e9, hk⟩ | hq
  · exact hW.2.2.1.2 k (q, e9) hk
  · exact hW.2.2.2.2 q (Nat.le_trans hW.2.2.2.1.1 hq)
theorem WRel.pre (hW : WRel ad tid D A s h H locs) (hS : SRel ad A s s.heap) (hT : TRel ad s) {U : State} (hU : U.heap = H) (hw : s.WarmedH U.vm) : PreC ad tid D H.size h U := by
  refine ⟨by rw [hU], by rw [hU]; exact hW.2.1, va_K.moved hw.alike hW.1, ⟨hW.2.2.1.1, fun _ _ _ => trivial⟩, ?_, hT.warm hw⟩
  rw [hU]
  exact ((hS.moved hw.alike).kept (fun a h1 h2 => hW.2.2.2.1.2.1 a h1 h2)).narrow hW.free
theorem PreC.blind {as : List Value} {sz : Nat} : FrameBlind (va_Pc as (PreC ad tid D sz h)) := by
  intro a U g mk hp
  obtain ⟨h1, h2, h3, h4, h5, h6, h7⟩ := hp
  exact ⟨h1, h2, h3, va_K.moved (u := U) (U := U.calling g mk a) (Vm.Alike.refl U.vm) h4, h5, SRel.moved (u := U) (U := U.calling g mk a) (Vm.Alike.refl U.vm) h6, TRel.same (u := U) (U := U.calling g mk a) rfl h7⟩
theorem WRel.post {h1 : PH} {H1 : Heap} {locs1 : List Loc} {t : State} (hW : WRel ad tid D A s h H locs) (ht : t.heap = H1) (hB : PostC ad tid D (va_A (trW ad tid 0 h.2) H.size) h1 t) (hS : va_S A s.heap H1 locs1) : WRel ad tid D A s h1 H1 locs1 :=
  ⟨hW.1, by rw [← ht]; exact hB.1, hB.2.weaken (fun _ _ _ z => hW.free _ z), hS, hW.2.2.2.2⟩
/-- the end of a method's frame -/
theorem ret_row {q : MI} {v : Option Value} {o : Option Value ⊕ String} {h' : PH} {k : Nat} {ls2 : Array Slot} {H2 : Heap} {locs2 : List Loc} (F : FRel p l s m args meth c q) (ho : o = .inl v) (hA : A = va_A (trW ad tid 0 h.2) s.heap.size) (hW : WRel ad tid D A s h' H2 locs2) (hr : retAt q pc v) :
    W p l e R s m args below meth c H2 locs2 (0 + k) (0 + 6 * k) (vx_MQ below (QcC ad tid D A o h') (XcC ad tid D A o h') args s k (6 * k) A) (F0 m pc ls2 (v.map (trV ad)).toList) := by
  obtain ⟨hx, hb, hml, hown, hts, hlt, hlk, hrt⟩ := F
  rw [Nat.zero_add, Nat.zero_add]
  have hq : ∀ t : State, t.heap = H2 → s.WarmedH t.vm → QcC ad tid D A o h' args s (.returned (v.map (trV ad))) t := fun t ht hw => ⟨⟨v, ho, rfl⟩, ⟨by rw [ht]; exact hW.2.1, hW.2.2.1⟩, hW.2.2.2.1.F ht⟩
  refine vx_ret ?_
  match v, hr, hq with
  | none, hr, hq => exact W.vret hx hb (hrt.trans hr.2) hq hW.2.2.2.1.2.2 hr.1 hlk
  | some (.int x), hr, hq =>
    rcases hr.2 with h2 | ⟨h2, h3⟩ | ⟨h2, h3⟩
    · exact W.iret hx hb (hrt.trans h2) hq hW.2.2.2.1.2.2 hr.1 hlk
    · exact W.zret hx hb (hrt.trans h2) (by rcases h3 with rfl | rfl <;> rfl) hq hW.2.2.2.1.2.2 hr.1 hlk
    · exact W.zret hx hb (hrt.trans h2) (by rw [h3]; rfl) hq hW.2.2.2.1.2.2 hr.1 hlk
  | some (.long x), hr, hq => exact W.lret hx hb (hrt.trans hr.2) hq hW.2.2.2.1.2.2 hr.1 hlk
  | some (.float x), hr, hq => exact W.fret hx hb (hrt.trans hr.2) hq hW.2.2.2.1.2.2 hr.1 hlk
  | some (.double x), hr, hq => exact W.dret hx hb (hrt.trans hr.2) hq hW.2.2.2.1.2.2 hr.1 hlk
end MainP
set_option maxHeartbeats 4000000 in
/-- a method's contract out of a run -/
theorem con_of {n d : Nat} {y : MI} {as : List Value} {h h1 : PH} {o : Option Value ⊕ String} {k : Nat} (hs : SimAt n) (M : MOKc y) (T : TOK y) (hlaw : (miN y).name ≠ "law") (hc : catS as ≤ miL y) (hr : prun n d y 0 (entP y as) [] h = some (o, h1, k)) (l : Launch) (hlt : l.stackTraces = false) (ad : Nat → Nat) (tid : Nat → ClassId) (D : va_G) (sz : Nat) :
    vx_Met l (miN y) (wsM y) (rmD d k) (va_Pc (as.map (trV ad)) (PreC ad tid D sz h)) (QcC ad tid D (va_A (trW ad tid 0 h.2) sz) o h1) (XcC ad tid D (va_A (trW ad tid 0 h.2) sz) o h1) k (6 * k) (va_A (trW ad tid 0 h.2) sz) := by
  obtain ⟨⟨m1, m2, m3, m4, m5, m6, m7, m8⟩, mh, mc⟩ := M
  refine vx_ofW (cc := miB y) (maxL := miL y) (ret := miR y) m5 rfl ?_
  intro p e s m args below meth c s₁ B hml hex hv
  obtain ⟨rfl, hsz, hP, hK, hD0, hS, hT⟩ := hv
  subst hsz
  have hl := lv_entry (as.map (trV ad)) (n := miL y) (by rw [lg_len]; exact hc)
  rw [lg_entry_eq]
  generalize (lg_sl (as.map (trV ad)) ++ List.replicate (miL y - (lg_sl (as.map (trV ad))).length) Slot.unset).toArray = ls at hl ⊢
  have hown : s.vm.findClass (miN y).cls = some m.cls := findClass_of_methodNamed B.named
  have hts := atoms_spec (ws := wsM y) B.pre
  have F : FRel p l s m (as.map (trV ad)).toArray meth c y := ⟨B.exec, B.bytes, hml, by rw [← m6]; exact hown, fun w hw => hts w (List.mem_cons_of_mem _ hw), hlt, B.notSynchronized, B.returns⟩
  have hWr : WRel ad tid D (va_A (trW ad tid 0 h.2) s.heap.size) s h s.heap [] := ⟨hK, hP, hD0.self, va_S.rf, fun q hq => Or.inr hq⟩
  refine hs d y 0 (entP y as) [] h o h1 k hr m1 T p l e _ s m _ below meth c s.heap [] 0 0 _ ad tid D _ ls F hS hT (fun z => absurd z hlaw) (HRel_no mh) (Nat.le_refl _) (Nat.le_refl _) (by show 0 + k ≤ k; omega) (by show 0 + 6 * k ≤ 6 * k; omega) hWr (PHas_entry hc hl) ?_ ?_
  · intro v H2 locs2 ls2 pc2 ho hW2 hra
    exact ret_row F ho rfl hW2 hra
  · intro x ho
    refine ⟨hex, _, _, _, _, _, rfl, by omega, by omega, fun z hz => hz, ?_⟩
    intro H2 locs2 hW2 t hal h1' h2'
    refine ⟨ho, ⟨?_, hW2.2.2.1⟩, Nat.le_trans hW2.2.2.2.1.1 h1', fun z hz hn => (h2' z (Nat.lt_of_lt_of_le hz hW2.2.2.2.1.1)).trans (hW2.2.2.2.1.2.1 z hz hn)⟩
    exact hW2.2.1.kept (fun kk q hk => h2' q.1 (vx_lt hW2.2.1 hk))
set_option maxHeartbeats 4000000 in
/-- the same of a method with handlers, which returns -/
theorem con_ofH {n d : Nat} {y : MI} {as : List Value} {h h1 : PH} {v : Option Value} {k : Nat} {hh : List (Nat × Nat × Nat × Nat)} (hs : SimAt n) (M : MOK y) (T : TOK y) (hlaw : (miN y).name ≠ "law") (hcw : Cond.codeWith (miN y) (miB y) (miL y) (miR y) hh ∈ WORDS) (hH : HSt y hh) (hc : catS as ≤ miL y) (hr : prun n d y 0 (entP y as) [] h = some (.inl v, h1, k)) (l : Launch) (hlt : l.stackTraces = false) (ad : Nat → Nat) (tid : Nat → ClassId) (D : va_G) (sz : Nat) :
    vx_Met l (miN y) (wsH y hh) (rmD d k) (va_Pc (as.map (trV ad)) (PreC ad tid D sz h)) (QcC ad tid D (va_A (trW ad tid 0 h.2) sz) (.inl v) h1) (XcC ad tid D (va_A (trW ad tid 0 h.2) sz) (.inl v) h1) k (6 * k) (va_A (trW ad tid 0 h.2) sz) := by
  obtain ⟨m1, m2, m3, m4, m5, m6, m7, m8⟩ := M
  refine vx_ofWH (cc := miB y) (maxL := miL y) (ret := miR y) (hh := hh) m5 rfl ?_
  intro p e s m args below meth c s₁ B hml hv
  obtain ⟨rfl, hsz, hP, hK, hD0, hS, hT⟩ := hv
  subst hsz
  have hl := lv_entry (as.map (trV ad)) (n := miL y) (by rw [lg_len]; exact hc)
  rw [lg_entry_eq]
  generalize (lg_sl (as.map (trV ad)) ++ List.replicate (miL y - (lg_sl (as.map (trV ad))).length) Slot.unset).toArray = ls at hl ⊢
  have hown : s.vm.findClass (miN y).cls = some m.cls := findClass_of_methodNamed B.named
  have hts0 := atoms_spec (ws := wsH y hh) B.pre
  have hts : ∀ w ∈ WORDS, w.before (as.map (trV ad)).toArray s = true := fun w hw => hts0 w (List.mem_cons_of_mem _ hw)
  have F : FRel p l s m (as.map (trV ad)).toArray meth c y := ⟨B.exec, B.bytes, hml, by rw [← m6]; exact hown, hts, hlt, B.notSynchronized, B.returns⟩
  have hWr : WRel ad tid D (va_A (trW ad tid 0 h.2) s.heap.size) s h s.heap [] := ⟨hK, hP, hD0.self, va_S.rf, fun q hq => Or.inr hq⟩
  have htab : c.exceptionTable.toList = tableOf hh := vx_table (x := miN y) B (hts0 _ List.mem_cons_self)
  have hHR : HRel s (as.map (trV ad)).toArray c y := by
    intro pc e9 ph i hx
    obtain ⟨pre, suf, x, a1, a2, a3, a4, a5, a6, a7, a8⟩ := hH pc e9 ph i hx
    refine ⟨pre, suf, x, by rw [htab]; exact a1, fun z hz => ?_, a3, a4, hts _ a5, va_any (ncW_on _ a6) (hT.1 _ a6), a7, a8⟩
    rcases a2 z hz with b | ⟨b1, nm, b2, b3⟩
    · exact Or.inl b
    · exact Or.inr ⟨b1, nm, hts _ b2, hT.2.2.1 _ b3⟩
  refine hs d y 0 (entP y as) [] h (.inl v) h1 k hr m1 T p l e _ s m _ below meth c s.heap [] 0 0 _ ad tid D _ ls F hS hT (fun z => absurd z hlaw) hHR (Nat.le_refl _) (Nat.le_refl _) (by show 0 + k ≤ k; omega) (by show 0 + 6 * k ≤ 6 * k; omega) hWr (PHas_entry hc hl) ?_ ?_
  · intro v H2 locs2 ls2 pc2 ho hW2 hra
    exact ret_row F ho rfl hW2 hra
  · intro x ho
    cases ho
theorem prun_scr : ∀ {n d : Nat} {q : MI} {pc : Nat} {pl : PL} {st : List Value} {h : PH} {o : Option Value ⊕ String} {h' : PH} {k : Nat}, prun n d q pc pl st h = some (o, h', k) → h'.1 = h.1 := by
  intro n
  induction n with
  | zero =>
    intro d q pc pl st h o h' k hr
    simp [prun] at hr
  | succ n ih =>
    intro d q pc pl st h o h' k hr
    rw [prun] at hr
    cases hp : pstep q pc pl st h with
    | none =>
      rw [hp] at hr
      cases hr
    | some x =>
      obtain ⟨cs, r⟩ := x
      rw [hp] at hr
      dsimp only at hr
      by_cases hc : allP cs
      · rw [if_pos hc] at hr
        rcases r with ⟨pc', pl', st', h2⟩ | v | e | ⟨y, as, pc', rest⟩
        · rw [ih hr, pstep_scr hp]
        · simp only [Option.some.injEq, Prod.mk.injEq] at hr
          rw [hr.2.1]
        · simp only [Option.some.injEq, Prod.mk.injEq] at hr
          rw [hr.2.1]
        · cases d with
          | zero => cases hr
          | succ d =>
            dsimp only at hr
            cases hq : prun n d y 0 (entP y as) [] h with
            | none =>
              rw [hq] at hr
              cases hr
            | some x1 =>
              obtain ⟨o1, h1, k1⟩ := x1
              rw [hq] at hr
              cases o1 with
              | inl v =>
                dsimp only at hr
                obtain ⟨j, hj, -⟩ := addK_some hr
                rw [ih hj, ih hq]
              | inr e =>
                dsimp only at hr
                cases hy : (miH y).isEmpty with
                | false =>
                  rw [hy] at hr
                  cases hr
                | true =>
                  rw [hy] at hr
                  dsimp only [cond_true] at hr
                  cases hh : hndF pc e (miH q) with
                  | none =>
                    rw [hh] at hr
                    simp only [Option.some.injEq, Prod.mk.injEq] at hr
                    rw [← hr.2.1, ih hq]
                  | some w =>
                    rw [hh] at hr
                    dsimp only at hr
                    obtain ⟨j, hj, -⟩ := addK_some hr
                    rw [ih hj, ih hq]
      · rw [if_neg hc] at hr
        cases hr
/-- behind the store of a value that is forgotten -/
theorem PHas.st0 {ad : Nat → Nat} {ls ls' : Array Slot} {nL i : Nat} {pl : PL} {w : Value} (h : PHas ad ls nL pl)
    (h' : lv_has ls' nL ((i, w) :: (ascL ad 0 pl).filter (fun q => !(q.1 == i) && !(q.1 + 1 == i && q.2.category == 2)))) : PHas ad ls' nL (setL pl i none) := by
  refine ⟨h'.1, h'.2.1, by rw [setL_len]; exact h.2.2.1, fun j v hj => ?_⟩
  rcases setL_get pl i j _ v hj with ⟨rfl, hx⟩ | ⟨h1, h2, h3⟩
  · cases hx
  · refine h'.2.2 (j, trV ad v) (List.mem_cons_of_mem _ (List.mem_filter.mpr ⟨(ascL_mem ad pl 0 _).mpr ⟨j, v, h2, by rw [Nat.zero_add]⟩, ?_⟩))
    simp only [Bool.and_eq_true, Bool.not_eq_true', beq_eq_false_iff_ne, ne_eq, Bool.and_eq_false_iff, trV_cat]
    refine ⟨h1, ?_⟩
    by_cases z : j + 1 = i
    · exact Or.inr (fun z2 => h3 ⟨z, z2⟩)
    · exact Or.inl z
theorem vw_at (cj : Nat) (h : cj + 2 ≤ 7) : ∃ (T : u_T) (N : Nat), vwCl[cj]? = some (kN (cj + 2), T, N) := by
  match cj, h with
  | 0, _ => exact ⟨_, _, rfl⟩
  | 1, _ => exact ⟨_, _, rfl⟩
  | 2, _ => exact ⟨_, _, rfl⟩
  | 3, _ => exact ⟨_, _, rfl⟩
  | 4, _ => exact ⟨_, _, rfl⟩
  | 5, _ => exact ⟨_, _, rfl⟩
  | k + 6, h => exact absurd h (by omega)
section MainQ
variable {p : Program} {l : Launch} {e : Env} {R : Room} {s : State} {m : MethodId} {args : Array Value} {below : List Frame} {meth : Method} {c : Code} {H : Heap} {locs : List Loc} {cells slots : Nat} {Q : State → Prop}
variable {ad : Nat → Nat} {tid : Nat → ClassId} {D : va_G} {A : Nat → Prop} {ls : Array Slot} {pc n : Nat} {pl : PL} {st : List Value} {h : PH}
/-- a call, static or virtual, out of the callee's run -/
theorem call_run {d i : Nat} {q y : MI} {b : Bool} {o1 : Option Value ⊕ String} {h1 : PH} {k1 : Nat} {cs : List Prop} {z : Option Value ⊕ (String ⊕ (MI × List Value × Nat × List Value))} (hs : SimAt n) (F : FRel p l s m args meth c q) (hS : SRel ad A s s.heap) (hT : TRel ad s) (hW : WRel ad tid D A s h H locs) (hl : PHas ad ls (miL q) pl)
    (hdec : decode (miB q) pc = .ok (bif b then Instr.invokestatic i else Instr.invokevirtual i, 3)) (hL : LOK (miK q) i y) (My : MOK y) (Ty : TOK y) (hco : callO y b (pc + 3) st h = some (cs, .inr z)) (hq : prun n d y 0 (entP y (st.take (miA y)).reverse) [] h = some (o1, h1, k1)) (hk : MOKc y ∨ (MOKw y ∧ ∃ v, o1 = .inl v))
    (hR : d + 9 ≤ R.frames ∧ 64 * d + 364 ≤ R.locals) (hf : cells + k1 ≤ R.cells ∧ slots + 6 * k1 ≤ R.slots) :
    vx_Run p l e R s m args below meth c H locs cells slots k1 (6 * k1) (F0 m pc ls (st.map (trV ad))) ((st.drop (miA y)).map (trV ad)) (QcC ad tid D (va_A (trW ad tid 0 h.2) H.size) o1 h1 ((st.take (miA y)).reverse.map (trV ad)).toArray) (XcC ad tid D (va_A (trW ad tid 0 h.2) H.size) o1 h1) (va_A (trW ad tid 0 h.2) H.size) := by
  obtain ⟨hx, hb, hml, hown, hts, hlt, hlk, hrt⟩ := F
  obtain ⟨-, c2, c3, c4, c5, c6⟩ := callO_inv hco
  obtain ⟨m1, m2, m3, m4, m5, m6, m7, m8⟩ := id My
  have hcat : catS (st.take (miA y)).reverse ≤ miL y := by rw [catS_rev]; exact c5
  have hst : st.map (trV ad) = ((st.take (miA y)).reverse.map (trV ad)).reverse ++ (st.drop (miA y)).map (trV ad) := by
    rw [← List.map_reverse, List.reverse_reverse, ← List.map_append, List.take_append_drop]
  have hrest : 2 * (F0 m pc ls (st.map (trV ad))).monitorRoom + (((st.drop (miA y)).map (trV ad)).map fun v => v.category).sum ≤ 8 := lv_room (by rw [catS_sum]; exact c4)
  have hroom : (rmD d k1).frames + 1 ≤ R.frames ∧ 8 + (miL y + 11) + (rmD d k1).locals ≤ R.locals := ⟨hR.1, by
    show 8 + (miL y + 11) + (64 * d + 300) ≤ R.locals
    omega⟩
  have hpre : PreS s H (va_Pc ((st.take (miA y)).reverse.map (trV ad)) (PreC ad tid D H.size h)) ((st.take (miA y)).reverse.map (trV ad)) := ⟨PreC.blind, fun U hU hw => ⟨rfl, hW.pre hS hT hU hw⟩⟩
  have hlen : ((st.take (miA y)).reverse.map (trV ad)).length = miA y := by rw [List.length_map, List.length_reverse, List.length_take]; omega
  have S : CallFix p m c (miB q) (miL q) s args WORDS (kN (miK q)) := ⟨hx, hb, hml, hown, hts⟩
  cases b with
  | true =>
    rw [c2] at m3 m4
    rcases hk with Mc | ⟨⟨-, w1, w2, hh, w3, w4⟩, v, rfl⟩
    · refine vx_runS S (con_of hs Mc Ty hL.2 hcat hq l hlt ad tid D H.size) (va_cwS (miA y) hts (goodW ?_) rfl rfl rfl m4 hroom) hpre rfl hlen hl.1 hst hrest hdec hf
      intro w hw
      simp only [va_wsS, wsM, List.cons_append, List.nil_append, List.mem_cons] at hw
      rcases hw with rfl | rfl | rfl | rfl | hw
      · exact hL.1
      · exact m3
      · exact m2
      · exact Mc.2.2
      · exact hw
    · refine vx_runSX S (con_ofH hs My Ty hL.2 w3 w4 hcat hq l hlt ad tid D H.size) (vx_cwSW (miA y) hts (goodW ?_) rfl rfl rfl m4 hroom) hpre rfl hlen hl.1 hst hrest hdec hf
      intro w hw
      simp only [va_wsS, wsH, List.cons_append, List.nil_append, List.mem_cons] at hw
      rcases hw with rfl | rfl | rfl | rfl | hw
      · exact hL.1
      · exact m3
      · exact m2
      · exact w3
      · exact hw
  | false =>
    rw [c2] at m3 m4
    rcases hk with Mc | ⟨⟨-, w1, -⟩, -⟩
    · rcases c6 with c6 | ⟨a, as, e1, e2⟩
      · cases c6
      · have hcell : ∃ cellB : Cell, H[ad a]? = some cellB ∧ cellB.vm.isStatics = false ∧ s.vm.findClass (miN y).cls = some cellB.cls := by
          rcases e2 with ⟨cj, fs, f1, f2, f3⟩ | ⟨f1, rfl, f3⟩
          · obtain ⟨T9, N9, g1⟩ := vw_at cj (by omega)
            rw [m6, ← f2]
            exact va_recv hW.1 hW.2.1 g1 (trW_at f1)
          · obtain ⟨cell, g1, g2, g3, -⟩ := (hS.kept (fun a9 h1 h2 => hW.2.2.2.1.2.1 a9 h1 h2)).2.2.2.2.2.1
            exact ⟨cell, g1, g2, by rw [m6, f3]; exact g3⟩
        rw [e1] at hlen hst hpre hq hcat ⊢
        rw [List.map_cons] at hlen hst hpre ⊢
        rw [List.length_cons] at hlen
        refine vx_runV (As := as.map (trV ad)) (b := ad a) (C := (miN y).cls) S (con_of hs Mc Ty hL.2 hcat hq l hlt ad tid D H.size) (cwV (miA y - 1) hts (goodW ?_) rfl rfl rfl ⟨rfl, m4⟩ hroom) ⟨hpre.1, ?_, fun U hU hw => hpre.2 U hU hw⟩ rfl (by omega) hl.1 ?_ hrest hdec hf
        · intro w hw
          simp only [wsV, wsM, List.cons_append, List.nil_append, List.mem_cons] at hw
          rcases hw with rfl | rfl | rfl | rfl | rfl | hw
          · exact hL.1
          · exact m3.1
          · exact m3.2
          · exact m2
          · exact Mc.2.2
          · exact hw
        · exact hcell
        · show st.map (trV ad) = _
          rw [hst, List.reverse_cons, List.append_assoc]
          rfl
    · rw [w1] at c2
      cases c2
end MainQ
