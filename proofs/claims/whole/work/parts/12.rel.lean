/-! THE MACHINE'S STATES against the pure ones: references by addresses, cells, locals -/
def trV (ad : Nat → Nat) : Value → Value
  | .ref a => .ref (ad a)
  | v => v
def trA (ad : Nat → Nat) : vp_A → vp_A
  | (n, .inl f) => (n, .inl f)
  | (n, .inr (.inl f)) => (n, .inr (.inl f))
  | (n, .inr (.inr (.inl f))) => (n, .inr (.inr (.inl f)))
  | (n, .inr (.inr (.inr (.inl f)))) => (n, .inr (.inr (.inr (.inl f))))
  | (n, .inr (.inr (.inr (.inr f)))) => (n, .inr (.inr (.inr (.inr (fun j => (f j).map ad)))))
def trE (ad : Nat → Nat) (tid : Nat → ClassId) : PE → va_E
  | .inl (t, a) => .inl (tid t, trA ad a)
  | .inr (ci, fs) => .inr (ci, fs.map (trV ad))
def trW (ad : Nat → Nat) (tid : Nat → ClassId) : Nat → List PE → va_W
  | _, [] => []
  | k, e :: t => (ad k, trE ad tid e) :: trW ad tid (k + 1) t
theorem trW_get (ad : Nat → Nat) (tid : Nat → ClassId) : ∀ (l : List PE) (k i : Nat), (trW ad tid k l)[i]? = (l[i]?).map (fun e => (ad (k + i), trE ad tid e))
  | [], _, _ => rfl
  | e :: t, k, 0 => rfl
  | e :: t, k, i + 1 => by
    have h := trW_get ad tid t (k + 1) i
    rw [show k + (i + 1) = k + 1 + i by omega]
    exact h
theorem trW_at {ad : Nat → Nat} {tid : Nat → ClassId} {l : List PE} {i : Nat} {e : PE} (h : l[i]? = some e) : (trW ad tid 0 l)[i]? = some (ad i, trE ad tid e) := by
  rw [trW_get, h, Nat.zero_add]
  rfl
theorem trW_set (ad : Nat → Nat) (tid : Nat → ClassId) : ∀ (l : List PE) (k i : Nat) (e : PE), trW ad tid k (l.set i e) = (trW ad tid k l).set i (ad (k + i), trE ad tid e)
  | [], _, _, _ => rfl
  | a :: t, k, 0, e => rfl
  | a :: t, k, i + 1, e => by
    have h := trW_set ad tid t (k + 1) i e
    show (ad k, trE ad tid a) :: trW ad tid (k + 1) (t.set i e) = (ad k, trE ad tid a) :: (trW ad tid (k + 1) t).set i _
    rw [h, show k + 1 + i = k + (i + 1) by omega]
theorem trW_set0 (ad : Nat → Nat) (tid : Nat → ClassId) (l : List PE) (i : Nat) (e : PE) : trW ad tid 0 (l.set i e) = (trW ad tid 0 l).set i (ad i, trE ad tid e) := by
  rw [trW_set, Nat.zero_add]
theorem trW_mem {ad : Nat → Nat} {tid : Nat → ClassId} {l : List PE} {i : Nat} {x : Nat × va_E} (h : (trW ad tid 0 l)[i]? = some x) : x.1 = ad i := by
  rw [trW_get] at h
  cases hl : l[i]? with
  | none =>
    rw [hl] at h
    cases h
  | some e =>
    rw [hl] at h
    simp only [Option.map_some, Option.some.injEq] at h
    rw [← h, Nat.zero_add]
theorem trV_cat (ad : Nat → Nat) (v : Value) : (trV ad v).category = v.category := by cases v <;> rfl
theorem trV_rf (ad : Nat → Nat) (r : Option Nat) : trV ad (va_rf r) = va_rf (r.map ad) := by cases r <;> rfl
/-- locals -/
def PHas (ad : Nat → Nat) (ls : Array Slot) (nL : Nat) (pl : PL) : Prop := ls.size = nL ∧ lv_wf ls ∧ pl.length = nL ∧ ∀ (i : Nat) (v : Value), pl[i]? = some (some v) → ls[i]? = some (.val (trV ad v))
def ascL (ad : Nat → Nat) : Nat → PL → List (Nat × Value)
  | _, [] => []
  | k, none :: t => ascL ad (k + 1) t
  | k, some v :: t => (k, trV ad v) :: ascL ad (k + 1) t
theorem ascL_mem (ad : Nat → Nat) : ∀ (pl : PL) (k : Nat) (q : Nat × Value), q ∈ ascL ad k pl ↔ ∃ (i : Nat) (v : Value), pl[i]? = some (some v) ∧ q = (k + i, trV ad v)
  | [], k, q => by simp [ascL]
  | none :: t, k, q => by
    rw [ascL, ascL_mem ad t (k + 1) q]
    constructor
    · rintro ⟨i, v, h, rfl⟩
      exact ⟨i + 1, v, h, by rw [show k + (i + 1) = k + 1 + i by omega]⟩
    · rintro ⟨i, v, h, rfl⟩
      cases i with
      | zero => simp at h
      | succ i => exact ⟨i, v, h, by rw [show k + (i + 1) = k + 1 + i by omega]⟩
  | some w :: t, k, q => by
    rw [ascL, List.mem_cons, ascL_mem ad t (k + 1) q]
    constructor
    · rintro (rfl | ⟨i, v, h, rfl⟩)
      · exact ⟨0, w, rfl, rfl⟩
      · exact ⟨i + 1, v, h, by rw [show k + (i + 1) = k + 1 + i by omega]⟩
    · rintro ⟨i, v, h, rfl⟩
      cases i with
      | zero =>
        simp only [List.getElem?_cons_zero, Option.some.injEq] at h
        subst h
        exact Or.inl rfl
      | succ i => exact Or.inr ⟨i, v, h, by rw [show k + (i + 1) = k + 1 + i by omega]⟩
theorem PHas.lv {ad : Nat → Nat} {ls : Array Slot} {nL : Nat} {pl : PL} (h : PHas ad ls nL pl) : lv_has ls nL (ascL ad 0 pl) := by
  refine ⟨h.1, h.2.1, fun q hq => ?_⟩
  obtain ⟨i, v, hi, rfl⟩ := (ascL_mem ad pl 0 q).mp hq
  rw [Nat.zero_add]
  exact h.2.2.2 i v hi
theorem setL_len : ∀ (pl : PL) (i : Nat) (v : Option Value), (setL pl i v).length = pl.length
  | [], _, _ => rfl
  | _ :: t, 0, v => rfl
  | o :: t, 1, v => by simp [setL, setL_len t 0 v]
  | o :: t, i + 2, v => by simp [setL, setL_len t (i + 1) v]
theorem setN_len : ∀ (pl : PL) (i : Nat), (setN pl i).length = pl.length
  | [], _ => rfl
  | _ :: t, 0 => rfl
  | o :: t, i + 1 => by simp [setN, setN_len t i]
theorem setN_get : ∀ (pl : PL) (i j : Nat) (v : Value), (setN pl i)[j]? = some (some v) → j ≠ i ∧ pl[j]? = some (some v)
  | [], _, _, _, h => by simp [setN] at h
  | o :: t, 0, 0, v, h => by simp [setN] at h
  | o :: t, 0, j + 1, v, h => ⟨by omega, h⟩
  | o :: t, i + 1, 0, v, h => ⟨by omega, h⟩
  | o :: t, i + 1, j + 1, v, h => by
    obtain ⟨a, b⟩ := setN_get t i j v h
    exact ⟨by omega, b⟩
theorem kill2_some {o : Option Value} {v : Value} (h : kill2 o = some v) : o = some v ∧ v.category ≠ 2 := by
  match o, h with
  | some (.int x), h => simp only [kill2, Option.some.injEq] at h; subst h; exact ⟨rfl, (by decide : (1 : Nat) ≠ 2)⟩
  | some (.float x), h => simp only [kill2, Option.some.injEq] at h; subst h; exact ⟨rfl, (by decide : (1 : Nat) ≠ 2)⟩
  | some .null, h => simp only [kill2, Option.some.injEq] at h; subst h; exact ⟨rfl, (by decide : (1 : Nat) ≠ 2)⟩
  | some (.ref x), h => simp only [kill2, Option.some.injEq] at h; subst h; exact ⟨rfl, (by decide : (1 : Nat) ≠ 2)⟩
  | some (.retAddr x), h => simp only [kill2, Option.some.injEq] at h; subst h; exact ⟨rfl, (by decide : (1 : Nat) ≠ 2)⟩
  | some (.long x), h => simp [kill2] at h
  | some (.double x), h => simp [kill2] at h
  | none, h => simp [kill2] at h
theorem setL_get : ∀ (pl : PL) (i j : Nat) (x : Option Value) (v : Value), (setL pl i x)[j]? = some (some v) → (j = i ∧ x = some v) ∨ (j ≠ i ∧ pl[j]? = some (some v) ∧ ¬ (j + 1 = i ∧ v.category = 2))
  | [], _, _, _, _, h => by simp [setL] at h
  | o :: t, 0, 0, x, v, h => by
    simp only [setL, List.getElem?_cons_zero, Option.some.injEq] at h
    exact Or.inl ⟨rfl, h⟩
  | o :: t, 0, j + 1, x, v, h => Or.inr ⟨by omega, h, fun z => by omega⟩
  | o :: t, 1, 0, x, v, h => by
    simp only [setL, List.getElem?_cons_zero, Option.some.injEq] at h
    obtain ⟨rfl, h2⟩ := kill2_some h
    exact Or.inr ⟨by omega, rfl, fun z => h2 z.2⟩
  | o :: t, 1, j + 1, x, v, h => by
    rcases setL_get t 0 j x v h with ⟨rfl, a⟩ | ⟨a, b, c⟩
    · exact Or.inl ⟨rfl, a⟩
    · exact Or.inr ⟨by omega, b, fun z => by omega⟩
  | o :: t, i + 2, 0, x, v, h => Or.inr ⟨by omega, h, fun z => by omega⟩
  | o :: t, i + 2, j + 1, x, v, h => by
    rcases setL_get t (i + 1) j x v h with ⟨rfl, a⟩ | ⟨a, b, c⟩
    · exact Or.inl ⟨rfl, a⟩
    · exact Or.inr ⟨by omega, b, fun z => c ⟨by omega, z.2⟩⟩
/-- behind a store of category 1 -/
theorem PHas.st1 {ad : Nat → Nat} {ls ls' : Array Slot} {nL i : Nat} {pl : PL} {x : Value} (h : PHas ad ls nL pl)
    (h' : lv_has ls' nL ((i, trV ad x) :: (ascL ad 0 pl).filter (fun q => !(q.1 == i) && !(q.1 + 1 == i && q.2.category == 2)))) : PHas ad ls' nL (setL pl i (some x)) := by
  refine ⟨h'.1, h'.2.1, by rw [setL_len]; exact h.2.2.1, fun j v hj => ?_⟩
  rcases setL_get pl i j _ v hj with ⟨rfl, hx⟩ | ⟨h1, h2, h3⟩
  · cases hx
    exact h'.2.2 _ List.mem_cons_self
  · refine h'.2.2 (j, trV ad v) (List.mem_cons_of_mem _ (List.mem_filter.mpr ⟨(ascL_mem ad pl 0 _).mpr ⟨j, v, h2, by rw [Nat.zero_add]⟩, ?_⟩))
    simp only [Bool.and_eq_true, Bool.not_eq_true', beq_eq_false_iff_ne, ne_eq, Bool.and_eq_false_iff, trV_cat]
    refine ⟨h1, ?_⟩
    by_cases z : j + 1 = i
    · exact Or.inr (fun z2 => h3 ⟨z, z2⟩)
    · exact Or.inl z
/-- behind a store of category 2 -/
theorem PHas.st2 {ad : Nat → Nat} {ls ls' : Array Slot} {nL i : Nat} {pl : PL} {x : Value} (h : PHas ad ls nL pl)
    (h' : lv_has ls' nL ((i, trV ad x) :: (ascL ad 0 pl).filter (fun q => !(q.1 == i) && (!(q.1 == i + 1) && !(q.1 + 1 == i && q.2.category == 2))))) : PHas ad ls' nL (setN (setL pl i (some x)) (i + 1)) := by
  refine ⟨h'.1, h'.2.1, by rw [setN_len, setL_len]; exact h.2.2.1, fun j v hj => ?_⟩
  obtain ⟨hn, hj⟩ := setN_get _ _ _ _ hj
  rcases setL_get pl i j _ v hj with ⟨rfl, hx⟩ | ⟨h1, h2, h3⟩
  · cases hx
    exact h'.2.2 _ List.mem_cons_self
  · refine h'.2.2 (j, trV ad v) (List.mem_cons_of_mem _ (List.mem_filter.mpr ⟨(ascL_mem ad pl 0 _).mpr ⟨j, v, h2, by rw [Nat.zero_add]⟩, ?_⟩))
    simp only [Bool.and_eq_true, Bool.not_eq_true', beq_eq_false_iff_ne, ne_eq, Bool.and_eq_false_iff, trV_cat]
    refine ⟨h1, hn, ?_⟩
    by_cases z : j + 1 = i
    · exact Or.inr (fun z2 => h3 ⟨z, z2⟩)
    · exact Or.inl z
theorem PHas.ld {ad : Nat → Nat} {ls : Array Slot} {nL i : Nat} {pl : PL} {v : Value} (h : PHas ad ls nL pl) (e : pl[i]? = some (some v)) : ls[i]? = some (.val (trV ad v)) := h.2.2.2 i v e
/-- a local that is forgotten -/
theorem PHas.drop {ad : Nat → Nat} {ls : Array Slot} {nL i : Nat} {pl : PL} (h : PHas ad ls nL pl) : PHas ad ls nL (setN pl i) :=
  ⟨h.1, h.2.1, by rw [setN_len]; exact h.2.2.1, fun j v hj => h.2.2.2 j v (setN_get _ _ _ _ hj).2⟩
/-- the classes of the rows: of ints, of longs, of States -/
def tysL (tid : Nat → ClassId) : List (ClassId × FieldType) := [(tid 0, .int), (tid 1, .long), (tid 2, .object "ClueGrid$State")]
/-- the heap, as the frame's start and its cells have it -/
def WRel (ad : Nat → Nat) (tid : Nat → ClassId) (D : va_G) (A : Nat → Prop) (s : State) (h : PH) (H : Heap) (locs : List Loc) : Prop :=
  va_K D vwCl (tysL tid) s ∧ va_P D vwCl (trW ad tid 0 h.2) H ∧ va_D A (trW ad tid 0 h.2) ∧ va_S A s.heap H locs ∧ (∀ q, s.heap.size ≤ q → A q)
/-- what nobody writes: the table of orders, two statics of Throwable -/
def SRel (ad : Nat → Nat) (A : Nat → Prop) (U : State) (H : Heap) : Prop :=
  va_Z "ClueGrid$Survey" "ORDER" "[J" (.ref (ad 1001)) A U H ∧ va_T .long (ad 1001) 24 (fun j => .long (tabT j)) A U H ∧ vx_Zq Bundle.tN "UNASSIGNED_STACK" Bundle.steD A U H ∧ vx_Zq Bundle.tN "SUPPRESSED_SENTINEL" Bundle.listD A U H ∧
  va_Z "java/lang/String" "COMPACT_STRINGS" "Z" (.int 1) A U H ∧ va_O "java/lang/String" (ad 1002) A U H ∧ va_OF "java/lang/String" "coder" "B" (.int 0) (ad 1002) A U H ∧ va_OF "java/lang/String" "value" "[B" (.ref (ad 1003)) (ad 1002) A U H ∧ va_T .byte (ad 1003) 7 (fun j => .int (strB j)) A U H
theorem SRel.moved {ad : Nat → Nat} {A : Nat → Prop} {u U : State} {H : Heap} (hvm : u.vm.Alike U.vm) (h : SRel ad A u H) : SRel ad A U H := ⟨va_Z.moved hvm h.1, va_T.moved hvm h.2.1, vx_Zq.moved hvm h.2.2.1, vx_Zq.moved hvm h.2.2.2.1, va_Z.moved hvm h.2.2.2.2.1, va_O.moved hvm h.2.2.2.2.2.1, va_OF.moved hvm h.2.2.2.2.2.2.1, va_OF.moved hvm h.2.2.2.2.2.2.2.1, va_T.moved hvm h.2.2.2.2.2.2.2.2⟩
theorem SRel.kept {ad : Nat → Nat} {A : Nat → Prop} {U : State} {H H1 : Heap} (h : SRel ad A U H) (hq : ∀ a : Nat, a < H.size → ¬ A a → H1[a]? = H[a]?) : SRel ad A U H1 := ⟨va_Z.kept h.1 hq, va_T.kept h.2.1 hq, vx_Zq.kept h.2.2.1 hq, vx_Zq.kept h.2.2.2.1 hq, va_Z.kept h.2.2.2.2.1 hq, va_O.kept h.2.2.2.2.2.1 hq, va_OF.kept h.2.2.2.2.2.2.1 hq, va_OF.kept h.2.2.2.2.2.2.2.1 hq, va_T.kept h.2.2.2.2.2.2.2.2 hq⟩
theorem SRel.narrow {ad : Nat → Nat} {A B : Nat → Prop} {U : State} {H : Heap} (h : SRel ad A U H) (hAB : ∀ q, B q → A q) : SRel ad B U H := ⟨va_Z.narrow h.1 hAB, va_T.narrow h.2.1 hAB, vx_Zq.narrow h.2.2.1 hAB, vx_Zq.narrow h.2.2.2.1 hAB, va_Z.narrow h.2.2.2.2.1 hAB, va_O.narrow h.2.2.2.2.2.1 hAB, va_OF.narrow h.2.2.2.2.2.2.1 hAB, va_OF.narrow h.2.2.2.2.2.2.2.1 hAB, va_T.narrow h.2.2.2.2.2.2.2.2 hAB⟩
/-- the frame: its code, class, words -/
def FRel (p : Program) (l : Launch) (s : State) (m : MethodId) (args : Array Value) (meth : Method) (c : Code) (q : MI) : Prop :=
  p.tables.exec = Jvm.exec ∧ c.code = miB q ∧ c.maxLocals = miL q ∧ s.vm.findClass (kN (miK q)) = some m.cls ∧ (∀ w ∈ WORDS, w.before args s = true) ∧ l.stackTraces = false ∧ meth.locks = false ∧ meth.sig.returnType = miR q
/-- the law's script -/
def XRel (ad : Nat → Nat) (A : Nat → Prop) (s : State) (q : MI) (h : PH) : Prop := (miN q).name = "law" → va_X (ad 1000) h.1.1 h.1.2 s s.heap ∧ ad 1000 < s.heap.size ∧ ¬ A (ad 1000)
