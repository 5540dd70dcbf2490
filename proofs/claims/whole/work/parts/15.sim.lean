/-! THE SIMULATION: a run of the pure machine is a run of the machine -/
theorem copyW1 : Cond.methodLink RX3 15 arraycopyName ∈ WORDS := wm 218 (by decide +kernel) rfl
theorem copyW2 : Cond.native arraycopyName ∈ WORDS := wm 220 (by decide +kernel) rfl
theorem copyW3 : Cond.static arraycopyName ∈ WORDS := wm 219 (by decide +kernel) rfl
theorem ordW : Cond.fieldLink RX4 15 "ClueGrid$Survey" "ORDER" "[J" ∈ WORDS := wm 504 (by decide +kernel) rfl
theorem copyW4 : Cond.initialized "java/lang/System" ∈ WORDS := wm 71 (by decide +kernel) rfl
theorem strW1 : Cond.fieldLink RJ0 9 "java/lang/String" "value" "[B" ∈ WORDS := wm 1437 (by decide +kernel) rfl
theorem strW2 : Cond.fieldLink RJ0 15 "java/lang/String" "coder" "B" ∈ WORDS := wm 1436 (by decide +kernel) rfl
theorem strW3 : Cond.fieldLink RJ0 38 "java/lang/String" "COMPACT_STRINGS" "Z" ∈ WORDS := wm 273 (by decide +kernel) rfl
theorem mathW1 : Cond.methodLink RJ1 92 Lib.Math.max.name ∈ WORDS := wm 289 (by decide +kernel) rfl
theorem mathW2 : Cond.static Lib.Math.max.name ∈ WORDS := wm 290 (by decide +kernel) rfl
theorem mathW3 : Cond.initialized "java/lang/Math" ∈ WORDS := wm 77 (by decide +kernel) rfl
theorem mathW4 : Cond.code Lib.Math.max.name Lib.Math.max.code 2 (some .int) ∈ WORDS := wm 291 (by decide +kernel) rfl
theorem mathW5 : Cond.methodLink RJ1 38 Lib.Math.min.name ∈ WORDS := wm 292 (by decide +kernel) rfl
theorem mathW6 : Cond.static Lib.Math.min.name ∈ WORDS := wm 293 (by decide +kernel) rfl
theorem mathW7 : Cond.code Lib.Math.min.name Lib.Math.min.code 2 (some .int) ∈ WORDS := wm 294 (by decide +kernel) rfl
theorem catS_sum (ad : Nat → Nat) : ∀ l : List Value, ((l.map (trV ad)).map fun v => v.category).sum = catS l
  | [] => rfl
  | v :: t => by
    rw [List.map_cons, List.map_cons, List.sum_cons, catS_sum ad t, trV_cat]
    rfl
section SimP
variable {p : Program} {l : Launch} {e : Env} {R : Room} {s : State} {m : MethodId} {args : Array Value} {below : List Frame} {meth : Method} {c : Code} {H : Heap} {locs : List Loc} {cells slots : Nat} {Q : State → Prop}
variable {ad : Nat → Nat} {tid : Nat → ClassId} {D : va_G} {A : Nat → Prop} {ls : Array Slot} {pc n g : Nat} {pl : PL} {st : List Value} {h : PH} {cs : List Prop} {pc' : Nat} {pl' : PL} {st' : List Value} {h' : PH}
theorem dec_of {b : ByteArray} {i : Instr} (x : rowB b pc (i, n, g) = true) (e : decB b pc n i = (decide (decode b pc = .ok (i, ilen i)) && Nat.beq n (pc + ilen i))) : decode b pc = .ok (i, ilen i) ∧ pc + ilen i = n := by
  have h1 := (Bool.and_eq_true_iff.mp x).1
  rw [e] at h1
  obtain ⟨h2, h3⟩ := Bool.and_eq_true_iff.mp h1
  exact ⟨of_decide_eq_true h2, (Nat.eq_of_beq_eq_true h3).symm⟩
theorem tgt_of {b : ByteArray} {i : Instr} (x : rowB b pc (i, n, g) = true) : tgtB pc g i = true := (Bool.and_eq_true_iff.mp x).2
theorem va_ldcwF {T : State} (X : Stand p l e R s m args below meth c T locs cells slots) (hexec : p.tables.exec = Jvm.exec) {own : String} {index : Nat} {v : UInt32} (hown : s.vm.findClass own = some m.cls)
    (hconst : (Cond.constantFloat own index v).before args s = true) {g : JFrame} (hg : g.method = m) (hdg : decode c.code g.pc = .ok (.ldc_w index, 3)) :
    ∀ target, Steps p.tables e below (T.setTop { g with pc := g.pc + 3, stack := .float v :: g.stack }) target → Steps p.tables e below (T.setTop g) target := by
  obtain ⟨k, cf, hk, hcf, hcp⟩ := Cond.constantFloat_spec hown hconst
  obtain ⟨k', hk', he⟩ := X.warmed.alike.2.2 _ _ hk
  intro target hrest
  subst hg
  jvm_step X.here [hexec, hdg, ldc_w.wp_float (s := T) (f := g) X.here.top hk' (by rw [he]; exact hcf) hcp]
  exact hrest
theorem lv_ldcwf {cc : ByteArray} (hexec : p.tables.exec = Jvm.exec) (hb : c.code = cc) {own : String} {index : Nat} {v : UInt32} (hown : s.vm.findClass own = some m.cls) (hconst : (Jvm.Cond.constantFloat own index v).before args s = true) (hdg : decode cc pc = .ok (.ldc_w index, 3)) {rest : List Value} (k : W p l e R s m args below meth c H locs cells slots Q (F0 m (pc + 3) ls (.float v :: rest))) : W p l e R s m args below meth c H locs cells slots Q (F0 m pc ls rest) := by
  intro T hT X
  obtain ⟨t, a, b⟩ := k T hT X
  exact ⟨t, va_ldcwF X hexec hown hconst (g := F0 m pc ls rest) rfl (by rw [hb]; exact hdg) t a, b⟩
theorem g_opM {mx : Bool} {nL : Nat} (hW : WRel ad tid D A s h H locs) (hl : PHas ad ls nL pl) (x : opM mx (pc + 3) pl st h = some (cs, .inl (pc', pl', st', h'))) (hc : allP cs) (K : KK p l e R s m args below meth c cells slots Q ad tid D A nL pc' pl' st' h')
    (row : ∀ (v w : Int32) (r : List Value), (r.map fun v => v.category).sum ≤ 8 → W p l e R s m args below meth c H locs cells slots Q (F0 m (pc + 3) ls (.int (bif mx then (if v < w then w else v) else (if w < v then w else v)) :: r)) → W p l e R s m args below meth c H locs cells slots Q (F0 m pc ls (.int w :: .int v :: r))) : W p l e R s m args below meth c H locs cells slots Q (F0 m pc ls (st.map (trV ad))) := by
  unfold opM at x
  split at x
  next w v r =>
    obtain ⟨rfl, rfl, rfl, rfl, rfl⟩ := nxc_inv x
    exact row v w _ (by rw [catS_sum]; exact hc.1) (K H locs ls hW hl)
  next => cases x
theorem wd {w : Cond} (hts : ∀ w ∈ WORDS, w.before args s = true) (k : Nat) (h : lw_tbl[k]? = some w) (g : goodWord w = true) : w.before args s = true := hts w (wm k h g)
theorem g_extCopy {cc : ByteArray} (hx : p.tables.exec = Jvm.exec) (hb : c.code = cc) (hml : c.maxLocals = ls.size) (hown : s.vm.findClass RX3 = some m.cls) (hts : ∀ w ∈ WORDS, w.before args s = true) (hR : 8 ≤ R.frames ∧ 300 ≤ R.locals) (hdg : decode cc pc = .ok (.invokestatic 15, 3)) (hW : WRel ad tid D A s h H locs) {nL : Nat} (hl : PHas ad ls nL pl) (x : extCopy (pc + 3) pl st h = some (cs, .inl (pc', pl', st', h'))) (hc : allP cs) (K : KK p l e R s m args below meth c cells slots Q ad tid D A nL pc' pl' st' h') : W p l e R s m args below meth c H locs cells slots Q (F0 m pc ls (st.map (trV ad))) := by
  unfold extCopy at x
  split at x
  next k dp a sp b r =>
    split at x
    next n0 f n1 g hf hg =>
      obtain ⟨rfl, rfl, rfl, rfl, rfl⟩ := nxc_inv x
      obtain ⟨⟨⟨h1, h2, h3⟩, h4, h5, rfl⟩, -⟩ := hc
      exact va_copyi hx hb hml hown (hts _ copyW1) (hts _ copyW2) (hts _ copyW3) (hts _ copyW4) hW.1 hW.2.1 hW.2.2.1 hW.2.2.2.1 b a 0 0 (trW_at hf) (trW_at hg) rfl rfl rfl h1 h2 h3 h4 h5 (fun _ _ => rfl) (Nat.le_trans (by decide) hR.1) (Nat.le_trans (show (0 : Nat) + (nativeFrameWords "java/lang/System" "arraycopy" 5 + 11) ≤ 300 by decide +kernel) hR.2) hdg (fun H2 locs2 a1 a2 a3 => K H2 locs2 ls (hW.set (e0 := .inl (0, n1, .inl g)) a1 a2 a3) hl)
    next => cases x
  next => cases x

theorem callO_no (y : MI) (b : Bool) (n : Nat) (st : List Value) (h : PH) : ¬ callO y b n st h = some (cs, .inl (pc', pl', st', h')) := by
  intro x
  unfold callO at x
  generalize (miS y == b && _ && _ && _ && _) = z at x
  cases z with
  | false => cases x
  | true => cases x
set_option maxHeartbeats 4000000 in
theorem sim_row {q : MI} (M : rowsOK q) (F : FRel p l s m args meth c q) (hS : SRel ad A s s.heap) (hT : TRel ad s) (hX : XRel ad A s q h) (hR : 8 ≤ R.frames ∧ 300 ≤ R.locals ∧ cells ≤ R.cells ∧ slots ≤ R.slots) (hW : WRel ad tid D A s h H locs) (hl : PHas ad ls (miL q) pl) (x : pstep q pc pl st h = some (cs, .inl (pc', pl', st', h'))) (hc : allP cs) (K : KK p l e R s m args below meth c cells slots Q ad tid D A (miL q) pc' pl' st' h') : W p l e R s m args below meth c H locs cells slots Q (F0 m pc ls (st.map (trV ad))) := by
  obtain ⟨hx, hb, hml, hown, hts, hlt, hlk, hrt⟩ := F
  unfold pstep at x
  cases hcode : codeAt q pc with
  | none =>
    rw [hcode] at x
    cases x
  | some y =>
    obtain ⟨i, n, g⟩ := y
    rw [hcode] at x
    dsimp only at x
    have hr := M pc _ hcode
    cases i
    case iload i =>
      obtain ⟨hd, rfl⟩ := dec_of hr rfl
      exact g_ldI (fun _ a k => lv_iload hx hb hd a k) hW hl x K
    case iload_n i =>
      obtain ⟨hd, rfl⟩ := dec_of hr rfl
      exact g_ldI (fun _ a k => lv_iload_n hx hb hd rfl a k) hW hl x K
    case lload i =>
      obtain ⟨hd, rfl⟩ := dec_of hr rfl
      exact g_ldJ (fun _ a k => lv_lload hx hb hd a k) hW hl x K
    case lload_n i =>
      obtain ⟨hd, rfl⟩ := dec_of hr rfl
      exact g_ldJ (fun _ a k => lv_lload_n hx hb hd rfl a k) hW hl x K
    case dload i =>
      obtain ⟨hd, rfl⟩ := dec_of hr rfl
      exact g_ldD (fun _ a k => lv_dload hx hb hd a k) hW hl x K
    case dload_n i =>
      obtain ⟨hd, rfl⟩ := dec_of hr rfl
      exact g_ldD (fun _ a k => lv_dload_n hx hb hd rfl a k) hW hl x K
    case aload i =>
      obtain ⟨hd, rfl⟩ := dec_of hr rfl
      exact g_ldA (fun _ a k => lv_aload hx hb hd a k) hW hl x K
    case aload_n i =>
      obtain ⟨hd, rfl⟩ := dec_of hr rfl
      exact g_ldA (fun _ a k => lv_aload_n hx hb hd rfl a k) hW hl x K
    case istore i =>
      obtain ⟨hd, rfl⟩ := dec_of hr rfl
      exact g_stI (fun _ _ _ _ a b c2 k => lv_istore hx hb hd a b c2 k) hW hl x K
    case istore_n i =>
      obtain ⟨hd, rfl⟩ := dec_of hr rfl
      exact g_stI (fun _ _ _ _ a b c2 k => lv_istore_n hx hb hd rfl a b c2 k) hW hl x K
    case lstore i =>
      obtain ⟨hd, rfl⟩ := dec_of hr rfl
      exact g_stJ (fun _ _ _ _ a b c2 k => lv_lstore hx hb hd a b c2 k) hW hl x K
    case lstore_n i =>
      obtain ⟨hd, rfl⟩ := dec_of hr rfl
      exact g_stJ (fun _ _ _ _ a b c2 k => lv_lstore_n hx hb hd rfl a b c2 k) hW hl x K
    case dstore i =>
      obtain ⟨hd, rfl⟩ := dec_of hr rfl
      exact g_stD (fun _ _ _ _ a b c2 k => lv_dstore hx hb hd a b c2 k) hW hl x K
    case dstore_n i =>
      obtain ⟨hd, rfl⟩ := dec_of hr rfl
      exact g_stD (fun _ _ _ _ a b c2 k => lv_dstore_n hx hb hd rfl a b c2 k) hW hl x K
    case astore i =>
      obtain ⟨hd, rfl⟩ := dec_of hr rfl
      exact g_stA (fun _ _ _ _ a b c2 k => lv_astore hx hb hd a b c2 k) hW hl x K
    case astore_n i =>
      obtain ⟨hd, rfl⟩ := dec_of hr rfl
      exact g_stA (fun _ _ _ _ a b c2 k => lv_astore_n hx hb hd rfl a b c2 k) hW hl x K
    case iconst i =>
      obtain ⟨hd, rfl⟩ := dec_of hr rfl
      exact g_push (v := .int (Int32.ofInt i)) (fun k => lv_iconst hx hb hd rfl k) hW hl x K
    case bipush i =>
      obtain ⟨hd, rfl⟩ := dec_of hr rfl
      exact g_push (v := .int (Int8.ofInt i).toInt32) (fun k => lv_bipush hx hb hd rfl k) hW hl x K
    case sipush i =>
      obtain ⟨hd, rfl⟩ := dec_of hr rfl
      exact g_push (v := .int (Int16.ofInt i).toInt32) (fun k => lv_sipush hx hb hd rfl k) hW hl x K
    case lconst i =>
      obtain ⟨hd, rfl⟩ := dec_of hr rfl
      exact g_push (v := .long (Int64.ofNat i.val)) (fun k => lv_lconst hx hb hd rfl k) hW hl x K
    case dconst i =>
      obtain ⟨hd, rfl⟩ := dec_of hr rfl
      match i, hd, x with
      | 0, hd, x => exact g_push (v := .double 0) (fun k => lv_dconst0 hx hb hd k) hW hl x K
      | 1, hd, x => exact g_push (v := .double 4607182418800017408) (fun k => lv_dconst1 hx hb hd k) hW hl x K
    case ldc i =>
      obtain ⟨hd, rfl⟩ := dec_of hr rfl
      simp only [pstepI] at x
      cases hz : Nat.beq (miK q) 5 && Nat.beq i 56 with
      | true =>
        rw [hz] at x
        obtain ⟨h1, h2⟩ := Bool.and_eq_true_iff.mp hz
        have h1 := Nat.eq_of_beq_eq_true h1
        have h2 := Nat.eq_of_beq_eq_true h2
        subst h2
        rw [h1] at hown
        exact g_push (v := .ref 1002) (fun k => va_ldcS hx hb hown hT.2.2.2 hd k) hW hl x K
      | false =>
      rw [hz] at x
      dsimp only [cond_false] at x
      split at x
      next v hv => exact g_push (v := .int v) (fun k => lv_ldc hx hb hown (hts _ (cpI_ok _ _ _ hv)) hd k) hW hl x K
      next =>
        split at x
        next v hv => exact g_push (v := .float v) (fun k => lv_ldcf hx hb hown (hts _ (cpX_ok _ _ _ hv)) hd k) hW hl x K
        next => cases x
    case ldc_w i =>
      obtain ⟨hd, rfl⟩ := dec_of hr rfl
      simp only [pstepI] at x
      split at x
      next v hv => exact g_push (v := .int v) (fun k => lv_ldcw hx hb hown (hts _ (cpI_ok _ _ _ hv)) hd k) hW hl x K
      next =>
        split at x
        next v hv => exact g_push (v := .float v) (fun k => lv_ldcwf hx hb hown (hts _ (cpX_ok _ _ _ hv)) hd k) hW hl x K
        next => cases x
    case ldc2_w i =>
      obtain ⟨hd, rfl⟩ := dec_of hr rfl
      simp only [pstepI] at x
      split at x
      next v hv => exact g_push (v := .long v) (fun k => lv_ldc2 hx hb hown (hts _ (cpL_ok _ _ _ hv)) hd k) hW hl x K
      next =>
        split at x
        next v hv => exact g_push (v := .double v) (fun k => lv_ldc2d hx hb hown (hts _ (cpD_ok _ _ _ hv)) hd k) hW hl x K
        next => cases x
    case iadd =>
      obtain ⟨hd, rfl⟩ := dec_of hr rfl
      exact g_opI (fun _ _ _ k => lv_iadd hx hb hd k) hW hl x K
    case isub =>
      obtain ⟨hd, rfl⟩ := dec_of hr rfl
      exact g_opI (fun _ _ _ k => lv_isub hx hb hd k) hW hl x K
    case imul =>
      obtain ⟨hd, rfl⟩ := dec_of hr rfl
      exact g_opI (fun _ _ _ k => lv_imul hx hb hd k) hW hl x K
    case iand =>
      obtain ⟨hd, rfl⟩ := dec_of hr rfl
      exact g_opI (fun _ _ _ k => lv_iand hx hb hd k) hW hl x K
    case ior =>
      obtain ⟨hd, rfl⟩ := dec_of hr rfl
      exact g_opI (fun _ _ _ k => lv_ior hx hb hd k) hW hl x K
    case ixor =>
      obtain ⟨hd, rfl⟩ := dec_of hr rfl
      exact g_opI (fun _ _ _ k => lv_ixor hx hb hd k) hW hl x K
    case ishl =>
      obtain ⟨hd, rfl⟩ := dec_of hr rfl
      exact g_opI (fun _ _ _ k => lv_ishl hx hb hd k) hW hl x K
    case ishr =>
      obtain ⟨hd, rfl⟩ := dec_of hr rfl
      exact g_opI (fun _ _ _ k => lv_ishr hx hb hd k) hW hl x K
    case iushr =>
      obtain ⟨hd, rfl⟩ := dec_of hr rfl
      exact g_opI (fun _ _ _ k => lv_iushr hx hb hd rfl k) hW hl x K
    case idiv =>
      obtain ⟨hd, rfl⟩ := dec_of hr rfl
      exact g_opDv (fun _ _ _ z k => lv_idiv hx hb hd z k) hW hl x hc K
    case irem =>
      obtain ⟨hd, rfl⟩ := dec_of hr rfl
      exact g_opDv (fun _ _ _ z k => lv_irem hx hb hd z k) hW hl x hc K
    case ladd =>
      obtain ⟨hd, rfl⟩ := dec_of hr rfl
      exact g_opJ (fun _ _ _ k => lv_ladd hx hb hd k) hW hl x K
    case lsub =>
      obtain ⟨hd, rfl⟩ := dec_of hr rfl
      exact g_opJ (fun _ _ _ k => lv_lsub hx hb hd k) hW hl x K
    case lmul =>
      obtain ⟨hd, rfl⟩ := dec_of hr rfl
      exact g_opJ (fun _ _ _ k => lv_lmul hx hb hd k) hW hl x K
    case land =>
      obtain ⟨hd, rfl⟩ := dec_of hr rfl
      exact g_opJ (fun _ _ _ k => lv_land hx hb hd k) hW hl x K
    case lor =>
      obtain ⟨hd, rfl⟩ := dec_of hr rfl
      exact g_opJ (fun _ _ _ k => lv_lor hx hb hd k) hW hl x K
    case lxor =>
      obtain ⟨hd, rfl⟩ := dec_of hr rfl
      exact g_opJ (fun _ _ _ k => lv_lxor hx hb hd k) hW hl x K
    case lshl =>
      obtain ⟨hd, rfl⟩ := dec_of hr rfl
      exact g_opS (fun _ _ _ k => lv_lshl hx hb hd rfl k) hW hl x K
    case lshr =>
      obtain ⟨hd, rfl⟩ := dec_of hr rfl
      exact g_opS (fun _ _ _ k => lv_lshr hx hb hd rfl k) hW hl x K
    case lushr =>
      obtain ⟨hd, rfl⟩ := dec_of hr rfl
      exact g_opS (fun _ _ _ k => lv_lushr hx hb hd rfl k) hW hl x K
    case dmul =>
      obtain ⟨hd, rfl⟩ := dec_of hr rfl
      exact g_opD (fun _ _ _ z k => lv_dmul hx hb hd z k) hW hl x hc K
    case ddiv =>
      obtain ⟨hd, rfl⟩ := dec_of hr rfl
      exact g_opD (fun _ _ _ z k => lv_ddiv hx hb hd z k) hW hl x hc K
    case dsub =>
      obtain ⟨hd, rfl⟩ := dec_of hr rfl
      exact g_opD (fun _ _ _ z k => lv_dsub hx hb hd z k) hW hl x hc K
    case i2l =>
      obtain ⟨hd, rfl⟩ := dec_of hr rfl
      simp only [pstepI] at x
      split at x
      next v r =>
        obtain ⟨rfl, rfl, rfl, rfl, -⟩ := nx_inv x
        exact lv_i2l hx hb hd rfl (K H locs ls hW hl)
      next => cases x
    case l2i =>
      obtain ⟨hd, rfl⟩ := dec_of hr rfl
      simp only [pstepI] at x
      split at x
      next v r =>
        obtain ⟨rfl, rfl, rfl, rfl, -⟩ := nx_inv x
        exact lv_l2i hx hb hd rfl (K H locs ls hW hl)
      next => cases x
    case i2c =>
      obtain ⟨hd, rfl⟩ := dec_of hr rfl
      simp only [pstepI] at x
      split at x
      next v r =>
        obtain ⟨rfl, rfl, rfl, rfl, -⟩ := nx_inv x
        exact lv_i2c hx hb hd rfl (K H locs ls hW hl)
      next => cases x
    case i2b =>
      obtain ⟨hd, rfl⟩ := dec_of hr rfl
      simp only [pstepI] at x
      split at x
      next v r =>
        obtain ⟨rfl, rfl, rfl, rfl, -⟩ := nx_inv x
        exact lv_i2b hx hb hd rfl (K H locs ls hW hl)
      next => cases x
    case i2f =>
      obtain ⟨hd, rfl⟩ := dec_of hr rfl
      simp only [pstepI] at x
      split at x
      next v r =>
        obtain ⟨rfl, rfl, rfl, rfl, -⟩ := nx_inv x
        exact lv_i2f hx hb hd (K H locs ls hW hl)
      next => cases x
    case i2d =>
      obtain ⟨hd, rfl⟩ := dec_of hr rfl
      simp only [pstepI] at x
      split at x
      next v r =>
        obtain ⟨rfl, rfl, rfl, rfl, -⟩ := nx_inv x
        exact lv_i2d hx hb hd (K H locs ls hW hl)
      next => cases x
    case l2d =>
      obtain ⟨hd, rfl⟩ := dec_of hr rfl
      simp only [pstepI] at x
      split at x
      next v r =>
        obtain ⟨rfl, rfl, rfl, rfl, -⟩ := nx_inv x
        exact lv_l2d hx hb hd (K H locs ls hW hl)
      next => cases x
    case d2l =>
      obtain ⟨hd, rfl⟩ := dec_of hr rfl
      simp only [pstepI] at x
      split at x
      next v r =>
        obtain ⟨rfl, rfl, rfl, rfl, -⟩ := nx_inv x
        exact lv_d2l hx hb hd (K H locs ls hW hl)
      next => cases x
    case f2d =>
      obtain ⟨hd, rfl⟩ := dec_of hr rfl
      simp only [pstepI] at x
      split at x
      next v r =>
        obtain ⟨rfl, rfl, rfl, rfl, rfl⟩ := nxc_inv x
        exact lv_f2d hx hb hd hc.1 (K H locs ls hW hl)
      next => cases x
    case fdiv =>
      obtain ⟨hd, rfl⟩ := dec_of hr rfl
      simp only [pstepI] at x
      split at x
      next w v r =>
        obtain ⟨rfl, rfl, rfl, rfl, rfl⟩ := nxc_inv x
        exact lv_fdiv hx hb hd hc.1 (K H locs ls hW hl)
      next => cases x
    case lcmp =>
      obtain ⟨hd, rfl⟩ := dec_of hr rfl
      simp only [pstepI] at x
      split at x
      next w v r =>
        obtain ⟨rfl, rfl, rfl, rfl, -⟩ := nx_inv x
        exact W.lcmp hx hb hd (K H locs ls hW hl)
      next => cases x
    case dcmp op =>
      obtain ⟨hd, rfl⟩ := dec_of hr rfl
      simp only [pstepI] at x
      split at x
      next w v r =>
        obtain ⟨rfl, rfl, rfl, rfl, -⟩ := nx_inv x
        exact lv_dcmp hx hb hd (K H locs ls hW hl)
      next => cases x
    case ifCond cond off =>
      have ht := of_decide_eq_true (tgt_of hr)
      cases cond
      case eq =>
        obtain ⟨hd, rfl⟩ := dec_of hr rfl
        exact g_br1 (fun _ _ a b => lv_if_eq hx hb hd ht (fun z => a (decide_eq_true z)) (fun z => b (decide_eq_false z))) hW hl x K
      case ne =>
        obtain ⟨hd, rfl⟩ := dec_of hr rfl
        exact g_br1 (fun _ _ a b => lv_if_ne hx hb hd ht (fun z => a (decide_eq_true z)) (fun z => b (decide_eq_false (fun y => y z)))) hW hl x K
      case lt =>
        obtain ⟨hd, rfl⟩ := dec_of hr rfl
        exact g_br1 (fun _ _ a b => lv_if_lt hx hb hd ht (fun z => a (decide_eq_true z)) (fun z => b (decide_eq_false z))) hW hl x K
      case ge =>
        obtain ⟨hd, rfl⟩ := dec_of hr rfl
        exact g_br1 (fun _ _ a b => lv_if_ge hx hb hd ht (fun z => a (decide_eq_true z)) (fun z => b (decide_eq_false z))) hW hl x K
      case gt =>
        obtain ⟨hd, rfl⟩ := dec_of hr rfl
        exact g_br1 (fun _ _ a b => lv_if_gt hx hb hd ht (fun z => a (decide_eq_true z)) (fun z => b (decide_eq_false z))) hW hl x K
      case le =>
        obtain ⟨hd, rfl⟩ := dec_of hr rfl
        exact g_br1 (fun _ _ a b => lv_if_le hx hb hd ht (fun z => a (decide_eq_true z)) (fun z => b (decide_eq_false z))) hW hl x K
    case if_icmp cond off =>
      have ht := of_decide_eq_true (tgt_of hr)
      cases cond
      case eq =>
        obtain ⟨hd, rfl⟩ := dec_of hr rfl
        exact g_br2 (fun _ _ _ a b => lv_icmp_eq hx hb hd ht (fun z => a (decide_eq_true z)) (fun z => b (decide_eq_false z))) hW hl x K
      case ne =>
        obtain ⟨hd, rfl⟩ := dec_of hr rfl
        exact g_br2 (fun _ _ _ a b => lv_icmp_ne hx hb hd ht (fun z => a (decide_eq_true z)) (fun z => b (decide_eq_false (fun y => y z)))) hW hl x K
      case lt =>
        obtain ⟨hd, rfl⟩ := dec_of hr rfl
        exact g_br2 (fun _ _ _ a b => lv_icmp_lt hx hb hd ht (fun z => a (decide_eq_true z)) (fun z => b (decide_eq_false z))) hW hl x K
      case ge =>
        obtain ⟨hd, rfl⟩ := dec_of hr rfl
        exact g_br2 (fun _ _ _ a b => lv_icmp_ge hx hb hd ht (fun z => a (decide_eq_true z)) (fun z => b (decide_eq_false z))) hW hl x K
      case gt =>
        obtain ⟨hd, rfl⟩ := dec_of hr rfl
        exact g_br2 (fun _ _ _ a b => lv_icmp_gt hx hb hd ht (fun z => a (decide_eq_true z)) (fun z => b (decide_eq_false z))) hW hl x K
      case le =>
        obtain ⟨hd, rfl⟩ := dec_of hr rfl
        exact g_br2 (fun _ _ _ a b => lv_icmp_le hx hb hd ht (fun z => a (decide_eq_true z)) (fun z => b (decide_eq_false z))) hW hl x K
    case goto off =>
      have ht := of_decide_eq_true (tgt_of hr)
      obtain ⟨hd, rfl⟩ := dec_of hr rfl
      obtain ⟨rfl, rfl, rfl, rfl, -⟩ := nx_inv x
      exact lv_goto hx hb hd ht (K H locs ls hW hl)
    case tableswitch d lo hi offs =>
      exact g_tsw hx hb (of_decide_eq_true (Bool.and_eq_true_iff.mp hr).1) hW hl x hc K
    case iinc i v =>
      obtain ⟨hd, rfl⟩ := dec_of hr rfl
      simp only [pstepI] at x
      split at x
      next y hy =>
        obtain ⟨rfl, rfl, rfl, rfl, -⟩ := nx_inv x
        obtain ⟨k, hk⟩ := List.getElem?_of_mem ((ascL_mem ad pl 0 (i, .int y)).mpr ⟨i, .int y, hy, by rw [Nat.zero_add]; rfl⟩)
        exact lv_iinc hx hb hd hl.lv hk rfl (by rw [← hl.2.2.1]; exact (List.getElem?_eq_some_iff.mp hy).1) rfl (fun ls' hl' => K H locs ls' hW (hl.st1 (x := .int (y + Int32.ofInt v)) hl'))
      next => cases x
    case getfield i =>
      obtain ⟨hd, rfl⟩ := dec_of hr rfl
      simp only [pstepI] at x
      cases hz : Nat.beq (miK q) 11 with
      | true =>
        rw [hz] at x
        have h1 := Nat.eq_of_beq_eq_true hz
        rw [h1] at hown
        exact g_getS hx hb hown (hts _ strW1) (hts _ strW2) hd hS hW hl x K
      | false =>
        rw [hz] at x
        exact g_getF hx hb hts hown (cpF_ok _ _) hd hW hl x K
    case putfield i =>
      obtain ⟨hd, rfl⟩ := dec_of hr rfl
      exact g_putF hx hb hts hown (cpF_ok _ _) hd hW hl x hc K
    case getstatic i =>
      obtain ⟨hd, rfl⟩ := dec_of hr rfl
      simp only [pstepI] at x
      cases hz : Nat.beq (miK q) 4 && Nat.beq i 15 with
      | false =>
        rw [hz] at x
        dsimp only [cond_false] at x
        cases hw : Nat.beq (miK q) 11 && Nat.beq i 38 with
        | false =>
          rw [hw] at x
          cases x
        | true =>
          rw [hw] at x
          obtain ⟨h1, h2⟩ := Bool.and_eq_true_iff.mp hw
          have h1 := Nat.eq_of_beq_eq_true h1
          have h2 := Nat.eq_of_beq_eq_true h2
          subst h2
          rw [h1] at hown
          obtain ⟨rfl, rfl, rfl, rfl, -⟩ := nx_inv x
          exact va_gets hx hb hS.2.2.2.2.1 hW.2.2.2.1 hown (hts _ strW3) (fun y hy => hy) hd (K H locs ls hW hl)
      | true =>
        rw [hz] at x
        obtain ⟨h1, h2⟩ := Bool.and_eq_true_iff.mp hz
        have h1 := Nat.eq_of_beq_eq_true h1
        have h2 := Nat.eq_of_beq_eq_true h2
        subst h2
        rw [h1] at hown
        obtain ⟨rfl, rfl, rfl, rfl, -⟩ := nx_inv x
        exact va_gets hx hb hS.1 hW.2.2.2.1 hown (hts _ ordW) (fun y hy => hy) hd (K H locs ls hW hl)
    case iaload =>
      obtain ⟨hd, rfl⟩ := dec_of hr rfl
      exact g_aldI hx hb hd hX hW hl x hc K
    case iastore =>
      obtain ⟨hd, rfl⟩ := dec_of hr rfl
      exact g_astI hx hb hd hW hl x hc K
    case baload =>
      obtain ⟨hd, rfl⟩ := dec_of hr rfl
      exact g_aldB hx hb hd hS hW hl x hc K
    case laload =>
      obtain ⟨hd, rfl⟩ := dec_of hr rfl
      exact g_aldJ hx hb hd hS hW hl x hc K
    case lastore =>
      obtain ⟨hd, rfl⟩ := dec_of hr rfl
      exact g_astJ hx hb hd hW hl x hc K
    case aaload =>
      obtain ⟨hd, rfl⟩ := dec_of hr rfl
      exact g_aldA hx hb hd hW hl x hc K
    case aastore =>
      obtain ⟨hd, rfl⟩ := dec_of hr rfl
      exact g_astA hx hb hd hW hl x hc K
    case arraylength =>
      obtain ⟨hd, rfl⟩ := dec_of hr rfl
      exact g_alen hx hb hd hS hX hW hl x K
    case dup =>
      obtain ⟨hd, rfl⟩ := dec_of hr rfl
      simp only [pstepI] at x
      split at x
      next v r =>
        cases hz : Nat.beq v.category 1 with
        | false =>
          rw [hz] at x
          cases x
        | true =>
          rw [hz] at x
          obtain ⟨rfl, rfl, rfl, rfl, -⟩ := nx_inv x
          exact lv_dup hx hb hd (by rw [trV_cat]; exact Nat.eq_of_beq_eq_true hz) (K H locs ls hW hl)
      next => cases x
    case dup2 =>
      obtain ⟨hd, rfl⟩ := dec_of hr rfl
      simp only [pstepI] at x
      split at x
      next v w r =>
        cases hz : Nat.beq v.category 1 && Nat.beq w.category 1 with
        | false =>
          rw [hz] at x
          cases x
        | true =>
          rw [hz] at x
          obtain ⟨h1, h2⟩ := Bool.and_eq_true_iff.mp hz
          obtain ⟨rfl, rfl, rfl, rfl, -⟩ := nx_inv x
          exact lv_dup2_11 hx hb hd (by rw [trV_cat]; exact Nat.eq_of_beq_eq_true h1) (by rw [trV_cat]; exact Nat.eq_of_beq_eq_true h2) (K H locs ls hW hl)
      next => cases x
    case pop =>
      obtain ⟨hd, rfl⟩ := dec_of hr rfl
      simp only [pstepI] at x
      split at x
      next v r =>
        cases hz : Nat.beq v.category 1 with
        | false =>
          rw [hz] at x
          cases x
        | true =>
          rw [hz] at x
          obtain ⟨rfl, rfl, rfl, rfl, -⟩ := nx_inv x
          exact lv_pop hx hb hd (by rw [trV_cat]; exact Nat.eq_of_beq_eq_true hz) (K H locs ls hW hl)
      next => cases x
    case invokestatic i =>
      obtain ⟨hd, rfl⟩ := dec_of hr rfl
      simp only [pstepI] at x
      cases hz : Nat.beq (miK q) 3 && Nat.beq i 15 with
      | false =>
        rw [hz] at x
        dsimp only [cond_false] at x
        cases hw : Nat.beq (miK q) 12 && Nat.beq i 92 with
        | true =>
          rw [hw] at x
          obtain ⟨h1, h2⟩ := Bool.and_eq_true_iff.mp hw
          have h1 := Nat.eq_of_beq_eq_true h1
          have h2 := Nat.eq_of_beq_eq_true h2
          subst h2
          rw [h1] at hown
          exact g_opM hW hl x hc K (fun v w r hr9 k => va_mmax hx hb (hml.trans hl.1.symm) hown (hts _ mathW1) (hts _ mathW2) (hts _ mathW3) (hts _ mathW4) (Nat.le_trans (by decide) hR.1) (by omega) hR.2.2.1 hR.2.2.2 hd k)
        | false =>
          rw [hw] at x
          dsimp only [cond_false] at x
          cases hv : Nat.beq (miK q) 12 && Nat.beq i 38 with
          | true =>
            rw [hv] at x
            obtain ⟨h1, h2⟩ := Bool.and_eq_true_iff.mp hv
            have h1 := Nat.eq_of_beq_eq_true h1
            have h2 := Nat.eq_of_beq_eq_true h2
            subst h2
            rw [h1] at hown
            exact g_opM hW hl x hc K (fun v w r hr9 k => va_mmin hx hb (hml.trans hl.1.symm) hown (hts _ mathW5) (hts _ mathW6) (hts _ mathW3) (hts _ mathW7) (Nat.le_trans (by decide) hR.1) (by omega) hR.2.2.1 hR.2.2.2 hd k)
          | false =>
            rw [hv] at x
            dsimp only [cond_false] at x
            split at x
            next y hy => exact absurd x (callO_no _ _ _ _ _)
            next => cases x
      | true =>
        rw [hz] at x
        obtain ⟨h1, h2⟩ := Bool.and_eq_true_iff.mp hz
        have h1 := Nat.eq_of_beq_eq_true h1
        have h2 := Nat.eq_of_beq_eq_true h2
        subst h2
        rw [h1] at hown
        exact g_extCopy hx hb (hml.trans hl.1.symm) hown hts ⟨hR.1, hR.2.1⟩ hd hW hl x hc K
    case invokevirtual i =>
      obtain ⟨hd, rfl⟩ := dec_of hr rfl
      simp only [pstepI] at x
      split at x
      next y hy => exact absurd x (callO_no _ _ _ _ _)
      next => cases x
    case ireturn =>
      simp only [pstepI] at x
      split at x
      next v =>
        split at x
        · cases x
        · cases x
        · cases x
        · cases x
      next => cases x
    case lreturn =>
      simp only [pstepI] at x
      split at x
      · split at x
        · cases x
        · cases x
      · cases x
    case freturn =>
      simp only [pstepI] at x
      split at x
      · split at x
        · cases x
        · cases x
      · cases x
    case dreturn =>
      simp only [pstepI] at x
      split at x
      · split at x
        · cases x
        · cases x
      · cases x
    case return_ =>
      simp only [pstepI] at x
      split at x
      · split at x
        · cases x
        · cases x
      · cases x
    case new i =>
      simp only [pstepI] at x
      split at x
      · split at x
        · cases x
        · cases x
      · cases x
    all_goals (exact absurd x (by simp [pstepI]))
end SimP
