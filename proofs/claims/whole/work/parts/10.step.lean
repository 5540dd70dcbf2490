/-! ONE INSTRUCTION of the pure machine, and its runs -/
noncomputable def pstepI (lw : Bool) (rt : Option FieldType) (k : Nat) (pc n g : Nat) (pl : PL) (st : List Value) (h : PH) : Instr → PO
  | .iload i => ldI n i pl st h
  | .iload_n i => ldI n i.val pl st h
  | .lload i => ldJ n i pl st h
  | .lload_n i => ldJ n i.val pl st h
  | .dload i => ldD n i pl st h
  | .dload_n i => ldD n i.val pl st h
  | .aload i => ldA n i pl st h
  | .aload_n i => ldA n i.val pl st h
  | .istore i => stI n i pl st h
  | .istore_n i => stI n i.val pl st h
  | .lstore i => stJ n i pl st h
  | .lstore_n i => stJ n i.val pl st h
  | .dstore i => stD n i pl st h
  | .dstore_n i => stD n i.val pl st h
  | .astore i => stA n i pl st h
  | .astore_n i => stA n i.val pl st h
  | .iconst v => nx n pl (.int (Int32.ofInt v) :: st) h
  | .bipush v => nx n pl (.int (Int8.ofInt v).toInt32 :: st) h
  | .sipush v => nx n pl (.int (Int16.ofInt v).toInt32 :: st) h
  | .lconst v => nx n pl (.long (Int64.ofNat v.val) :: st) h
  | .dconst v => (match v with
    | 0 => nx n pl (.double 0 :: st) h
    | 1 => nx n pl (.double 4607182418800017408 :: st) h)
  | .ldc i => bif Nat.beq k 5 && Nat.beq i 56 then nx n pl (.ref 1002 :: st) h else (match cpI k i with
    | some v => nx n pl (.int v :: st) h
    | none => (match cpX k i with
      | some v => nx n pl (.float v :: st) h
      | none => none))
  | .ldc_w i => (match cpI k i with
    | some v => nx n pl (.int v :: st) h
    | none => (match cpX k i with
      | some v => nx n pl (.float v :: st) h
      | none => none))
  | .ldc2_w i => (match cpL k i with
    | some v => nx n pl (.long v :: st) h
    | none => (match cpD k i with
      | some v => nx n pl (.double v :: st) h
      | none => none))
  | .iadd => opI (fun x y => x + y) n pl st h
  | .isub => opI (fun x y => x - y) n pl st h
  | .imul => opI (fun x y => x * y) n pl st h
  | .idiv => opDv (fun x y => x / y) n pl st h
  | .irem => opDv (fun x y => x - x / y * y) n pl st h
  | .iand => opI (fun x y => x &&& y) n pl st h
  | .ior => opI (fun x y => x ||| y) n pl st h
  | .ixor => opI (fun x y => x ^^^ y) n pl st h
  | .ishl => opI (fun x y => x <<< (y &&& 31)) n pl st h
  | .ishr => opI (fun x y => x >>> (y &&& 31)) n pl st h
  | .iushr => opI (fun x y => (x.toUInt32 >>> (y.toUInt32 &&& Int32.toUInt32 31)).toInt32) n pl st h
  | .ladd => opJ (fun x y => x + y) n pl st h
  | .lsub => opJ (fun x y => x - y) n pl st h
  | .lmul => opJ (fun x y => x * y) n pl st h
  | .land => opJ (fun x y => x &&& y) n pl st h
  | .lor => opJ (fun x y => x ||| y) n pl st h
  | .lxor => opJ (fun x y => x ^^^ y) n pl st h
  | .lshl => opS (fun x y => x <<< (y.toInt64 &&& 63)) n pl st h
  | .lshr => opS (fun x y => x >>> (y.toInt64 &&& 63)) n pl st h
  | .lushr => opS (fun x y => (x.toUInt64 >>> (y.toInt64.toUInt64 &&& Int64.toUInt64 63)).toInt64) n pl st h
  | .i2l => (match st with
    | .int x :: r => nx n pl (.long x.toInt64 :: r) h
    | _ => none)
  | .l2i => (match st with
    | .long x :: r => nx n pl (.int x.toInt32 :: r) h
    | _ => none)
  | .i2c => (match st with
    | .int x :: r => nx n pl (.int (x.toUInt32 % 65536).toInt32 :: r) h
    | _ => none)
  | .i2b => (match st with
    | .int x :: r => nx n pl (.int x.toInt8.toInt32 :: r) h
    | _ => none)
  | .i2f => (match st with
    | .int x :: r => nx n pl (.float (FP.i2f x) :: r) h
    | _ => none)
  | .i2d => (match st with
    | .int x :: r => nx n pl (.double (FP.i2d x) :: r) h
    | _ => none)
  | .l2d => (match st with
    | .long x :: r => nx n pl (.double (FP.l2d x) :: r) h
    | _ => none)
  | .d2l => (match st with
    | .double x :: r => nx n pl (.long (FP.d2l x) :: r) h
    | _ => none)
  | .f2d => (match st with
    | .float x :: r => nxc (vf_n64 (FP.f2d x)) n pl (.double (FP.f2d x) :: r) h
    | _ => none)
  | .dmul => opD FP.dmul n pl st h
  | .ddiv => opD FP.ddiv n pl st h
  | .dsub => opD FP.dsub n pl st h
  | .fdiv => (match st with
    | .float y :: .float x :: r => nxc (vf_n32 (FP.fdiv x y)) n pl (.float (FP.fdiv x y) :: r) h
    | _ => none)
  | .lcmp => (match st with
    | .long y :: .long x :: r => nx n pl (.int (lg_cmp x y) :: r) h
    | _ => none)
  | .dcmp op => (match st with
    | .double y :: .double x :: r => nx n pl (.int (Op.cmpValue (FP.dcmp x y) op) :: r) h
    | _ => none)
  | .ifCond .eq _ => br1 (fun x => decide (x = 0)) n g pl st h
  | .ifCond .ne _ => br1 (fun x => decide (¬ x = 0)) n g pl st h
  | .ifCond .lt _ => br1 (fun x => decide (x < 0)) n g pl st h
  | .ifCond .ge _ => br1 (fun x => decide (0 ≤ x)) n g pl st h
  | .ifCond .gt _ => br1 (fun x => decide (0 < x)) n g pl st h
  | .ifCond .le _ => br1 (fun x => decide (x ≤ 0)) n g pl st h
  | .if_icmp .eq _ => br2 (fun x y => decide (x = y)) n g pl st h
  | .if_icmp .ne _ => br2 (fun x y => decide (¬ x = y)) n g pl st h
  | .if_icmp .lt _ => br2 (fun x y => decide (x < y)) n g pl st h
  | .if_icmp .ge _ => br2 (fun x y => decide (y ≤ x)) n g pl st h
  | .if_icmp .gt _ => br2 (fun x y => decide (y < x)) n g pl st h
  | .if_icmp .le _ => br2 (fun x y => decide (x ≤ y)) n g pl st h
  | .goto _ => nx g pl st h
  | .tableswitch d lo hi offs => tsw d lo hi offs pc pl st h
  | .iinc i v => (match pl[i]? with
    | some (some (.int x)) => nx n (setL pl i (some (.int (x + Int32.ofInt v)))) st h
    | _ => none)
  | .getfield i => bif Nat.beq k 11 then getS i n pl st h else getF (cpF k i) n pl st h
  | .putfield i => putF (cpF k i) n pl st h
  | .getstatic i => bif Nat.beq k 4 && Nat.beq i 15 then nx n pl (.ref 1001 :: st) h else (bif Nat.beq k 11 && Nat.beq i 38 then nx n pl (.int 1 :: st) h else none)
  | .iaload => aldI lw n pl st h
  | .iastore => astI n pl st h
  | .baload => aldB n pl st h
  | .laload => aldJ n pl st h
  | .lastore => astJ n pl st h
  | .aaload => aldA n pl st h
  | .aastore => astA n pl st h
  | .arraylength => alen lw n pl st h
  | .dup => (match st with
    | v :: r => bif Nat.beq v.category 1 then nx n pl (v :: v :: r) h else none
    | _ => none)
  | .dup2 => (match st with
    | v :: w :: r => bif Nat.beq v.category 1 && Nat.beq w.category 1 then nx n pl (v :: w :: v :: w :: r) h else none
    | _ => none)
  | .pop => (match st with
    | v :: r => bif Nat.beq v.category 1 then nx n pl r h else none
    | _ => none)
  | .ireturn => (match st with
    | [.int x] => (match rt with
      | some .int => some ([], .inr (.inl (some (.int x))))
      | some .boolean => some ([x = 0 ∨ x = 1], .inr (.inl (some (.int x))))
      | some .byte => some ([x = 0], .inr (.inl (some (.int x))))
      | _ => none)
    | _ => none)
  | .lreturn => (match st with
    | [.long x] => (match rt with
      | some .long => some ([], .inr (.inl (some (.long x))))
      | _ => none)
    | _ => none)
  | .freturn => (match st with
    | [.float x] => (match rt with
      | some .float => some ([], .inr (.inl (some (.float x))))
      | _ => none)
    | _ => none)
  | .dreturn => (match st with
    | [.double x] => (match rt with
      | some .double => some ([], .inr (.inl (some (.double x))))
      | _ => none)
    | _ => none)
  | .return_ => (match st with
    | [] => (match rt with
      | none => some ([], .inr (.inl none))
      | _ => none)
    | _ => none)
  | .new i => (match st with
    | [] => (match cpT k i with
      | some e => some ([], .inr (.inr (.inl e)))
      | none => none)
    | _ => none)
  | .invokestatic i => bif Nat.beq k 3 && Nat.beq i 15 then extCopy n pl st h else bif Nat.beq k 12 && Nat.beq i 92 then opM true n pl st h else bif Nat.beq k 12 && Nat.beq i 38 then opM false n pl st h else (match cpM k i with
    | some q => callO q true n st h
    | none => none)
  | .invokevirtual i => (match cpM k i with
    | some q => callO q false n st h
    | none => none)
  | _ => none
noncomputable def pstep (q : MI) (pc : Nat) (pl : PL) (st : List Value) (h : PH) : PO := match codeAt q pc with
  | some (i, n, g) => pstepI ((miN q).name == "law") (miR q) (miK q) pc n g pl st h i
  | none => none
noncomputable def psteps : Nat → MI → Nat → PL → List Value → PH → Option (List Prop × Nat × PL × List Value × PH)
  | 0, _, pc, pl, st, h => some ([], pc, pl, st, h)
  | m + 1, q, pc, pl, st, h => match pstep q pc pl st h with
    | some (cs, .inl (pc', pl', st', h')) => (match psteps m q pc' pl' st' h' with
      | some (cs', r) => some (cs ++ cs', r)
      | none => none)
    | _ => none
def hndF (pc : Nat) (e : String) : List (Nat × Nat × String × Nat × Nat) → Option (Nat × Nat)
  | [] => none
  | (a, b, n, ph, i) :: t => if a ≤ pc ∧ pc < b ∧ n = e then some (ph, i) else hndF pc e t
abbrev PRes : Type := Option ((Option Value ⊕ String) × PH × Nat)
def addK (k : Nat) : PRes → PRes
  | some (o, h, j) => some (o, h, k + j)
  | none => none
noncomputable def prun : Nat → Nat → MI → Nat → PL → List Value → PH → PRes
  | 0, _, _, _, _, _, _ => none
  | n + 1, d, q, pc, pl, st, h => match pstep q pc pl st h with
    | none => none
    | some (cs, r) => @ite _ (allP cs) (Classical.propDecidable _) (match r with
      | .inl (pc', pl', st', h') => prun n d q pc' pl' st' h'
      | .inr (.inl v) => some (.inl v, h, 0)
      | .inr (.inr (.inl e)) => some (.inr e, h, 1)
      | .inr (.inr (.inr (y, as, pc', rest))) => (match d with
        | 0 => none
        | d + 1 => (match prun n d y 0 (entP y as) [] h with
          | none => none
          | some (.inl v, h1, k1) => addK k1 (prun n (d + 1) q pc' pl (v.toList ++ rest) h1)
          | some (.inr e, h1, k1) => bif (miH y).isEmpty then (match hndF pc e (miH q) with
            | none => some (.inr e, h1, k1)
            | some (ph, i) => addK k1 (prun n (d + 1) q ph (setL pl i none) [] h1)) else none))) none
