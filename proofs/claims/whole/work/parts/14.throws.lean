/-! THE THROWS: by program (gen_throws.py), and their row -/
def exN : List String := ["java/lang/RuntimeException", "java/lang/Exception"]
def txW : List (Nat × String) := [(343, "no such item"), (347, "the same item twice"), (351, "there are 12 clues"), (345, "no such place"), (349, "no such clue"), (97, "crossed out already"), (113, "not crossed out"), (131, "a contradiction"), (137, "no such character"), (143, "the buffer is full"), (157, "not a complete text"), (173, "no snapshot"), (178, "no saved state"), (191, "no such part"), (262, "no such rank")]
def ncW : List Cond := [Cond.declares ⟨"java/lang/RuntimeException", "<init>", "()V"⟩, Cond.declares ⟨"java/lang/RuntimeException", "<init>", "(Ljava/lang/String;)V"⟩, Cond.declares ⟨"java/lang/Exception", "<init>", "()V"⟩, Cond.declares ⟨"java/lang/Exception", "<init>", "(Ljava/lang/String;)V"⟩, Cond.declares ⟨"java/lang/Throwable", "<init>", "()V"⟩, Cond.declares ⟨"java/lang/Throwable", "<init>", "(Ljava/lang/String;)V"⟩, Cond.castable "java/lang/IndexOutOfBoundsException" "java/lang/IndexOutOfBoundsException", Cond.castable "java/lang/IllegalArgumentException" "java/lang/IllegalArgumentException", Cond.castable "java/lang/IllegalStateException" "java/lang/IllegalStateException"]
def exP : List (String × String) := [("java/lang/IndexOutOfBoundsException", "java/lang/IllegalArgumentException"), ("java/lang/IndexOutOfBoundsException", "java/lang/IllegalStateException"), ("java/lang/IllegalArgumentException", "java/lang/IndexOutOfBoundsException"), ("java/lang/IllegalArgumentException", "java/lang/IllegalStateException"), ("java/lang/IllegalStateException", "java/lang/IndexOutOfBoundsException"), ("java/lang/IllegalStateException", "java/lang/IllegalArgumentException")]
theorem ncW_warm {s U : State} (hW : s.WarmedH U.vm) (h : ∀ w ∈ ncW, w.before #[] s = true) : ∀ w ∈ ncW, w.before #[] U = true := by
  have D : ∀ x : MethodName, Cond.declares x ∈ ncW → (Cond.declares x).before #[] U = true := fun x hx => va_Nw.warmD hW (h _ hx)
  have E : ∀ a b : String, Cond.castable a b ∈ ncW → (Cond.castable a b).before #[] U = true := fun a b hx => va_Nw.warmC hW (h _ hx)
  intro w hw
  have hw2 := hw
  simp only [ncW, List.mem_cons, List.not_mem_nil, or_false] at hw2
  rcases hw2 with rfl | rfl | rfl | rfl | rfl | rfl | rfl | rfl | rfl
  · exact D _ hw
  · exact D _ hw
  · exact D _ hw
  · exact D _ hw
  · exact D _ hw
  · exact D _ hw
  · exact E _ _ hw
  · exact E _ _ hw
  · exact E _ _ hw
theorem ncW_on : ∀ w ∈ ncW, w.onTables = true := by decide +kernel
/-- what a throw needs of the start beside the words: classes' relations, the texts -/
def TRel (ad : Nat → Nat) (U : State) : Prop := (∀ w ∈ ncW, w.before #[] U = true) ∧ (∀ y ∈ txW, ∃ sa, vk_R RX6 y.1 y.2 sa U) ∧ (∀ y ∈ exP, va_Nc y.1 y.2 U) ∧ vk_R RX5 56 "=#<~@!|" (ad 1002) U
theorem TRel.warm {ad : Nat → Nat} {s U : State} (hW : s.WarmedH U.vm) (h : TRel ad s) : TRel ad U := ⟨ncW_warm hW h.1, fun y hy => by
  obtain ⟨sa, ha⟩ := h.2.1 y hy
  exact ⟨sa, ha.warm hW⟩, fun y hy => (h.2.2.1 y hy).moved hW.alike, h.2.2.2.warm hW⟩
theorem TRel.same {ad : Nat → Nat} {u U : State} (hv : U.vm = u.vm) (h : TRel ad u) : TRel ad U := ⟨fun w hw => va_tabs (ncW_on w hw) hv.symm (h.1 w hw), fun y hy => by
  obtain ⟨sa, ha⟩ := h.2.1 y hy
  exact ⟨sa, ha.same hv⟩, fun y hy => (h.2.2.1 y hy).moved (by rw [hv]; exact Vm.Alike.refl u.vm), h.2.2.2.same hv⟩
def AtS (ic : Nat) (cls : String) : Prop := Bundle.fit cls = true ∧ (∀ n ∈ exN, Bundle.fit n = true) ∧ (∀ w ∈ (vx_atS RX6 ic cls exN).filter goodWord, w ∈ WORDS) ∧ (∀ w ∈ (vx_atS RX6 ic cls exN).filter (fun w => !goodWord w), w ∈ ncW) ∧ ∀ w ∈ vx_atS RX6 ic cls exN, vx_ot w = true
def TSite (q : MI) (pc : Nat) (cls : String) : Prop := miK q = 6 ∧ ∃ (ik is ic : Nat) (tx : String), Cond.classLink RX6 ik cls ∈ WORDS ∧ Cond.initialized cls ∈ WORDS ∧ (is, tx) ∈ txW ∧ AtS ic cls ∧ decode (miB q) pc = .ok (.new ik, 3) ∧ decode (miB q) (pc + 3) = .ok (.dup, 1) ∧
  ((decode (miB q) (pc + 4) = .ok (.ldc is, 2) ∧ decode (miB q) (pc + 6) = .ok (.invokespecial ic, 3) ∧ decode (miB q) (pc + 9) = .ok (.athrow, 1)) ∨ (decode (miB q) (pc + 4) = .ok (.ldc_w is, 3) ∧ decode (miB q) (pc + 7) = .ok (.invokespecial ic, 3) ∧ decode (miB q) (pc + 10) = .ok (.athrow, 1)))
def TOK (q : MI) : Prop := ∀ (pc i n g : Nat) (cls : String), codeAt q pc = some (.new i, n, g) → cpT (miK q) i = some cls → TSite q pc cls
def newsIn (L : List (Nat × Nat)) (q : MI) : Bool := (miT q).all (fun r => r.all (fun y => match y.2.1 with
  | .new i => decide ((y.1, i) ∈ L)
  | _ => true))
theorem TOK_of {q : MI} (L : List (Nat × Nat)) (h : newsIn L q = true) (hs : ∀ y ∈ L, ∀ cls, cpT (miK q) y.2 = some cls → TSite q y.1 cls) : TOK q := by
  intro pc i n g cls hc ht
  obtain ⟨r, hr, hm⟩ := fnd2_mem hc
  have h1 := List.all_eq_true.mp (List.all_eq_true.mp h r (List.mem_of_getElem? hr)) _ hm
  exact hs (pc, i) (of_decide_eq_true h1) cls ht
theorem TOK_no {q : MI} (h : newsIn [] q = true) : TOK q := TOK_of [] h (fun _ hy => absurd hy List.not_mem_nil)
theorem at_193 : AtS 193 "java/lang/IndexOutOfBoundsException" := ⟨by decide +kernel, by decide +kernel, by decide +kernel, by decide +kernel, by decide +kernel⟩
theorem at_139 : AtS 139 "java/lang/IllegalArgumentException" := ⟨by decide +kernel, by decide +kernel, by decide +kernel, by decide +kernel, by decide +kernel⟩
theorem at_99 : AtS 99 "java/lang/IllegalStateException" := ⟨by decide +kernel, by decide +kernel, by decide +kernel, by decide +kernel, by decide +kernel⟩
theorem tsX6_requireItem_10 : TSite mX6_requireItem 10 "java/lang/IndexOutOfBoundsException" := ⟨rfl, 189, 343, 193, "no such item", wm 596 (by decide +kernel) rfl, wm 67 (by decide +kernel) rfl, by decide +kernel, at_193, by decide +kernel, by decide +kernel, Or.inr ⟨by decide +kernel, by decide +kernel, by decide +kernel⟩⟩
theorem tsX6_requireUnlike_5 : TSite mX6_requireUnlike 5 "java/lang/IllegalArgumentException" := ⟨rfl, 135, 347, 139, "the same item twice", wm 746 (by decide +kernel) rfl, wm 68 (by decide +kernel) rfl, by decide +kernel, at_139, by decide +kernel, by decide +kernel, Or.inr ⟨by decide +kernel, by decide +kernel, by decide +kernel⟩⟩
theorem tsX6_addClue_12 : TSite mX6_addClue 12 "java/lang/IllegalStateException" := ⟨rfl, 95, 351, 99, "there are 12 clues", wm 769 (by decide +kernel) rfl, wm 70 (by decide +kernel) rfl, by decide +kernel, at_99, by decide +kernel, by decide +kernel, Or.inr ⟨by decide +kernel, by decide +kernel, by decide +kernel⟩⟩
theorem tsX6_requirePlace_9 : TSite mX6_requirePlace 9 "java/lang/IndexOutOfBoundsException" := ⟨rfl, 189, 345, 193, "no such place", wm 596 (by decide +kernel) rfl, wm 67 (by decide +kernel) rfl, by decide +kernel, at_193, by decide +kernel, by decide +kernel, Or.inr ⟨by decide +kernel, by decide +kernel, by decide +kernel⟩⟩
theorem tsX6_requireClue_15 : TSite mX6_requireClue 15 "java/lang/IndexOutOfBoundsException" := ⟨rfl, 189, 349, 193, "no such clue", wm 596 (by decide +kernel) rfl, wm 67 (by decide +kernel) rfl, by decide +kernel, at_193, by decide +kernel, by decide +kernel, Or.inr ⟨by decide +kernel, by decide +kernel, by decide +kernel⟩⟩
theorem tsX6_cross_23 : TSite mX6_cross 23 "java/lang/IllegalStateException" := ⟨rfl, 95, 97, 99, "crossed out already", wm 769 (by decide +kernel) rfl, wm 70 (by decide +kernel) rfl, by decide +kernel, at_99, by decide +kernel, by decide +kernel, Or.inl ⟨by decide +kernel, by decide +kernel, by decide +kernel⟩⟩
theorem tsX6_rubOut_23 : TSite mX6_rubOut 23 "java/lang/IllegalStateException" := ⟨rfl, 95, 113, 99, "not crossed out", wm 769 (by decide +kernel) rfl, wm 70 (by decide +kernel) rfl, by decide +kernel, at_99, by decide +kernel, by decide +kernel, Or.inl ⟨by decide +kernel, by decide +kernel, by decide +kernel⟩⟩
theorem tsX6_settle_24 : TSite mX6_settle 24 "java/lang/IllegalStateException" := ⟨rfl, 95, 131, 99, "a contradiction", wm 769 (by decide +kernel) rfl, wm 70 (by decide +kernel) rfl, by decide +kernel, at_99, by decide +kernel, by decide +kernel, Or.inl ⟨by decide +kernel, by decide +kernel, by decide +kernel⟩⟩
theorem tsX6_append_12 : TSite mX6_append 12 "java/lang/IllegalArgumentException" := ⟨rfl, 135, 137, 139, "no such character", wm 746 (by decide +kernel) rfl, wm 68 (by decide +kernel) rfl, by decide +kernel, at_139, by decide +kernel, by decide +kernel, Or.inl ⟨by decide +kernel, by decide +kernel, by decide +kernel⟩⟩
theorem tsX6_append_34 : TSite mX6_append 34 "java/lang/IllegalStateException" := ⟨rfl, 95, 143, 99, "the buffer is full", wm 769 (by decide +kernel) rfl, wm 70 (by decide +kernel) rfl, by decide +kernel, at_99, by decide +kernel, by decide +kernel, Or.inl ⟨by decide +kernel, by decide +kernel, by decide +kernel⟩⟩
theorem tsX6_take_10 : TSite mX6_take 10 "java/lang/IllegalArgumentException" := ⟨rfl, 135, 157, 139, "not a complete text", wm 746 (by decide +kernel) rfl, wm 68 (by decide +kernel) rfl, by decide +kernel, at_139, by decide +kernel, by decide +kernel, Or.inl ⟨by decide +kernel, by decide +kernel, by decide +kernel⟩⟩
theorem tsX6_goBack_7 : TSite mX6_goBack 7 "java/lang/IllegalStateException" := ⟨rfl, 95, 173, 99, "no snapshot", wm 769 (by decide +kernel) rfl, wm 70 (by decide +kernel) rfl, by decide +kernel, at_99, by decide +kernel, by decide +kernel, Or.inl ⟨by decide +kernel, by decide +kernel, by decide +kernel⟩⟩
theorem tsX6_undo_7 : TSite mX6_undo 7 "java/lang/IllegalStateException" := ⟨rfl, 95, 178, 99, "no saved state", wm 769 (by decide +kernel) rfl, wm 70 (by decide +kernel) rfl, by decide +kernel, at_99, by decide +kernel, by decide +kernel, Or.inl ⟨by decide +kernel, by decide +kernel, by decide +kernel⟩⟩
theorem tsX6_itemOf_14 : TSite mX6_itemOf 14 "java/lang/IndexOutOfBoundsException" := ⟨rfl, 189, 191, 193, "no such part", wm 596 (by decide +kernel) rfl, wm 67 (by decide +kernel) rfl, by decide +kernel, at_193, by decide +kernel, by decide +kernel, Or.inl ⟨by decide +kernel, by decide +kernel, by decide +kernel⟩⟩
theorem tsX6_placeIn_4 : TSite mX6_placeIn 4 "java/lang/IndexOutOfBoundsException" := ⟨rfl, 189, 262, 193, "no such rank", wm 596 (by decide +kernel) rfl, wm 67 (by decide +kernel) rfl, by decide +kernel, at_193, by decide +kernel, by decide +kernel, Or.inr ⟨by decide +kernel, by decide +kernel, by decide +kernel⟩⟩
theorem toX0_of : TOK mX0_of := TOK_no (by decide +kernel)
theorem toX0_ruledOut : TOK mX0_ruledOut := TOK_no (by decide +kernel)
theorem toX0_item : TOK mX0_item := TOK_no (by decide +kernel)
theorem toX0_choices : TOK mX0_choices := TOK_no (by decide +kernel)
theorem toX0_sort : TOK mX0_sort := TOK_no (by decide +kernel)
theorem toX0_elsewhere : TOK mX0_elsewhere := TOK_no (by decide +kernel)
theorem toX0_place : TOK mX0_place := TOK_no (by decide +kernel)
theorem toX0_eitherChoices : TOK mX0_eitherChoices := TOK_no (by decide +kernel)
theorem toX0_holds : TOK mX0_holds := TOK_no (by decide +kernel)
theorem toX1_has : TOK mX1_has := TOK_no (by decide +kernel)
theorem toX1_spot : TOK mX1_spot := TOK_no (by decide +kernel)
theorem toX1_placesOf : TOK mX1_placesOf := TOK_no (by decide +kernel)
theorem toX1_takenByAnother : TOK mX1_takenByAnother := TOK_no (by decide +kernel)
theorem toX1_itemsWithOne : TOK mX1_itemsWithOne := TOK_no (by decide +kernel)
theorem toX1_itemsWithSome : TOK mX1_itemsWithSome := TOK_no (by decide +kernel)
theorem toX1_itemsWithMore : TOK mX1_itemsWithMore := TOK_no (by decide +kernel)
theorem toX1_ofOthers : TOK mX1_ofOthers := TOK_no (by decide +kernel)
theorem toX1_neededElsewhere : TOK mX1_neededElsewhere := TOK_no (by decide +kernel)
theorem toX1_isContradictory : TOK mX1_isContradictory := TOK_no (by decide +kernel)
theorem toX1_onlyPlaceOf : TOK mX1_onlyPlaceOf := TOK_no (by decide +kernel)
theorem toX1_countWithOne : TOK mX1_countWithOne := TOK_no (by decide +kernel)
theorem toX1_leastBit : TOK mX1_leastBit := TOK_no (by decide +kernel)
theorem toX1_hasBit : TOK mX1_hasBit := TOK_no (by decide +kernel)
theorem toX1_firstWithMore : TOK mX1_firstWithMore := TOK_no (by decide +kernel)
theorem toX1_withOnly : TOK mX1_withOnly := TOK_no (by decide +kernel)
theorem toX2_run : TOK mX2_run := TOK_no (by decide +kernel)
theorem toX2_leftAtFirst : TOK mX2_leftAtFirst := TOK_no (by decide +kernel)
theorem toX2_ruledOut : TOK mX2_ruledOut := TOK_no (by decide +kernel)
theorem toX2_byTurns : TOK mX2_byTurns := TOK_no (by decide +kernel)
theorem toX3_copyFrom : TOK mX3_copyFrom := TOK_no (by decide +kernel)
theorem toX3_addClue : TOK mX3_addClue := TOK_no (by decide +kernel)
theorem toX3_dropClue : TOK mX3_dropClue := TOK_no (by decide +kernel)
theorem toX3_makeCrosses : TOK mX3_makeCrosses := TOK_no (by decide +kernel)
theorem toX3_crossesOf : TOK mX3_crossesOf := TOK_no (by decide +kernel)
theorem toX3_rubCrosses : TOK mX3_rubCrosses := TOK_no (by decide +kernel)
theorem toX3_allows : TOK mX3_allows := TOK_no (by decide +kernel)
theorem toX4_lookAt : TOK mX4_lookAt := TOK_no (by decide +kernel)
theorem toX4_arrangement : TOK mX4_arrangement := TOK_no (by decide +kernel)
theorem toX4_count : TOK mX4_count := TOK_no (by decide +kernel)
theorem toX5_errorIndex : TOK mX5_errorIndex := TOK_no (by decide +kernel)
theorem toX5_fits : TOK mX5_fits := TOK_no (by decide +kernel)
theorem toX5_isItem : TOK mX5_isItem := TOK_no (by decide +kernel)
theorem toX5_isCrossAt : TOK mX5_isCrossAt := TOK_no (by decide +kernel)
theorem toX5_signAt : TOK mX5_signAt := TOK_no (by decide +kernel)
theorem toX5_partLength : TOK mX5_partLength := TOK_no (by decide +kernel)
theorem toX5_endsWithPlace : TOK mX5_endsWithPlace := TOK_no (by decide +kernel)
theorem toX5_isComplete : TOK mX5_isComplete := TOK_no (by decide +kernel)
theorem toX5_beginsPart : TOK mX5_beginsPart := TOK_no (by decide +kernel)
theorem toX5_crossAt : TOK mX5_crossAt := TOK_no (by decide +kernel)
theorem toX5_clueAt : TOK mX5_clueAt := TOK_no (by decide +kernel)
theorem toX6_same : TOK mX6_same := TOK_no (by decide +kernel)
theorem toX6_addPair : TOK mX6_addPair := TOK_no (by decide +kernel)
theorem toX6_requireItem : TOK mX6_requireItem := TOK_of [(10, 189)] (by decide +kernel) (List.forall_mem_cons.mpr ⟨fun cls h => by cases h; exact tsX6_requireItem_10, fun _ h => absurd h List.not_mem_nil⟩)
theorem toX6_requireUnlike : TOK mX6_requireUnlike := TOK_of [(5, 135)] (by decide +kernel) (List.forall_mem_cons.mpr ⟨fun cls h => by cases h; exact tsX6_requireUnlike_5, fun _ h => absurd h List.not_mem_nil⟩)
theorem toX6_addClue : TOK mX6_addClue := TOK_of [(12, 95)] (by decide +kernel) (List.forall_mem_cons.mpr ⟨fun cls h => by cases h; exact tsX6_addClue_12, fun _ h => absurd h List.not_mem_nil⟩)
theorem toX6_save : TOK mX6_save := TOK_no (by decide +kernel)
theorem toX6_dropOldest : TOK mX6_dropOldest := TOK_no (by decide +kernel)
theorem toX6_apart : TOK mX6_apart := TOK_no (by decide +kernel)
theorem toX6_leftOf : TOK mX6_leftOf := TOK_no (by decide +kernel)
theorem toX6_nextTo : TOK mX6_nextTo := TOK_no (by decide +kernel)
theorem toX6_at : TOK mX6_at := TOK_no (by decide +kernel)
theorem toX6_addPlaced : TOK mX6_addPlaced := TOK_no (by decide +kernel)
theorem toX6_requirePlace : TOK mX6_requirePlace := TOK_of [(9, 189)] (by decide +kernel) (List.forall_mem_cons.mpr ⟨fun cls h => by cases h; exact tsX6_requirePlace_9, fun _ h => absurd h List.not_mem_nil⟩)
theorem toX6_notAt : TOK mX6_notAt := TOK_no (by decide +kernel)
theorem toX6_either : TOK mX6_either := TOK_no (by decide +kernel)
theorem toX6_withdraw : TOK mX6_withdraw := TOK_no (by decide +kernel)
theorem toX6_requireClue : TOK mX6_requireClue := TOK_of [(15, 189)] (by decide +kernel) (List.forall_mem_cons.mpr ⟨fun cls h => by cases h; exact tsX6_requireClue_15, fun _ h => absurd h List.not_mem_nil⟩)
theorem toX6_cross : TOK mX6_cross := TOK_of [(23, 95)] (by decide +kernel) (List.forall_mem_cons.mpr ⟨fun cls h => by cases h; exact tsX6_cross_23, fun _ h => absurd h List.not_mem_nil⟩)
theorem toX6_rubOut : TOK mX6_rubOut := TOK_of [(23, 95)] (by decide +kernel) (List.forall_mem_cons.mpr ⟨fun cls h => by cases h; exact tsX6_rubOut_23, fun _ h => absurd h List.not_mem_nil⟩)
theorem toX6_rubAllOut : TOK mX6_rubAllOut := TOK_no (by decide +kernel)
theorem toX6_settle : TOK mX6_settle := TOK_of [(24, 95)] (by decide +kernel) (List.forall_mem_cons.mpr ⟨fun cls h => by cases h; exact tsX6_settle_24, fun _ h => absurd h List.not_mem_nil⟩)
theorem toX6_append : TOK mX6_append := TOK_of [(12, 135), (34, 95)] (by decide +kernel) (List.forall_mem_cons.mpr ⟨fun cls h => by cases h; exact tsX6_append_12, List.forall_mem_cons.mpr ⟨fun cls h => by cases h; exact tsX6_append_34, fun _ h => absurd h List.not_mem_nil⟩⟩)
theorem toX6_clearBuffer : TOK mX6_clearBuffer := TOK_no (by decide +kernel)
theorem toX6_firstError : TOK mX6_firstError := TOK_no (by decide +kernel)
theorem toX6_take : TOK mX6_take := TOK_of [(10, 135)] (by decide +kernel) (List.forall_mem_cons.mpr ⟨fun cls h => by cases h; exact tsX6_take_10, fun _ h => absurd h List.not_mem_nil⟩)
theorem toX6_doPart : TOK mX6_doPart := TOK_no (by decide +kernel)
theorem toX6_keep : TOK mX6_keep := TOK_no (by decide +kernel)
theorem toX6_goBack : TOK mX6_goBack := TOK_of [(7, 95)] (by decide +kernel) (List.forall_mem_cons.mpr ⟨fun cls h => by cases h; exact tsX6_goBack_7, fun _ h => absurd h List.not_mem_nil⟩)
theorem toX6_undo : TOK mX6_undo := TOK_of [(7, 95)] (by decide +kernel) (List.forall_mem_cons.mpr ⟨fun cls h => by cases h; exact tsX6_undo_7, fun _ h => absurd h List.not_mem_nil⟩)
theorem toX6_clues : TOK mX6_clues := TOK_no (by decide +kernel)
theorem toX6_sortOf : TOK mX6_sortOf := TOK_no (by decide +kernel)
theorem toX6_itemOf : TOK mX6_itemOf := TOK_of [(14, 189)] (by decide +kernel) (List.forall_mem_cons.mpr ⟨fun cls h => by cases h; exact tsX6_itemOf_14, fun _ h => absurd h List.not_mem_nil⟩)
theorem toX6_orNone : TOK mX6_orNone := TOK_no (by decide +kernel)
theorem toX6_placeOf : TOK mX6_placeOf := TOK_no (by decide +kernel)
theorem toX6_isCrossed : TOK mX6_isCrossed := TOK_no (by decide +kernel)
theorem toX6_crosses : TOK mX6_crosses := TOK_no (by decide +kernel)
theorem toX6_crossesByAccount : TOK mX6_crossesByAccount := TOK_no (by decide +kernel)
theorem toX6_made : TOK mX6_made := TOK_no (by decide +kernel)
theorem toX6_left : TOK mX6_left := TOK_no (by decide +kernel)
theorem toX6_leftAtEnd : TOK mX6_leftAtEnd := TOK_no (by decide +kernel)
theorem toX6_leftByTurns : TOK mX6_leftByTurns := TOK_no (by decide +kernel)
theorem toX6_leftAtEndByTurns : TOK mX6_leftAtEndByTurns := TOK_no (by decide +kernel)
theorem toX6_rounds : TOK mX6_rounds := TOK_no (by decide +kernel)
theorem toX6_isContradiction : TOK mX6_isContradiction := TOK_no (by decide +kernel)
theorem toX6_fixedAt : TOK mX6_fixedAt := TOK_no (by decide +kernel)
theorem toX6_fixedItems : TOK mX6_fixedItems := TOK_no (by decide +kernel)
theorem toX6_hint : TOK mX6_hint := TOK_no (by decide +kernel)
theorem toX6_hintBy : TOK mX6_hintBy := TOK_no (by decide +kernel)
theorem toX6_solutions : TOK mX6_solutions := TOK_no (by decide +kernel)
theorem toX6_solutionsBySearch : TOK mX6_solutionsBySearch := TOK_no (by decide +kernel)
theorem toX6_countBySearch : TOK mX6_countBySearch := TOK_no (by decide +kernel)
theorem toX6_placeIn : TOK mX6_placeIn := TOK_of [(4, 189)] (by decide +kernel) (List.forall_mem_cons.mpr ⟨fun cls h => by cases h; exact tsX6_placeIn_4, fun _ h => absurd h List.not_mem_nil⟩)
theorem toX6_solutionAt : TOK mX6_solutionAt := TOK_no (by decide +kernel)
theorem toX6_trulyLeft : TOK mX6_trulyLeft := TOK_no (by decide +kernel)
theorem toX6_isSpare : TOK mX6_isSpare := TOK_no (by decide +kernel)
theorem toX6_culprit : TOK mX6_culprit := TOK_no (by decide +kernel)
theorem toX6_barredBy : TOK mX6_barredBy := TOK_no (by decide +kernel)
theorem toX6_isPlain : TOK mX6_isPlain := TOK_no (by decide +kernel)
theorem toX6_fixedShare : TOK mX6_fixedShare := TOK_no (by decide +kernel)
theorem toX6_shareOf : TOK mX6_shareOf := TOK_no (by decide +kernel)
theorem toX6_meanLeft : TOK mX6_meanLeft := TOK_no (by decide +kernel)
theorem toX6_meanOf : TOK mX6_meanOf := TOK_no (by decide +kernel)
theorem toX6_digest : TOK mX6_digest := TOK_no (by decide +kernel)
theorem toX6_mix : TOK mX6_mix := TOK_no (by decide +kernel)
theorem toX6_mixClue : TOK mX6_mixClue := TOK_no (by decide +kernel)
theorem toX6_mixFlag : TOK mX6_mixFlag := TOK_no (by decide +kernel)
theorem toX6_mixCrosses : TOK mX6_mixCrosses := TOK_no (by decide +kernel)
theorem toX6_bitsOf : TOK mX6_bitsOf := TOK_no (by decide +kernel)
theorem toX6_mixBuffer : TOK mX6_mixBuffer := TOK_no (by decide +kernel)
theorem toX7_same : TOK mX7_same := TOK_no (by decide +kernel)
theorem toX7_pair : TOK mX7_pair := TOK_no (by decide +kernel)
theorem toX7_isItem : TOK mX7_isItem := TOK_no (by decide +kernel)
theorem toX7_in : TOK mX7_in := TOK_no (by decide +kernel)
theorem toX7_throwing : TOK mX7_throwing := TOK_no (by decide +kernel)
theorem toX7_save : TOK mX7_save := TOK_no (by decide +kernel)
theorem toX7_adds : TOK mX7_adds := TOK_no (by decide +kernel)
theorem toX7_thrown : TOK mX7_thrown := TOK_no (by decide +kernel)
theorem toX7_apart : TOK mX7_apart := TOK_no (by decide +kernel)
theorem toX7_leftOf : TOK mX7_leftOf := TOK_no (by decide +kernel)
theorem toX7_nextTo : TOK mX7_nextTo := TOK_no (by decide +kernel)
theorem toX7_at : TOK mX7_at := TOK_no (by decide +kernel)
theorem toX7_placed : TOK mX7_placed := TOK_no (by decide +kernel)
theorem toX7_isPlace : TOK mX7_isPlace := TOK_no (by decide +kernel)
theorem toX7_notAt : TOK mX7_notAt := TOK_no (by decide +kernel)
theorem toX7_either : TOK mX7_either := TOK_no (by decide +kernel)
theorem toX7_withdraw : TOK mX7_withdraw := TOK_no (by decide +kernel)
theorem toX7_isClue : TOK mX7_isClue := TOK_no (by decide +kernel)
theorem toX7_cross : TOK mX7_cross := TOK_no (by decide +kernel)
theorem toX7_crossed : TOK mX7_crossed := TOK_no (by decide +kernel)
theorem toX7_crossesOut : TOK mX7_crossesOut := TOK_no (by decide +kernel)
theorem toX7_bits : TOK mX7_bits := TOK_no (by decide +kernel)
theorem toX7_rubOut : TOK mX7_rubOut := TOK_no (by decide +kernel)
theorem toX7_rubAllOut : TOK mX7_rubAllOut := TOK_no (by decide +kernel)
theorem toX7_allCrosses : TOK mX7_allCrosses := TOK_no (by decide +kernel)
theorem toX7_settle : TOK mX7_settle := TOK_no (by decide +kernel)
theorem toX7_propagates : TOK mX7_propagates := TOK_no (by decide +kernel)
theorem toX7_begins : TOK mX7_begins := TOK_no (by decide +kernel)
theorem toX7_ruledBy : TOK mX7_ruledBy := TOK_no (by decide +kernel)
theorem toX7_isOf : TOK mX7_isOf := TOK_no (by decide +kernel)
theorem toX7_item : TOK mX7_item := TOK_no (by decide +kernel)
theorem toX7_sort : TOK mX7_sort := TOK_no (by decide +kernel)
theorem toX7_holds : TOK mX7_holds := TOK_no (by decide +kernel)
theorem toX7_fits : TOK mX7_fits := TOK_no (by decide +kernel)
theorem toX7_append : TOK mX7_append := TOK_no (by decide +kernel)
theorem toX7_clearBuffer : TOK mX7_clearBuffer := TOK_no (by decide +kernel)
theorem toX7_firstError : TOK mX7_firstError := TOK_no (by decide +kernel)
theorem toX7_go : TOK mX7_go := TOK_no (by decide +kernel)
theorem toX7_part : TOK mX7_part := TOK_no (by decide +kernel)
theorem toX7_sign : TOK mX7_sign := TOK_no (by decide +kernel)
theorem toX7_step : TOK mX7_step := TOK_no (by decide +kernel)
theorem toX7_letter : TOK mX7_letter := TOK_no (by decide +kernel)
theorem toX7_digit : TOK mX7_digit := TOK_no (by decide +kernel)
theorem toX7_take : TOK mX7_take := TOK_no (by decide +kernel)
theorem toX7_keep : TOK mX7_keep := TOK_no (by decide +kernel)
theorem toX7_goBack : TOK mX7_goBack := TOK_no (by decide +kernel)
theorem toX7_undo : TOK mX7_undo := TOK_no (by decide +kernel)
theorem toX7_clues : TOK mX7_clues := TOK_no (by decide +kernel)
theorem toX7_sortOf : TOK mX7_sortOf := TOK_no (by decide +kernel)
theorem toX7_itemOf : TOK mX7_itemOf := TOK_no (by decide +kernel)
theorem toX7_placeOf : TOK mX7_placeOf := TOK_no (by decide +kernel)
theorem toX7_placeIn1 : TOK mX7_placeIn1 := TOK_no (by decide +kernel)
theorem toX7_isCrossed : TOK mX7_isCrossed := TOK_no (by decide +kernel)
theorem toX7_crosses : TOK mX7_crosses := TOK_no (by decide +kernel)
theorem toX7_crossesByAccount : TOK mX7_crossesByAccount := TOK_no (by decide +kernel)
theorem toX7_made : TOK mX7_made := TOK_no (by decide +kernel)
theorem toX7_left : TOK mX7_left := TOK_no (by decide +kernel)
theorem toX7_toldLeft : TOK mX7_toldLeft := TOK_no (by decide +kernel)
theorem toX7_leftOfAll : TOK mX7_leftOfAll := TOK_no (by decide +kernel)
theorem toX7_leftByTurns : TOK mX7_leftByTurns := TOK_no (by decide +kernel)
theorem toX7_rounds : TOK mX7_rounds := TOK_no (by decide +kernel)
theorem toX7_isContradiction : TOK mX7_isContradiction := TOK_no (by decide +kernel)
theorem toX7_fixedAt : TOK mX7_fixedAt := TOK_no (by decide +kernel)
theorem toX7_fixed : TOK mX7_fixed := TOK_no (by decide +kernel)
theorem toX7_fixedItems : TOK mX7_fixedItems := TOK_no (by decide +kernel)
theorem toX7_allFixed : TOK mX7_allFixed := TOK_no (by decide +kernel)
theorem toX7_hint : TOK mX7_hint := TOK_no (by decide +kernel)
theorem toX7_hinted : TOK mX7_hinted := TOK_no (by decide +kernel)
theorem toX7_hintBy : TOK mX7_hintBy := TOK_no (by decide +kernel)
theorem toX7_solutions : TOK mX7_solutions := TOK_no (by decide +kernel)
theorem toX7_surveys : TOK mX7_surveys := TOK_no (by decide +kernel)
theorem toX7_stands : TOK mX7_stands := TOK_no (by decide +kernel)
theorem toX7_isHeld : TOK mX7_isHeld := TOK_no (by decide +kernel)
theorem toX7_isClear : TOK mX7_isClear := TOK_no (by decide +kernel)
theorem toX7_solutionsBySearch : TOK mX7_solutionsBySearch := TOK_no (by decide +kernel)
theorem toX7_placeIn : TOK mX7_placeIn := TOK_no (by decide +kernel)
theorem toX7_finds : TOK mX7_finds := TOK_no (by decide +kernel)
theorem toX7_trulyLeft : TOK mX7_trulyLeft := TOK_no (by decide +kernel)
theorem toX7_isSpare : TOK mX7_isSpare := TOK_no (by decide +kernel)
theorem toX7_culprit : TOK mX7_culprit := TOK_no (by decide +kernel)
theorem toX7_blamed : TOK mX7_blamed := TOK_no (by decide +kernel)
theorem toX7_barredBy : TOK mX7_barredBy := TOK_no (by decide +kernel)
theorem toX7_isPlain : TOK mX7_isPlain := TOK_no (by decide +kernel)
theorem toX7_plain : TOK mX7_plain := TOK_no (by decide +kernel)
theorem toX7_fixedShare : TOK mX7_fixedShare := TOK_no (by decide +kernel)
theorem toX7_share : TOK mX7_share := TOK_no (by decide +kernel)
theorem toX7_meanLeft : TOK mX7_meanLeft := TOK_no (by decide +kernel)
theorem toX7_mean : TOK mX7_mean := TOK_no (by decide +kernel)
theorem toX7_digest : TOK mX7_digest := TOK_no (by decide +kernel)
theorem toX7_mix : TOK mX7_mix := TOK_no (by decide +kernel)
theorem toX7_told : TOK mX7_told := TOK_no (by decide +kernel)
theorem toX7_bitsOf : TOK mX7_bitsOf := TOK_no (by decide +kernel)
theorem toL_same : TOK mL_same := TOK_no (by decide +kernel)
theorem toL_apart : TOK mL_apart := TOK_no (by decide +kernel)
theorem toL_leftOf : TOK mL_leftOf := TOK_no (by decide +kernel)
theorem toL_nextTo : TOK mL_nextTo := TOK_no (by decide +kernel)
theorem toL_at : TOK mL_at := TOK_no (by decide +kernel)
theorem toL_notAt : TOK mL_notAt := TOK_no (by decide +kernel)
theorem toL_either : TOK mL_either := TOK_no (by decide +kernel)
theorem toL_withdraw : TOK mL_withdraw := TOK_no (by decide +kernel)
theorem toL_cross : TOK mL_cross := TOK_no (by decide +kernel)
theorem toL_rubOut : TOK mL_rubOut := TOK_no (by decide +kernel)
theorem toL_settle : TOK mL_settle := TOK_no (by decide +kernel)
theorem toL_append : TOK mL_append := TOK_no (by decide +kernel)
theorem toL_take : TOK mL_take := TOK_no (by decide +kernel)
theorem toL_goBack : TOK mL_goBack := TOK_no (by decide +kernel)
theorem toL_undo : TOK mL_undo := TOK_no (by decide +kernel)
theorem toL_sortOf : TOK mL_sortOf := TOK_no (by decide +kernel)
theorem toL_itemOf : TOK mL_itemOf := TOK_no (by decide +kernel)
theorem toL_placeOf : TOK mL_placeOf := TOK_no (by decide +kernel)
theorem toL_isCrossed : TOK mL_isCrossed := TOK_no (by decide +kernel)
theorem toL_left : TOK mL_left := TOK_no (by decide +kernel)
theorem toL_leftByTurns : TOK mL_leftByTurns := TOK_no (by decide +kernel)
theorem toL_fixedAt : TOK mL_fixedAt := TOK_no (by decide +kernel)
theorem toL_placeIn : TOK mL_placeIn := TOK_no (by decide +kernel)
theorem toL_trulyLeft : TOK mL_trulyLeft := TOK_no (by decide +kernel)
theorem toL_isSpare : TOK mL_isSpare := TOK_no (by decide +kernel)
theorem toL_barredBy : TOK mL_barredBy := TOK_no (by decide +kernel)
theorem toL_law : TOK mL_law := TOK_of [(0, 8), (8, 100)] (by decide +kernel) (List.forall_mem_cons.mpr ⟨fun cls h => (by cases h), List.forall_mem_cons.mpr ⟨fun cls h => (by cases h), fun _ h => absurd h List.not_mem_nil⟩⟩)
theorem toJ6_bitCount_0f7a4 : TOK mJ6_bitCount_0f7a4 := TOK_no (by decide +kernel)
theorem toJ13_bitCount_95d88 : TOK mJ13_bitCount_95d88 := TOK_no (by decide +kernel)
theorem toJ0_indexOf_0f7a4 : TOK mJ0_indexOf_0f7a4 := TOK_no (by decide +kernel)
theorem toJ0_indexOf_7cf53 : TOK mJ0_indexOf_7cf53 := TOK_no (by decide +kernel)
theorem toJ0_isLatin1_aae02 : TOK mJ0_isLatin1_aae02 := TOK_no (by decide +kernel)
theorem toJ0_length_8abf5 : TOK mJ0_length_8abf5 := TOK_no (by decide +kernel)
theorem toJ0_coder_7d493 : TOK mJ0_coder_7d493 := TOK_no (by decide +kernel)
theorem toJ1_indexOf_4cfef : TOK mJ1_indexOf_4cfef := TOK_no (by decide +kernel)
theorem toJ1_canEncode_9a6ad : TOK mJ1_canEncode_9a6ad := TOK_no (by decide +kernel)
theorem toJ1_indexOfChar_4cfef : TOK mJ1_indexOfChar_4cfef := TOK_no (by decide +kernel)
theorem cpT_all : ∀ (k : Nat) r, cpMs[k]? = some r → ∀ y ∈ r, TOK y.2
  | 0, r, h => by cases h; exact List.forall_mem_cons.mpr ⟨toX0_item, List.forall_mem_cons.mpr ⟨toX1_placesOf, List.forall_mem_cons.mpr ⟨toX0_sort, List.forall_mem_cons.mpr ⟨toX0_place, List.forall_mem_cons.mpr ⟨toX0_choices, List.forall_mem_cons.mpr ⟨toX0_elsewhere, List.forall_mem_cons.mpr ⟨toX0_eitherChoices, fun _ h => absurd h List.not_mem_nil⟩⟩⟩⟩⟩⟩⟩
  | 1, r, h => by cases h; exact List.forall_mem_cons.mpr ⟨toX1_spot, List.forall_mem_cons.mpr ⟨toX1_placesOf, List.forall_mem_cons.mpr ⟨toX1_itemsWithOne, List.forall_mem_cons.mpr ⟨toJ13_bitCount_95d88, List.forall_mem_cons.mpr ⟨toX1_hasBit, List.forall_mem_cons.mpr ⟨toX1_itemsWithMore, List.forall_mem_cons.mpr ⟨toX1_leastBit, List.forall_mem_cons.mpr ⟨toX1_itemsWithSome, List.forall_mem_cons.mpr ⟨toX1_ofOthers, fun _ h => absurd h List.not_mem_nil⟩⟩⟩⟩⟩⟩⟩⟩⟩
  | 2, r, h => by cases h; exact List.forall_mem_cons.mpr ⟨toX1_takenByAnother, List.forall_mem_cons.mpr ⟨toX1_neededElsewhere, List.forall_mem_cons.mpr ⟨toX0_ruledOut, List.forall_mem_cons.mpr ⟨toX2_leftAtFirst, List.forall_mem_cons.mpr ⟨toX2_ruledOut, fun _ h => absurd h List.not_mem_nil⟩⟩⟩⟩⟩
  | 3, r, h => by cases h; exact List.forall_mem_cons.mpr ⟨toX1_placesOf, List.forall_mem_cons.mpr ⟨toJ6_bitCount_0f7a4, List.forall_mem_cons.mpr ⟨toJ13_bitCount_95d88, List.forall_mem_cons.mpr ⟨toX0_holds, fun _ h => absurd h List.not_mem_nil⟩⟩⟩⟩
  | 4, r, h => by cases h; exact List.forall_mem_cons.mpr ⟨toX4_arrangement, List.forall_mem_cons.mpr ⟨toX4_count, List.forall_mem_cons.mpr ⟨toX0_holds, fun _ h => absurd h List.not_mem_nil⟩⟩⟩
  | 5, r, h => by cases h; exact List.forall_mem_cons.mpr ⟨toX5_fits, List.forall_mem_cons.mpr ⟨toX5_partLength, List.forall_mem_cons.mpr ⟨toX5_errorIndex, List.forall_mem_cons.mpr ⟨toX1_spot, List.forall_mem_cons.mpr ⟨toX5_signAt, List.forall_mem_cons.mpr ⟨toX0_of, List.forall_mem_cons.mpr ⟨toX5_isItem, List.forall_mem_cons.mpr ⟨toX5_isCrossAt, List.forall_mem_cons.mpr ⟨toX5_endsWithPlace, List.forall_mem_cons.mpr ⟨toJ0_indexOf_0f7a4, fun _ h => absurd h List.not_mem_nil⟩⟩⟩⟩⟩⟩⟩⟩⟩⟩
  | 6, r, h => by cases h; exact List.forall_mem_cons.mpr ⟨toX6_addPair, List.forall_mem_cons.mpr ⟨toX6_addPlaced, List.forall_mem_cons.mpr ⟨toX6_requireItem, List.forall_mem_cons.mpr ⟨toX6_requireUnlike, List.forall_mem_cons.mpr ⟨toX0_of, List.forall_mem_cons.mpr ⟨toX6_addClue, List.forall_mem_cons.mpr ⟨toX6_requireClue, List.forall_mem_cons.mpr ⟨toX6_save, List.forall_mem_cons.mpr ⟨toX3_dropClue, List.forall_mem_cons.mpr ⟨toX6_requirePlace, List.forall_mem_cons.mpr ⟨toX1_has, List.forall_mem_cons.mpr ⟨toX1_spot, List.forall_mem_cons.mpr ⟨toX3_makeCrosses, List.forall_mem_cons.mpr ⟨toX3_crossesOf, List.forall_mem_cons.mpr ⟨toX3_rubCrosses, List.forall_mem_cons.mpr ⟨toX2_run, List.forall_mem_cons.mpr ⟨toX1_isContradictory, List.forall_mem_cons.mpr ⟨toX5_errorIndex, List.forall_mem_cons.mpr ⟨toX5_isComplete, List.forall_mem_cons.mpr ⟨toX5_beginsPart, List.forall_mem_cons.mpr ⟨toX6_doPart, List.forall_mem_cons.mpr ⟨toX3_copyFrom, List.forall_mem_cons.mpr ⟨toX0_sort, List.forall_mem_cons.mpr ⟨toX0_item, List.forall_mem_cons.mpr ⟨toX6_orNone, List.forall_mem_cons.mpr ⟨toX0_place, List.forall_mem_cons.mpr ⟨toX6_leftAtEnd, List.forall_mem_cons.mpr ⟨toX1_placesOf, List.forall_mem_cons.mpr ⟨toX6_leftAtEndByTurns, List.forall_mem_cons.mpr ⟨toX1_onlyPlaceOf, List.forall_mem_cons.mpr ⟨toX1_countWithOne, List.forall_mem_cons.mpr ⟨toX2_leftAtFirst, List.forall_mem_cons.mpr ⟨toX2_ruledOut, List.forall_mem_cons.mpr ⟨toX1_leastBit, List.forall_mem_cons.mpr ⟨toX0_ruledOut, List.forall_mem_cons.mpr ⟨toX1_hasBit, List.forall_mem_cons.mpr ⟨toX1_takenByAnother, List.forall_mem_cons.mpr ⟨toX4_lookAt, List.forall_mem_cons.mpr ⟨toX6_countBySearch, List.forall_mem_cons.mpr ⟨toX6_solutionAt, List.forall_mem_cons.mpr ⟨toX4_arrangement, List.forall_mem_cons.mpr ⟨toX0_holds, List.forall_mem_cons.mpr ⟨toX6_shareOf, List.forall_mem_cons.mpr ⟨toX6_meanOf, List.forall_mem_cons.mpr ⟨toX6_mix, List.forall_mem_cons.mpr ⟨toX6_mixClue, List.forall_mem_cons.mpr ⟨toX6_mixCrosses, List.forall_mem_cons.mpr ⟨toX6_crosses, List.forall_mem_cons.mpr ⟨toX6_crossesByAccount, List.forall_mem_cons.mpr ⟨toX6_made, List.forall_mem_cons.mpr ⟨toX6_rounds, List.forall_mem_cons.mpr ⟨toX6_isContradiction, List.forall_mem_cons.mpr ⟨toX6_mixFlag, List.forall_mem_cons.mpr ⟨toX6_hint, List.forall_mem_cons.mpr ⟨toX6_hintBy, List.forall_mem_cons.mpr ⟨toX6_solutions, List.forall_mem_cons.mpr ⟨toX6_solutionsBySearch, List.forall_mem_cons.mpr ⟨toX6_culprit, List.forall_mem_cons.mpr ⟨toX6_bitsOf, List.forall_mem_cons.mpr ⟨toX6_mixBuffer, List.forall_mem_cons.mpr ⟨toX3_addClue, List.forall_mem_cons.mpr ⟨toX6_dropOldest, List.forall_mem_cons.mpr ⟨toX5_isCrossAt, List.forall_mem_cons.mpr ⟨toX5_crossAt, List.forall_mem_cons.mpr ⟨toX5_clueAt, List.forall_mem_cons.mpr ⟨toX2_byTurns, List.forall_mem_cons.mpr ⟨toJ13_bitCount_95d88, List.forall_mem_cons.mpr ⟨toX3_allows, List.forall_mem_cons.mpr ⟨toX1_firstWithMore, List.forall_mem_cons.mpr ⟨toX1_withOnly, List.forall_mem_cons.mpr ⟨toX6_sortOf, List.forall_mem_cons.mpr ⟨toX6_itemOf, List.forall_mem_cons.mpr ⟨toX6_placeOf, List.forall_mem_cons.mpr ⟨toX6_isSpare, List.forall_mem_cons.mpr ⟨toX6_barredBy, List.forall_mem_cons.mpr ⟨toX6_isCrossed, fun _ h => absurd h List.not_mem_nil⟩⟩⟩⟩⟩⟩⟩⟩⟩⟩⟩⟩⟩⟩⟩⟩⟩⟩⟩⟩⟩⟩⟩⟩⟩⟩⟩⟩⟩⟩⟩⟩⟩⟩⟩⟩⟩⟩⟩⟩⟩⟩⟩⟩⟩⟩⟩⟩⟩⟩⟩⟩⟩⟩⟩⟩⟩⟩⟩⟩⟩⟩⟩⟩⟩⟩⟩⟩⟩⟩⟩⟩⟩⟩⟩⟩
  | 7, r, h => by cases h; exact List.forall_mem_cons.mpr ⟨toX7_in, List.forall_mem_cons.mpr ⟨toX7_sort, List.forall_mem_cons.mpr ⟨toX7_isItem, List.forall_mem_cons.mpr ⟨toX7_throwing, List.forall_mem_cons.mpr ⟨toX7_save, List.forall_mem_cons.mpr ⟨toX7_adds, List.forall_mem_cons.mpr ⟨toX7_pair, List.forall_mem_cons.mpr ⟨toX7_isPlace, List.forall_mem_cons.mpr ⟨toX7_placed, List.forall_mem_cons.mpr ⟨toX7_isClue, List.forall_mem_cons.mpr ⟨toX7_bits, List.forall_mem_cons.mpr ⟨toX7_crossed, List.forall_mem_cons.mpr ⟨toX7_crossesOut, List.forall_mem_cons.mpr ⟨toX7_allCrosses, List.forall_mem_cons.mpr ⟨toX7_propagates, List.forall_mem_cons.mpr ⟨toX7_fits, List.forall_mem_cons.mpr ⟨toX7_item, List.forall_mem_cons.mpr ⟨toX7_isOf, List.forall_mem_cons.mpr ⟨toX7_holds, List.forall_mem_cons.mpr ⟨toX7_begins, List.forall_mem_cons.mpr ⟨toX7_ruledBy, List.forall_mem_cons.mpr ⟨toX7_leftOfAll, List.forall_mem_cons.mpr ⟨toX7_fixed, List.forall_mem_cons.mpr ⟨toX7_stands, List.forall_mem_cons.mpr ⟨toX7_isHeld, List.forall_mem_cons.mpr ⟨toX7_isClear, List.forall_mem_cons.mpr ⟨toX7_sign, List.forall_mem_cons.mpr ⟨toX7_step, List.forall_mem_cons.mpr ⟨toX7_letter, List.forall_mem_cons.mpr ⟨toX7_digit, List.forall_mem_cons.mpr ⟨toX7_part, List.forall_mem_cons.mpr ⟨toX7_go, List.forall_mem_cons.mpr ⟨toX7_placeIn1, List.forall_mem_cons.mpr ⟨toX7_toldLeft, List.forall_mem_cons.mpr ⟨toX7_allFixed, List.forall_mem_cons.mpr ⟨toX7_hinted, List.forall_mem_cons.mpr ⟨toX7_surveys, List.forall_mem_cons.mpr ⟨toX7_finds, List.forall_mem_cons.mpr ⟨toX7_blamed, List.forall_mem_cons.mpr ⟨toX7_plain, List.forall_mem_cons.mpr ⟨toX7_share, List.forall_mem_cons.mpr ⟨toX7_mean, List.forall_mem_cons.mpr ⟨toX7_mix, List.forall_mem_cons.mpr ⟨toX7_told, List.forall_mem_cons.mpr ⟨toX7_bitsOf, fun _ h => absurd h List.not_mem_nil⟩⟩⟩⟩⟩⟩⟩⟩⟩⟩⟩⟩⟩⟩⟩⟩⟩⟩⟩⟩⟩⟩⟩⟩⟩⟩⟩⟩⟩⟩⟩⟩⟩⟩⟩⟩⟩⟩⟩⟩⟩⟩⟩⟩⟩
  | 8, r, h => by cases h; exact List.forall_mem_cons.mpr ⟨toX6_same, List.forall_mem_cons.mpr ⟨toX6_apart, List.forall_mem_cons.mpr ⟨toX6_leftOf, List.forall_mem_cons.mpr ⟨toX6_nextTo, List.forall_mem_cons.mpr ⟨toX6_at, List.forall_mem_cons.mpr ⟨toX6_notAt, List.forall_mem_cons.mpr ⟨toX6_either, List.forall_mem_cons.mpr ⟨toX6_withdraw, List.forall_mem_cons.mpr ⟨toX6_cross, List.forall_mem_cons.mpr ⟨toX6_rubOut, List.forall_mem_cons.mpr ⟨toX6_settle, List.forall_mem_cons.mpr ⟨toX6_append, List.forall_mem_cons.mpr ⟨toX6_take, List.forall_mem_cons.mpr ⟨toX6_goBack, List.forall_mem_cons.mpr ⟨toX6_undo, List.forall_mem_cons.mpr ⟨toX6_sortOf, List.forall_mem_cons.mpr ⟨toX6_itemOf, List.forall_mem_cons.mpr ⟨toX6_placeOf, List.forall_mem_cons.mpr ⟨toX6_isCrossed, List.forall_mem_cons.mpr ⟨toX6_left, List.forall_mem_cons.mpr ⟨toX6_leftByTurns, List.forall_mem_cons.mpr ⟨toX6_fixedAt, List.forall_mem_cons.mpr ⟨toX6_placeIn, List.forall_mem_cons.mpr ⟨toX6_trulyLeft, List.forall_mem_cons.mpr ⟨toX6_isSpare, List.forall_mem_cons.mpr ⟨toX6_barredBy, List.forall_mem_cons.mpr ⟨toL_same, List.forall_mem_cons.mpr ⟨toX7_same, List.forall_mem_cons.mpr ⟨toX7_thrown, List.forall_mem_cons.mpr ⟨toL_apart, List.forall_mem_cons.mpr ⟨toX7_apart, List.forall_mem_cons.mpr ⟨toL_leftOf, List.forall_mem_cons.mpr ⟨toX7_leftOf, List.forall_mem_cons.mpr ⟨toL_nextTo, List.forall_mem_cons.mpr ⟨toX7_nextTo, List.forall_mem_cons.mpr ⟨toL_at, List.forall_mem_cons.mpr ⟨toX7_at, List.forall_mem_cons.mpr ⟨toL_notAt, List.forall_mem_cons.mpr ⟨toX7_notAt, List.forall_mem_cons.mpr ⟨toL_either, List.forall_mem_cons.mpr ⟨toX7_either, List.forall_mem_cons.mpr ⟨toL_withdraw, List.forall_mem_cons.mpr ⟨toX7_withdraw, List.forall_mem_cons.mpr ⟨toL_cross, List.forall_mem_cons.mpr ⟨toX7_cross, List.forall_mem_cons.mpr ⟨toL_rubOut, List.forall_mem_cons.mpr ⟨toX7_rubOut, List.forall_mem_cons.mpr ⟨toX6_rubAllOut, List.forall_mem_cons.mpr ⟨toX7_rubAllOut, List.forall_mem_cons.mpr ⟨toL_settle, List.forall_mem_cons.mpr ⟨toX7_settle, List.forall_mem_cons.mpr ⟨toL_append, List.forall_mem_cons.mpr ⟨toX7_append, List.forall_mem_cons.mpr ⟨toX6_clearBuffer, List.forall_mem_cons.mpr ⟨toX7_clearBuffer, List.forall_mem_cons.mpr ⟨toX6_firstError, List.forall_mem_cons.mpr ⟨toX7_firstError, List.forall_mem_cons.mpr ⟨toL_take, List.forall_mem_cons.mpr ⟨toX7_take, List.forall_mem_cons.mpr ⟨toX6_keep, List.forall_mem_cons.mpr ⟨toX7_keep, List.forall_mem_cons.mpr ⟨toL_goBack, List.forall_mem_cons.mpr ⟨toX7_goBack, List.forall_mem_cons.mpr ⟨toL_undo, List.forall_mem_cons.mpr ⟨toX7_undo, List.forall_mem_cons.mpr ⟨toX6_clues, List.forall_mem_cons.mpr ⟨toX7_clues, List.forall_mem_cons.mpr ⟨toL_sortOf, List.forall_mem_cons.mpr ⟨toX7_sortOf, List.forall_mem_cons.mpr ⟨toL_itemOf, List.forall_mem_cons.mpr ⟨toX7_itemOf, List.forall_mem_cons.mpr ⟨toL_placeOf, List.forall_mem_cons.mpr ⟨toX7_placeOf, List.forall_mem_cons.mpr ⟨toL_isCrossed, List.forall_mem_cons.mpr ⟨toX7_isCrossed, List.forall_mem_cons.mpr ⟨toX6_crosses, List.forall_mem_cons.mpr ⟨toX7_crosses, List.forall_mem_cons.mpr ⟨toX6_crossesByAccount, List.forall_mem_cons.mpr ⟨toX7_crossesByAccount, List.forall_mem_cons.mpr ⟨toX6_made, List.forall_mem_cons.mpr ⟨toX7_made, List.forall_mem_cons.mpr ⟨toL_left, List.forall_mem_cons.mpr ⟨toX7_left, List.forall_mem_cons.mpr ⟨toL_leftByTurns, List.forall_mem_cons.mpr ⟨toX7_leftByTurns, List.forall_mem_cons.mpr ⟨toX6_rounds, List.forall_mem_cons.mpr ⟨toX7_rounds, List.forall_mem_cons.mpr ⟨toX6_isContradiction, List.forall_mem_cons.mpr ⟨toX7_isContradiction, List.forall_mem_cons.mpr ⟨toL_fixedAt, List.forall_mem_cons.mpr ⟨toX7_fixedAt, List.forall_mem_cons.mpr ⟨toX6_fixedItems, List.forall_mem_cons.mpr ⟨toX7_fixedItems, List.forall_mem_cons.mpr ⟨toX6_hint, List.forall_mem_cons.mpr ⟨toX7_hint, List.forall_mem_cons.mpr ⟨toX6_hintBy, List.forall_mem_cons.mpr ⟨toX7_hintBy, List.forall_mem_cons.mpr ⟨toX6_solutions, List.forall_mem_cons.mpr ⟨toX7_solutions, List.forall_mem_cons.mpr ⟨toX6_solutionsBySearch, List.forall_mem_cons.mpr ⟨toX7_solutionsBySearch, List.forall_mem_cons.mpr ⟨toL_placeIn, List.forall_mem_cons.mpr ⟨toX7_placeIn, List.forall_mem_cons.mpr ⟨toL_trulyLeft, List.forall_mem_cons.mpr ⟨toX7_trulyLeft, List.forall_mem_cons.mpr ⟨toL_isSpare, List.forall_mem_cons.mpr ⟨toX7_isSpare, List.forall_mem_cons.mpr ⟨toX6_culprit, List.forall_mem_cons.mpr ⟨toX7_culprit, List.forall_mem_cons.mpr ⟨toL_barredBy, List.forall_mem_cons.mpr ⟨toX7_barredBy, List.forall_mem_cons.mpr ⟨toX6_isPlain, List.forall_mem_cons.mpr ⟨toX7_isPlain, List.forall_mem_cons.mpr ⟨toX6_fixedShare, List.forall_mem_cons.mpr ⟨toX7_fixedShare, List.forall_mem_cons.mpr ⟨toX6_meanLeft, List.forall_mem_cons.mpr ⟨toX7_meanLeft, List.forall_mem_cons.mpr ⟨toX6_digest, List.forall_mem_cons.mpr ⟨toX7_digest, fun _ h => absurd h List.not_mem_nil⟩⟩⟩⟩⟩⟩⟩⟩⟩⟩⟩⟩⟩⟩⟩⟩⟩⟩⟩⟩⟩⟩⟩⟩⟩⟩⟩⟩⟩⟩⟩⟩⟩⟩⟩⟩⟩⟩⟩⟩⟩⟩⟩⟩⟩⟩⟩⟩⟩⟩⟩⟩⟩⟩⟩⟩⟩⟩⟩⟩⟩⟩⟩⟩⟩⟩⟩⟩⟩⟩⟩⟩⟩⟩⟩⟩⟩⟩⟩⟩⟩⟩⟩⟩⟩⟩⟩⟩⟩⟩⟩⟩⟩⟩⟩⟩⟩⟩⟩⟩⟩⟩⟩⟩⟩⟩⟩⟩⟩⟩⟩⟩⟩⟩⟩⟩⟩⟩⟩
  | 9, r, h => by cases h; exact fun _ h => absurd h List.not_mem_nil
  | 10, r, h => by cases h; exact fun _ h => absurd h List.not_mem_nil
  | 11, r, h => by cases h; exact List.forall_mem_cons.mpr ⟨toJ0_coder_7d493, List.forall_mem_cons.mpr ⟨toJ0_isLatin1_aae02, List.forall_mem_cons.mpr ⟨toJ0_length_8abf5, List.forall_mem_cons.mpr ⟨toJ0_indexOf_7cf53, List.forall_mem_cons.mpr ⟨toJ1_indexOf_4cfef, fun _ h => absurd h List.not_mem_nil⟩⟩⟩⟩⟩
  | 12, r, h => by cases h; exact List.forall_mem_cons.mpr ⟨toJ1_canEncode_9a6ad, List.forall_mem_cons.mpr ⟨toJ1_indexOfChar_4cfef, fun _ h => absurd h List.not_mem_nil⟩⟩
  | k + 13, r, h => by cases h
theorem cpT_ok (k i : Nat) (x : MI) (h : cpM k i = some x) : TOK x := by
  obtain ⟨r, hr, hm⟩ := fnd2_mem h
  exact cpT_all k r hr (i, x) hm
section ThrowP
variable {p : Program} {l : Launch} {e : Env} {R : Room} {s : State} {m : MethodId} {args : Array Value} {below : List Frame} {meth : Method} {c : Code} {H : Heap} {locs : List Loc} {cells slots : Nat}
variable {ad : Nat → Nat} {tid : Nat → ClassId} {D : va_G} {A : Nat → Prop} {ls : Array Slot} {pc : Nat} {pl : PL} {h : PH}
theorem thr_site {q : MI} {cls : String} {Qc : Array Value → State → Outcome → State → Prop} {XC : String → State → State → Prop} {mc ms : Nat} {free : Addr → Prop} (T : TSite q pc cls) (F : FRel p l s m args meth c q) (hS : SRel ad A s s.heap) (hT : TRel ad s) (hW : WRel ad tid D A s h H locs) (hl : PHas ad ls (miL q) pl)
    (hout : ∀ x ∈ c.exceptionTable.toList, False) (hR : 8 ≤ R.frames ∧ 300 ≤ R.locals ∧ cells + 1 ≤ R.cells ∧ slots + 6 ≤ R.slots)
    (hx : ∀ t : State, s.vm.Alike t.vm → H.size ≤ t.heap.size → (∀ z : Nat, z < H.size → t.heap[z]? = H[z]?) → XC cls s t) (hf : ∀ z, A z → free z) (hc : cells + 1 ≤ mc) (hs : slots + 6 ≤ ms) :
    W p l e R s m args below meth c H locs cells slots (vx_MQ below Qc XC args s mc ms free) (F0 m pc ls []) := by
  obtain ⟨hk, ik, is, ic, tx, w1, w2, w3, ⟨a1, a2, a3, a4, a5⟩, d0, d3, dd⟩ := T
  obtain ⟨hex, hb, hml, hown, hts, hlt, hlk, hrt⟩ := F
  rw [hk] at hown
  obtain ⟨sa, hsa⟩ := hT.2.1 _ w3
  have hat : ∀ w ∈ vx_atS RX6 ic cls exN, w.before args s = true := vx_hat (fun w hw => hts w (a3 w hw)) a4 (fun w hw => va_any (ncW_on w hw) (hT.1 w hw))
  have hg : ∀ w ∈ Cond.classLink RX6 ik cls :: Cond.initialized cls :: vx_atS RX6 ic cls exN, vx_ot w = true := List.forall_mem_cons.mpr ⟨rfl, List.forall_mem_cons.mpr ⟨rfl, a5⟩⟩
  rcases dd with ⟨d4, d6, d9⟩ | ⟨d4, d6, d9⟩
  · exact vx_throwS hex hb hlt hown a1 a2 (hts _ w1) (hts _ w2) hsa hat hg hS.2.2.1 hS.2.2.2.1 hW.2.2.2.1 (hl.1.trans hml.symm) d0 d3 d4 d6 d9 (fun x hx => absurd (hout x hx) id) (Nat.lt_of_lt_of_le (by decide) hR.1) (Nat.le_trans (by decide) hR.2.1) hR.2.2.1 hR.2.2.2 hlk hx (fun z hz => hf _ (hW.2.2.2.1.2.2 z hz)) hc hs
  · exact vx_throwSW hex hb hlt hown a1 a2 (hts _ w1) (hts _ w2) hsa hat hg hS.2.2.1 hS.2.2.2.1 hW.2.2.2.1 (hl.1.trans hml.symm) d0 d3 d4 d6 d9 (fun x hx => absurd (hout x hx) id) (Nat.lt_of_lt_of_le (by decide) hR.1) (Nat.le_trans (by decide) hR.2.1) hR.2.2.1 hR.2.2.2 hlk hx (fun z hz => hf _ (hW.2.2.2.1.2.2 z hz)) hc hs
end ThrowP
