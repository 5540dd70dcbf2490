/-! the law's wrappers, methods with handlers: by program (gen_wrap.py) -/
theorem hsL_same : HSt mL_same [(0, 10, 13, 13), (0, 10, 17, 15), (0, 10, 21, 17)] := by
  intro pc e ph i h
  simp only [miH, mL_same, hndF] at h
  split at h
  next c =>
    obtain ⟨c1, c2, rfl⟩ := c
    simp only [Option.some.injEq, Prod.mk.injEq] at h
    obtain ⟨rfl, rfl⟩ := h
    exact ⟨[], [⟨0, 10, 17, 15⟩, ⟨0, 10, 21, 17⟩], ⟨0, 10, 13, 13⟩, rfl, fun z hz => absurd hz List.not_mem_nil, Bool.and_eq_true_iff.mpr ⟨decide_eq_true c1, decide_eq_true c2⟩, by decide, wm 732 (by decide +kernel) rfl, by decide +kernel, Or.inl ⟨by decide +kernel, rfl⟩, by decide⟩
  next =>
  split at h
  next c =>
    obtain ⟨c1, c2, rfl⟩ := c
    simp only [Option.some.injEq, Prod.mk.injEq] at h
    obtain ⟨rfl, rfl⟩ := h
    exact ⟨[⟨0, 10, 13, 13⟩], [⟨0, 10, 21, 17⟩], ⟨0, 10, 17, 15⟩, rfl, List.forall_mem_cons.mpr ⟨Or.inr ⟨by decide, "java/lang/IndexOutOfBoundsException", wm 732 (by decide +kernel) rfl, by decide +kernel⟩, fun z hz => absurd hz List.not_mem_nil⟩, Bool.and_eq_true_iff.mpr ⟨decide_eq_true c1, decide_eq_true c2⟩, by decide, wm 733 (by decide +kernel) rfl, by decide +kernel, Or.inl ⟨by decide +kernel, rfl⟩, by decide⟩
  next =>
  split at h
  next c =>
    obtain ⟨c1, c2, rfl⟩ := c
    simp only [Option.some.injEq, Prod.mk.injEq] at h
    obtain ⟨rfl, rfl⟩ := h
    exact ⟨[⟨0, 10, 13, 13⟩, ⟨0, 10, 17, 15⟩], [], ⟨0, 10, 21, 17⟩, rfl, List.forall_mem_cons.mpr ⟨Or.inr ⟨by decide, "java/lang/IndexOutOfBoundsException", wm 732 (by decide +kernel) rfl, by decide +kernel⟩, List.forall_mem_cons.mpr ⟨Or.inr ⟨by decide, "java/lang/IllegalArgumentException", wm 733 (by decide +kernel) rfl, by decide +kernel⟩, fun z hz => absurd hz List.not_mem_nil⟩⟩, Bool.and_eq_true_iff.mpr ⟨decide_eq_true c1, decide_eq_true c2⟩, by decide, wm 734 (by decide +kernel) rfl, by decide +kernel, Or.inl ⟨by decide +kernel, rfl⟩, by decide⟩
  next =>
  cases h
theorem owL_same : MOKw mL_same := ⟨okL_same, rfl, rfl, [(0, 10, 13, 13), (0, 10, 17, 15), (0, 10, 21, 17)], wm 731 (by decide +kernel) rfl, hsL_same⟩
theorem hsL_apart : HSt mL_apart [(0, 10, 13, 13), (0, 10, 17, 15), (0, 10, 21, 17)] := by
  intro pc e ph i h
  simp only [miH, mL_apart, hndF] at h
  split at h
  next c =>
    obtain ⟨c1, c2, rfl⟩ := c
    simp only [Option.some.injEq, Prod.mk.injEq] at h
    obtain ⟨rfl, rfl⟩ := h
    exact ⟨[], [⟨0, 10, 17, 15⟩, ⟨0, 10, 21, 17⟩], ⟨0, 10, 13, 13⟩, rfl, fun z hz => absurd hz List.not_mem_nil, Bool.and_eq_true_iff.mpr ⟨decide_eq_true c1, decide_eq_true c2⟩, by decide, wm 732 (by decide +kernel) rfl, by decide +kernel, Or.inl ⟨by decide +kernel, rfl⟩, by decide⟩
  next =>
  split at h
  next c =>
    obtain ⟨c1, c2, rfl⟩ := c
    simp only [Option.some.injEq, Prod.mk.injEq] at h
    obtain ⟨rfl, rfl⟩ := h
    exact ⟨[⟨0, 10, 13, 13⟩], [⟨0, 10, 21, 17⟩], ⟨0, 10, 17, 15⟩, rfl, List.forall_mem_cons.mpr ⟨Or.inr ⟨by decide, "java/lang/IndexOutOfBoundsException", wm 732 (by decide +kernel) rfl, by decide +kernel⟩, fun z hz => absurd hz List.not_mem_nil⟩, Bool.and_eq_true_iff.mpr ⟨decide_eq_true c1, decide_eq_true c2⟩, by decide, wm 733 (by decide +kernel) rfl, by decide +kernel, Or.inl ⟨by decide +kernel, rfl⟩, by decide⟩
  next =>
  split at h
  next c =>
    obtain ⟨c1, c2, rfl⟩ := c
    simp only [Option.some.injEq, Prod.mk.injEq] at h
    obtain ⟨rfl, rfl⟩ := h
    exact ⟨[⟨0, 10, 13, 13⟩, ⟨0, 10, 17, 15⟩], [], ⟨0, 10, 21, 17⟩, rfl, List.forall_mem_cons.mpr ⟨Or.inr ⟨by decide, "java/lang/IndexOutOfBoundsException", wm 732 (by decide +kernel) rfl, by decide +kernel⟩, List.forall_mem_cons.mpr ⟨Or.inr ⟨by decide, "java/lang/IllegalArgumentException", wm 733 (by decide +kernel) rfl, by decide +kernel⟩, fun z hz => absurd hz List.not_mem_nil⟩⟩, Bool.and_eq_true_iff.mpr ⟨decide_eq_true c1, decide_eq_true c2⟩, by decide, wm 734 (by decide +kernel) rfl, by decide +kernel, Or.inl ⟨by decide +kernel, rfl⟩, by decide⟩
  next =>
  cases h
theorem owL_apart : MOKw mL_apart := ⟨okL_apart, rfl, rfl, [(0, 10, 13, 13), (0, 10, 17, 15), (0, 10, 21, 17)], wm 791 (by decide +kernel) rfl, hsL_apart⟩
theorem hsL_leftOf : HSt mL_leftOf [(0, 10, 13, 13), (0, 10, 17, 15), (0, 10, 21, 17)] := by
  intro pc e ph i h
  simp only [miH, mL_leftOf, hndF] at h
  split at h
  next c =>
    obtain ⟨c1, c2, rfl⟩ := c
    simp only [Option.some.injEq, Prod.mk.injEq] at h
    obtain ⟨rfl, rfl⟩ := h
    exact ⟨[], [⟨0, 10, 17, 15⟩, ⟨0, 10, 21, 17⟩], ⟨0, 10, 13, 13⟩, rfl, fun z hz => absurd hz List.not_mem_nil, Bool.and_eq_true_iff.mpr ⟨decide_eq_true c1, decide_eq_true c2⟩, by decide, wm 732 (by decide +kernel) rfl, by decide +kernel, Or.inl ⟨by decide +kernel, rfl⟩, by decide⟩
  next =>
  split at h
  next c =>
    obtain ⟨c1, c2, rfl⟩ := c
    simp only [Option.some.injEq, Prod.mk.injEq] at h
    obtain ⟨rfl, rfl⟩ := h
    exact ⟨[⟨0, 10, 13, 13⟩], [⟨0, 10, 21, 17⟩], ⟨0, 10, 17, 15⟩, rfl, List.forall_mem_cons.mpr ⟨Or.inr ⟨by decide, "java/lang/IndexOutOfBoundsException", wm 732 (by decide +kernel) rfl, by decide +kernel⟩, fun z hz => absurd hz List.not_mem_nil⟩, Bool.and_eq_true_iff.mpr ⟨decide_eq_true c1, decide_eq_true c2⟩, by decide, wm 733 (by decide +kernel) rfl, by decide +kernel, Or.inl ⟨by decide +kernel, rfl⟩, by decide⟩
  next =>
  split at h
  next c =>
    obtain ⟨c1, c2, rfl⟩ := c
    simp only [Option.some.injEq, Prod.mk.injEq] at h
    obtain ⟨rfl, rfl⟩ := h
    exact ⟨[⟨0, 10, 13, 13⟩, ⟨0, 10, 17, 15⟩], [], ⟨0, 10, 21, 17⟩, rfl, List.forall_mem_cons.mpr ⟨Or.inr ⟨by decide, "java/lang/IndexOutOfBoundsException", wm 732 (by decide +kernel) rfl, by decide +kernel⟩, List.forall_mem_cons.mpr ⟨Or.inr ⟨by decide, "java/lang/IllegalArgumentException", wm 733 (by decide +kernel) rfl, by decide +kernel⟩, fun z hz => absurd hz List.not_mem_nil⟩⟩, Bool.and_eq_true_iff.mpr ⟨decide_eq_true c1, decide_eq_true c2⟩, by decide, wm 734 (by decide +kernel) rfl, by decide +kernel, Or.inl ⟨by decide +kernel, rfl⟩, by decide⟩
  next =>
  cases h
theorem owL_leftOf : MOKw mL_leftOf := ⟨okL_leftOf, rfl, rfl, [(0, 10, 13, 13), (0, 10, 17, 15), (0, 10, 21, 17)], wm 798 (by decide +kernel) rfl, hsL_leftOf⟩
theorem hsL_nextTo : HSt mL_nextTo [(0, 10, 13, 13), (0, 10, 17, 15), (0, 10, 21, 17)] := by
  intro pc e ph i h
  simp only [miH, mL_nextTo, hndF] at h
  split at h
  next c =>
    obtain ⟨c1, c2, rfl⟩ := c
    simp only [Option.some.injEq, Prod.mk.injEq] at h
    obtain ⟨rfl, rfl⟩ := h
    exact ⟨[], [⟨0, 10, 17, 15⟩, ⟨0, 10, 21, 17⟩], ⟨0, 10, 13, 13⟩, rfl, fun z hz => absurd hz List.not_mem_nil, Bool.and_eq_true_iff.mpr ⟨decide_eq_true c1, decide_eq_true c2⟩, by decide, wm 732 (by decide +kernel) rfl, by decide +kernel, Or.inl ⟨by decide +kernel, rfl⟩, by decide⟩
  next =>
  split at h
  next c =>
    obtain ⟨c1, c2, rfl⟩ := c
    simp only [Option.some.injEq, Prod.mk.injEq] at h
    obtain ⟨rfl, rfl⟩ := h
    exact ⟨[⟨0, 10, 13, 13⟩], [⟨0, 10, 21, 17⟩], ⟨0, 10, 17, 15⟩, rfl, List.forall_mem_cons.mpr ⟨Or.inr ⟨by decide, "java/lang/IndexOutOfBoundsException", wm 732 (by decide +kernel) rfl, by decide +kernel⟩, fun z hz => absurd hz List.not_mem_nil⟩, Bool.and_eq_true_iff.mpr ⟨decide_eq_true c1, decide_eq_true c2⟩, by decide, wm 733 (by decide +kernel) rfl, by decide +kernel, Or.inl ⟨by decide +kernel, rfl⟩, by decide⟩
  next =>
  split at h
  next c =>
    obtain ⟨c1, c2, rfl⟩ := c
    simp only [Option.some.injEq, Prod.mk.injEq] at h
    obtain ⟨rfl, rfl⟩ := h
    exact ⟨[⟨0, 10, 13, 13⟩, ⟨0, 10, 17, 15⟩], [], ⟨0, 10, 21, 17⟩, rfl, List.forall_mem_cons.mpr ⟨Or.inr ⟨by decide, "java/lang/IndexOutOfBoundsException", wm 732 (by decide +kernel) rfl, by decide +kernel⟩, List.forall_mem_cons.mpr ⟨Or.inr ⟨by decide, "java/lang/IllegalArgumentException", wm 733 (by decide +kernel) rfl, by decide +kernel⟩, fun z hz => absurd hz List.not_mem_nil⟩⟩, Bool.and_eq_true_iff.mpr ⟨decide_eq_true c1, decide_eq_true c2⟩, by decide, wm 734 (by decide +kernel) rfl, by decide +kernel, Or.inl ⟨by decide +kernel, rfl⟩, by decide⟩
  next =>
  cases h
theorem owL_nextTo : MOKw mL_nextTo := ⟨okL_nextTo, rfl, rfl, [(0, 10, 13, 13), (0, 10, 17, 15), (0, 10, 21, 17)], wm 805 (by decide +kernel) rfl, hsL_nextTo⟩
theorem hsL_at : HSt mL_at [(0, 10, 13, 13), (0, 10, 17, 17)] := by
  intro pc e ph i h
  simp only [miH, mL_at, hndF] at h
  split at h
  next c =>
    obtain ⟨c1, c2, rfl⟩ := c
    simp only [Option.some.injEq, Prod.mk.injEq] at h
    obtain ⟨rfl, rfl⟩ := h
    exact ⟨[], [⟨0, 10, 17, 17⟩], ⟨0, 10, 13, 13⟩, rfl, fun z hz => absurd hz List.not_mem_nil, Bool.and_eq_true_iff.mpr ⟨decide_eq_true c1, decide_eq_true c2⟩, by decide, wm 732 (by decide +kernel) rfl, by decide +kernel, Or.inl ⟨by decide +kernel, rfl⟩, by decide⟩
  next =>
  split at h
  next c =>
    obtain ⟨c1, c2, rfl⟩ := c
    simp only [Option.some.injEq, Prod.mk.injEq] at h
    obtain ⟨rfl, rfl⟩ := h
    exact ⟨[⟨0, 10, 13, 13⟩], [], ⟨0, 10, 17, 17⟩, rfl, List.forall_mem_cons.mpr ⟨Or.inr ⟨by decide, "java/lang/IndexOutOfBoundsException", wm 732 (by decide +kernel) rfl, by decide +kernel⟩, fun z hz => absurd hz List.not_mem_nil⟩, Bool.and_eq_true_iff.mpr ⟨decide_eq_true c1, decide_eq_true c2⟩, by decide, wm 734 (by decide +kernel) rfl, by decide +kernel, Or.inl ⟨by decide +kernel, rfl⟩, by decide⟩
  next =>
  cases h
theorem owL_at : MOKw mL_at := ⟨okL_at, rfl, rfl, [(0, 10, 13, 13), (0, 10, 17, 17)], wm 812 (by decide +kernel) rfl, hsL_at⟩
theorem hsL_notAt : HSt mL_notAt [(0, 10, 13, 13), (0, 10, 17, 17)] := by
  intro pc e ph i h
  simp only [miH, mL_notAt, hndF] at h
  split at h
  next c =>
    obtain ⟨c1, c2, rfl⟩ := c
    simp only [Option.some.injEq, Prod.mk.injEq] at h
    obtain ⟨rfl, rfl⟩ := h
    exact ⟨[], [⟨0, 10, 17, 17⟩], ⟨0, 10, 13, 13⟩, rfl, fun z hz => absurd hz List.not_mem_nil, Bool.and_eq_true_iff.mpr ⟨decide_eq_true c1, decide_eq_true c2⟩, by decide, wm 732 (by decide +kernel) rfl, by decide +kernel, Or.inl ⟨by decide +kernel, rfl⟩, by decide⟩
  next =>
  split at h
  next c =>
    obtain ⟨c1, c2, rfl⟩ := c
    simp only [Option.some.injEq, Prod.mk.injEq] at h
    obtain ⟨rfl, rfl⟩ := h
    exact ⟨[⟨0, 10, 13, 13⟩], [], ⟨0, 10, 17, 17⟩, rfl, List.forall_mem_cons.mpr ⟨Or.inr ⟨by decide, "java/lang/IndexOutOfBoundsException", wm 732 (by decide +kernel) rfl, by decide +kernel⟩, fun z hz => absurd hz List.not_mem_nil⟩, Bool.and_eq_true_iff.mpr ⟨decide_eq_true c1, decide_eq_true c2⟩, by decide, wm 734 (by decide +kernel) rfl, by decide +kernel, Or.inl ⟨by decide +kernel, rfl⟩, by decide⟩
  next =>
  cases h
theorem owL_notAt : MOKw mL_notAt := ⟨okL_notAt, rfl, rfl, [(0, 10, 13, 13), (0, 10, 17, 17)], wm 823 (by decide +kernel) rfl, hsL_notAt⟩
theorem hsL_either : HSt mL_either [(0, 12, 15, 13), (0, 12, 19, 15), (0, 12, 23, 17)] := by
  intro pc e ph i h
  simp only [miH, mL_either, hndF] at h
  split at h
  next c =>
    obtain ⟨c1, c2, rfl⟩ := c
    simp only [Option.some.injEq, Prod.mk.injEq] at h
    obtain ⟨rfl, rfl⟩ := h
    exact ⟨[], [⟨0, 12, 19, 15⟩, ⟨0, 12, 23, 17⟩], ⟨0, 12, 15, 13⟩, rfl, fun z hz => absurd hz List.not_mem_nil, Bool.and_eq_true_iff.mpr ⟨decide_eq_true c1, decide_eq_true c2⟩, by decide, wm 732 (by decide +kernel) rfl, by decide +kernel, Or.inl ⟨by decide +kernel, rfl⟩, by decide⟩
  next =>
  split at h
  next c =>
    obtain ⟨c1, c2, rfl⟩ := c
    simp only [Option.some.injEq, Prod.mk.injEq] at h
    obtain ⟨rfl, rfl⟩ := h
    exact ⟨[⟨0, 12, 15, 13⟩], [⟨0, 12, 23, 17⟩], ⟨0, 12, 19, 15⟩, rfl, List.forall_mem_cons.mpr ⟨Or.inr ⟨by decide, "java/lang/IndexOutOfBoundsException", wm 732 (by decide +kernel) rfl, by decide +kernel⟩, fun z hz => absurd hz List.not_mem_nil⟩, Bool.and_eq_true_iff.mpr ⟨decide_eq_true c1, decide_eq_true c2⟩, by decide, wm 733 (by decide +kernel) rfl, by decide +kernel, Or.inl ⟨by decide +kernel, rfl⟩, by decide⟩
  next =>
  split at h
  next c =>
    obtain ⟨c1, c2, rfl⟩ := c
    simp only [Option.some.injEq, Prod.mk.injEq] at h
    obtain ⟨rfl, rfl⟩ := h
    exact ⟨[⟨0, 12, 15, 13⟩, ⟨0, 12, 19, 15⟩], [], ⟨0, 12, 23, 17⟩, rfl, List.forall_mem_cons.mpr ⟨Or.inr ⟨by decide, "java/lang/IndexOutOfBoundsException", wm 732 (by decide +kernel) rfl, by decide +kernel⟩, List.forall_mem_cons.mpr ⟨Or.inr ⟨by decide, "java/lang/IllegalArgumentException", wm 733 (by decide +kernel) rfl, by decide +kernel⟩, fun z hz => absurd hz List.not_mem_nil⟩⟩, Bool.and_eq_true_iff.mpr ⟨decide_eq_true c1, decide_eq_true c2⟩, by decide, wm 734 (by decide +kernel) rfl, by decide +kernel, Or.inl ⟨by decide +kernel, rfl⟩, by decide⟩
  next =>
  cases h
theorem owL_either : MOKw mL_either := ⟨okL_either, rfl, rfl, [(0, 12, 15, 13), (0, 12, 19, 15), (0, 12, 23, 17)], wm 830 (by decide +kernel) rfl, hsL_either⟩
theorem hsL_withdraw : HSt mL_withdraw [(0, 9, 12, 13)] := by
  intro pc e ph i h
  simp only [miH, mL_withdraw, hndF] at h
  split at h
  next c =>
    obtain ⟨c1, c2, rfl⟩ := c
    simp only [Option.some.injEq, Prod.mk.injEq] at h
    obtain ⟨rfl, rfl⟩ := h
    exact ⟨[], [], ⟨0, 9, 12, 13⟩, rfl, fun z hz => absurd hz List.not_mem_nil, Bool.and_eq_true_iff.mpr ⟨decide_eq_true c1, decide_eq_true c2⟩, by decide, wm 732 (by decide +kernel) rfl, by decide +kernel, Or.inr ⟨3, by decide +kernel, rfl, rfl⟩, by decide⟩
  next =>
  cases h
theorem owL_withdraw : MOKw mL_withdraw := ⟨okL_withdraw, rfl, rfl, [(0, 9, 12, 13)], wm 837 (by decide +kernel) rfl, hsL_withdraw⟩
theorem hsL_cross : HSt mL_cross [(0, 10, 13, 13), (0, 10, 17, 17)] := by
  intro pc e ph i h
  simp only [miH, mL_cross, hndF] at h
  split at h
  next c =>
    obtain ⟨c1, c2, rfl⟩ := c
    simp only [Option.some.injEq, Prod.mk.injEq] at h
    obtain ⟨rfl, rfl⟩ := h
    exact ⟨[], [⟨0, 10, 17, 17⟩], ⟨0, 10, 13, 13⟩, rfl, fun z hz => absurd hz List.not_mem_nil, Bool.and_eq_true_iff.mpr ⟨decide_eq_true c1, decide_eq_true c2⟩, by decide, wm 732 (by decide +kernel) rfl, by decide +kernel, Or.inl ⟨by decide +kernel, rfl⟩, by decide⟩
  next =>
  split at h
  next c =>
    obtain ⟨c1, c2, rfl⟩ := c
    simp only [Option.some.injEq, Prod.mk.injEq] at h
    obtain ⟨rfl, rfl⟩ := h
    exact ⟨[⟨0, 10, 13, 13⟩], [], ⟨0, 10, 17, 17⟩, rfl, List.forall_mem_cons.mpr ⟨Or.inr ⟨by decide, "java/lang/IndexOutOfBoundsException", wm 732 (by decide +kernel) rfl, by decide +kernel⟩, fun z hz => absurd hz List.not_mem_nil⟩, Bool.and_eq_true_iff.mpr ⟨decide_eq_true c1, decide_eq_true c2⟩, by decide, wm 734 (by decide +kernel) rfl, by decide +kernel, Or.inl ⟨by decide +kernel, rfl⟩, by decide⟩
  next =>
  cases h
theorem owL_cross : MOKw mL_cross := ⟨okL_cross, rfl, rfl, [(0, 10, 13, 13), (0, 10, 17, 17)], wm 848 (by decide +kernel) rfl, hsL_cross⟩
theorem hsL_rubOut : HSt mL_rubOut [(0, 10, 13, 13), (0, 10, 17, 17)] := by
  intro pc e ph i h
  simp only [miH, mL_rubOut, hndF] at h
  split at h
  next c =>
    obtain ⟨c1, c2, rfl⟩ := c
    simp only [Option.some.injEq, Prod.mk.injEq] at h
    obtain ⟨rfl, rfl⟩ := h
    exact ⟨[], [⟨0, 10, 17, 17⟩], ⟨0, 10, 13, 13⟩, rfl, fun z hz => absurd hz List.not_mem_nil, Bool.and_eq_true_iff.mpr ⟨decide_eq_true c1, decide_eq_true c2⟩, by decide, wm 732 (by decide +kernel) rfl, by decide +kernel, Or.inl ⟨by decide +kernel, rfl⟩, by decide⟩
  next =>
  split at h
  next c =>
    obtain ⟨c1, c2, rfl⟩ := c
    simp only [Option.some.injEq, Prod.mk.injEq] at h
    obtain ⟨rfl, rfl⟩ := h
    exact ⟨[⟨0, 10, 13, 13⟩], [], ⟨0, 10, 17, 17⟩, rfl, List.forall_mem_cons.mpr ⟨Or.inr ⟨by decide, "java/lang/IndexOutOfBoundsException", wm 732 (by decide +kernel) rfl, by decide +kernel⟩, fun z hz => absurd hz List.not_mem_nil⟩, Bool.and_eq_true_iff.mpr ⟨decide_eq_true c1, decide_eq_true c2⟩, by decide, wm 734 (by decide +kernel) rfl, by decide +kernel, Or.inl ⟨by decide +kernel, rfl⟩, by decide⟩
  next =>
  cases h
theorem owL_rubOut : MOKw mL_rubOut := ⟨okL_rubOut, rfl, rfl, [(0, 10, 13, 13), (0, 10, 17, 17)], wm 861 (by decide +kernel) rfl, hsL_rubOut⟩
theorem hsL_settle : HSt mL_settle [(0, 8, 11, 17)] := by
  intro pc e ph i h
  simp only [miH, mL_settle, hndF] at h
  split at h
  next c =>
    obtain ⟨c1, c2, rfl⟩ := c
    simp only [Option.some.injEq, Prod.mk.injEq] at h
    obtain ⟨rfl, rfl⟩ := h
    exact ⟨[], [], ⟨0, 8, 11, 17⟩, rfl, fun z hz => absurd hz List.not_mem_nil, Bool.and_eq_true_iff.mpr ⟨decide_eq_true c1, decide_eq_true c2⟩, by decide, wm 734 (by decide +kernel) rfl, by decide +kernel, Or.inr ⟨2, by decide +kernel, rfl, rfl⟩, by decide⟩
  next =>
  cases h
theorem owL_settle : MOKw mL_settle := ⟨okL_settle, rfl, rfl, [(0, 8, 11, 17)], wm 869 (by decide +kernel) rfl, hsL_settle⟩
theorem hsL_append : HSt mL_append [(0, 9, 12, 15), (0, 9, 15, 17)] := by
  intro pc e ph i h
  simp only [miH, mL_append, hndF] at h
  split at h
  next c =>
    obtain ⟨c1, c2, rfl⟩ := c
    simp only [Option.some.injEq, Prod.mk.injEq] at h
    obtain ⟨rfl, rfl⟩ := h
    exact ⟨[], [⟨0, 9, 15, 17⟩], ⟨0, 9, 12, 15⟩, rfl, fun z hz => absurd hz List.not_mem_nil, Bool.and_eq_true_iff.mpr ⟨decide_eq_true c1, decide_eq_true c2⟩, by decide, wm 733 (by decide +kernel) rfl, by decide +kernel, Or.inr ⟨3, by decide +kernel, rfl, rfl⟩, by decide⟩
  next =>
  split at h
  next c =>
    obtain ⟨c1, c2, rfl⟩ := c
    simp only [Option.some.injEq, Prod.mk.injEq] at h
    obtain ⟨rfl, rfl⟩ := h
    exact ⟨[⟨0, 9, 12, 15⟩], [], ⟨0, 9, 15, 17⟩, rfl, List.forall_mem_cons.mpr ⟨Or.inr ⟨by decide, "java/lang/IllegalArgumentException", wm 733 (by decide +kernel) rfl, by decide +kernel⟩, fun z hz => absurd hz List.not_mem_nil⟩, Bool.and_eq_true_iff.mpr ⟨decide_eq_true c1, decide_eq_true c2⟩, by decide, wm 734 (by decide +kernel) rfl, by decide +kernel, Or.inr ⟨3, by decide +kernel, rfl, rfl⟩, by decide⟩
  next =>
  cases h
theorem owL_append : MOKw mL_append := ⟨okL_append, rfl, rfl, [(0, 9, 12, 15), (0, 9, 15, 17)], wm 878 (by decide +kernel) rfl, hsL_append⟩
theorem hsL_take : HSt mL_take [(0, 8, 11, 15)] := by
  intro pc e ph i h
  simp only [miH, mL_take, hndF] at h
  split at h
  next c =>
    obtain ⟨c1, c2, rfl⟩ := c
    simp only [Option.some.injEq, Prod.mk.injEq] at h
    obtain ⟨rfl, rfl⟩ := h
    exact ⟨[], [], ⟨0, 8, 11, 15⟩, rfl, fun z hz => absurd hz List.not_mem_nil, Bool.and_eq_true_iff.mpr ⟨decide_eq_true c1, decide_eq_true c2⟩, by decide, wm 733 (by decide +kernel) rfl, by decide +kernel, Or.inr ⟨2, by decide +kernel, rfl, rfl⟩, by decide⟩
  next =>
  cases h
theorem owL_take : MOKw mL_take := ⟨okL_take, rfl, rfl, [(0, 8, 11, 15)], wm 887 (by decide +kernel) rfl, hsL_take⟩
theorem hsL_goBack : HSt mL_goBack [(0, 8, 11, 17)] := by
  intro pc e ph i h
  simp only [miH, mL_goBack, hndF] at h
  split at h
  next c =>
    obtain ⟨c1, c2, rfl⟩ := c
    simp only [Option.some.injEq, Prod.mk.injEq] at h
    obtain ⟨rfl, rfl⟩ := h
    exact ⟨[], [], ⟨0, 8, 11, 17⟩, rfl, fun z hz => absurd hz List.not_mem_nil, Bool.and_eq_true_iff.mpr ⟨decide_eq_true c1, decide_eq_true c2⟩, by decide, wm 734 (by decide +kernel) rfl, by decide +kernel, Or.inr ⟨2, by decide +kernel, rfl, rfl⟩, by decide⟩
  next =>
  cases h
theorem owL_goBack : MOKw mL_goBack := ⟨okL_goBack, rfl, rfl, [(0, 8, 11, 17)], wm 919 (by decide +kernel) rfl, hsL_goBack⟩
theorem hsL_undo : HSt mL_undo [(0, 8, 11, 17)] := by
  intro pc e ph i h
  simp only [miH, mL_undo, hndF] at h
  split at h
  next c =>
    obtain ⟨c1, c2, rfl⟩ := c
    simp only [Option.some.injEq, Prod.mk.injEq] at h
    obtain ⟨rfl, rfl⟩ := h
    exact ⟨[], [], ⟨0, 8, 11, 17⟩, rfl, fun z hz => absurd hz List.not_mem_nil, Bool.and_eq_true_iff.mpr ⟨decide_eq_true c1, decide_eq_true c2⟩, by decide, wm 734 (by decide +kernel) rfl, by decide +kernel, Or.inr ⟨2, by decide +kernel, rfl, rfl⟩, by decide⟩
  next =>
  cases h
theorem owL_undo : MOKw mL_undo := ⟨okL_undo, rfl, rfl, [(0, 8, 11, 17)], wm 927 (by decide +kernel) rfl, hsL_undo⟩
theorem hsL_sortOf : HSt mL_sortOf [(0, 9, 12, 13)] := by
  intro pc e ph i h
  simp only [miH, mL_sortOf, hndF] at h
  split at h
  next c =>
    obtain ⟨c1, c2, rfl⟩ := c
    simp only [Option.some.injEq, Prod.mk.injEq] at h
    obtain ⟨rfl, rfl⟩ := h
    exact ⟨[], [], ⟨0, 9, 12, 13⟩, rfl, fun z hz => absurd hz List.not_mem_nil, Bool.and_eq_true_iff.mpr ⟨decide_eq_true c1, decide_eq_true c2⟩, by decide, wm 732 (by decide +kernel) rfl, by decide +kernel, Or.inr ⟨3, by decide +kernel, rfl, rfl⟩, by decide⟩
  next =>
  cases h
theorem owL_sortOf : MOKw mL_sortOf := ⟨okL_sortOf, rfl, rfl, [(0, 9, 12, 13)], wm 935 (by decide +kernel) rfl, hsL_sortOf⟩
theorem hsL_itemOf : HSt mL_itemOf [(0, 10, 13, 13)] := by
  intro pc e ph i h
  simp only [miH, mL_itemOf, hndF] at h
  split at h
  next c =>
    obtain ⟨c1, c2, rfl⟩ := c
    simp only [Option.some.injEq, Prod.mk.injEq] at h
    obtain ⟨rfl, rfl⟩ := h
    exact ⟨[], [], ⟨0, 10, 13, 13⟩, rfl, fun z hz => absurd hz List.not_mem_nil, Bool.and_eq_true_iff.mpr ⟨decide_eq_true c1, decide_eq_true c2⟩, by decide, wm 732 (by decide +kernel) rfl, by decide +kernel, Or.inl ⟨by decide +kernel, rfl⟩, by decide⟩
  next =>
  cases h
theorem owL_itemOf : MOKw mL_itemOf := ⟨okL_itemOf, rfl, rfl, [(0, 10, 13, 13)], wm 939 (by decide +kernel) rfl, hsL_itemOf⟩
theorem hsL_placeOf : HSt mL_placeOf [(0, 9, 12, 13)] := by
  intro pc e ph i h
  simp only [miH, mL_placeOf, hndF] at h
  split at h
  next c =>
    obtain ⟨c1, c2, rfl⟩ := c
    simp only [Option.some.injEq, Prod.mk.injEq] at h
    obtain ⟨rfl, rfl⟩ := h
    exact ⟨[], [], ⟨0, 9, 12, 13⟩, rfl, fun z hz => absurd hz List.not_mem_nil, Bool.and_eq_true_iff.mpr ⟨decide_eq_true c1, decide_eq_true c2⟩, by decide, wm 732 (by decide +kernel) rfl, by decide +kernel, Or.inr ⟨3, by decide +kernel, rfl, rfl⟩, by decide⟩
  next =>
  cases h
theorem owL_placeOf : MOKw mL_placeOf := ⟨okL_placeOf, rfl, rfl, [(0, 9, 12, 13)], wm 943 (by decide +kernel) rfl, hsL_placeOf⟩
theorem hsL_isCrossed : HSt mL_isCrossed [(0, 17, 20, 13)] := by
  intro pc e ph i h
  simp only [miH, mL_isCrossed, hndF] at h
  split at h
  next c =>
    obtain ⟨c1, c2, rfl⟩ := c
    simp only [Option.some.injEq, Prod.mk.injEq] at h
    obtain ⟨rfl, rfl⟩ := h
    exact ⟨[], [], ⟨0, 17, 20, 13⟩, rfl, fun z hz => absurd hz List.not_mem_nil, Bool.and_eq_true_iff.mpr ⟨decide_eq_true c1, decide_eq_true c2⟩, by decide, wm 732 (by decide +kernel) rfl, by decide +kernel, Or.inl ⟨by decide +kernel, rfl⟩, by decide⟩
  next =>
  cases h
theorem owL_isCrossed : MOKw mL_isCrossed := ⟨okL_isCrossed, rfl, rfl, [(0, 17, 20, 13)], wm 947 (by decide +kernel) rfl, hsL_isCrossed⟩
theorem hsL_left : HSt mL_left [(0, 9, 12, 13)] := by
  intro pc e ph i h
  simp only [miH, mL_left, hndF] at h
  split at h
  next c =>
    obtain ⟨c1, c2, rfl⟩ := c
    simp only [Option.some.injEq, Prod.mk.injEq] at h
    obtain ⟨rfl, rfl⟩ := h
    exact ⟨[], [], ⟨0, 9, 12, 13⟩, rfl, fun z hz => absurd hz List.not_mem_nil, Bool.and_eq_true_iff.mpr ⟨decide_eq_true c1, decide_eq_true c2⟩, by decide, wm 732 (by decide +kernel) rfl, by decide +kernel, Or.inr ⟨3, by decide +kernel, rfl, rfl⟩, by decide⟩
  next =>
  cases h
theorem owL_left : MOKw mL_left := ⟨okL_left, rfl, rfl, [(0, 9, 12, 13)], wm 951 (by decide +kernel) rfl, hsL_left⟩
theorem hsL_leftByTurns : HSt mL_leftByTurns [(0, 9, 12, 13)] := by
  intro pc e ph i h
  simp only [miH, mL_leftByTurns, hndF] at h
  split at h
  next c =>
    obtain ⟨c1, c2, rfl⟩ := c
    simp only [Option.some.injEq, Prod.mk.injEq] at h
    obtain ⟨rfl, rfl⟩ := h
    exact ⟨[], [], ⟨0, 9, 12, 13⟩, rfl, fun z hz => absurd hz List.not_mem_nil, Bool.and_eq_true_iff.mpr ⟨decide_eq_true c1, decide_eq_true c2⟩, by decide, wm 732 (by decide +kernel) rfl, by decide +kernel, Or.inr ⟨3, by decide +kernel, rfl, rfl⟩, by decide⟩
  next =>
  cases h
theorem owL_leftByTurns : MOKw mL_leftByTurns := ⟨okL_leftByTurns, rfl, rfl, [(0, 9, 12, 13)], wm 958 (by decide +kernel) rfl, hsL_leftByTurns⟩
theorem hsL_fixedAt : HSt mL_fixedAt [(0, 9, 12, 13)] := by
  intro pc e ph i h
  simp only [miH, mL_fixedAt, hndF] at h
  split at h
  next c =>
    obtain ⟨c1, c2, rfl⟩ := c
    simp only [Option.some.injEq, Prod.mk.injEq] at h
    obtain ⟨rfl, rfl⟩ := h
    exact ⟨[], [], ⟨0, 9, 12, 13⟩, rfl, fun z hz => absurd hz List.not_mem_nil, Bool.and_eq_true_iff.mpr ⟨decide_eq_true c1, decide_eq_true c2⟩, by decide, wm 732 (by decide +kernel) rfl, by decide +kernel, Or.inr ⟨3, by decide +kernel, rfl, rfl⟩, by decide⟩
  next =>
  cases h
theorem owL_fixedAt : MOKw mL_fixedAt := ⟨okL_fixedAt, rfl, rfl, [(0, 9, 12, 13)], wm 965 (by decide +kernel) rfl, hsL_fixedAt⟩
theorem hsL_placeIn : HSt mL_placeIn [(0, 10, 13, 13)] := by
  intro pc e ph i h
  simp only [miH, mL_placeIn, hndF] at h
  split at h
  next c =>
    obtain ⟨c1, c2, rfl⟩ := c
    simp only [Option.some.injEq, Prod.mk.injEq] at h
    obtain ⟨rfl, rfl⟩ := h
    exact ⟨[], [], ⟨0, 10, 13, 13⟩, rfl, fun z hz => absurd hz List.not_mem_nil, Bool.and_eq_true_iff.mpr ⟨decide_eq_true c1, decide_eq_true c2⟩, by decide, wm 732 (by decide +kernel) rfl, by decide +kernel, Or.inl ⟨by decide +kernel, rfl⟩, by decide⟩
  next =>
  cases h
theorem owL_placeIn : MOKw mL_placeIn := ⟨okL_placeIn, rfl, rfl, [(0, 10, 13, 13)], wm 972 (by decide +kernel) rfl, hsL_placeIn⟩
theorem hsL_trulyLeft : HSt mL_trulyLeft [(0, 9, 12, 13)] := by
  intro pc e ph i h
  simp only [miH, mL_trulyLeft, hndF] at h
  split at h
  next c =>
    obtain ⟨c1, c2, rfl⟩ := c
    simp only [Option.some.injEq, Prod.mk.injEq] at h
    obtain ⟨rfl, rfl⟩ := h
    exact ⟨[], [], ⟨0, 9, 12, 13⟩, rfl, fun z hz => absurd hz List.not_mem_nil, Bool.and_eq_true_iff.mpr ⟨decide_eq_true c1, decide_eq_true c2⟩, by decide, wm 732 (by decide +kernel) rfl, by decide +kernel, Or.inr ⟨3, by decide +kernel, rfl, rfl⟩, by decide⟩
  next =>
  cases h
theorem owL_trulyLeft : MOKw mL_trulyLeft := ⟨okL_trulyLeft, rfl, rfl, [(0, 9, 12, 13)], wm 980 (by decide +kernel) rfl, hsL_trulyLeft⟩
theorem hsL_isSpare : HSt mL_isSpare [(0, 16, 19, 13)] := by
  intro pc e ph i h
  simp only [miH, mL_isSpare, hndF] at h
  split at h
  next c =>
    obtain ⟨c1, c2, rfl⟩ := c
    simp only [Option.some.injEq, Prod.mk.injEq] at h
    obtain ⟨rfl, rfl⟩ := h
    exact ⟨[], [], ⟨0, 16, 19, 13⟩, rfl, fun z hz => absurd hz List.not_mem_nil, Bool.and_eq_true_iff.mpr ⟨decide_eq_true c1, decide_eq_true c2⟩, by decide, wm 732 (by decide +kernel) rfl, by decide +kernel, Or.inr ⟨3, by decide +kernel, rfl, rfl⟩, by decide⟩
  next =>
  cases h
theorem owL_isSpare : MOKw mL_isSpare := ⟨okL_isSpare, rfl, rfl, [(0, 16, 19, 13)], wm 987 (by decide +kernel) rfl, hsL_isSpare⟩
theorem hsL_barredBy : HSt mL_barredBy [(0, 9, 12, 13)] := by
  intro pc e ph i h
  simp only [miH, mL_barredBy, hndF] at h
  split at h
  next c =>
    obtain ⟨c1, c2, rfl⟩ := c
    simp only [Option.some.injEq, Prod.mk.injEq] at h
    obtain ⟨rfl, rfl⟩ := h
    exact ⟨[], [], ⟨0, 9, 12, 13⟩, rfl, fun z hz => absurd hz List.not_mem_nil, Bool.and_eq_true_iff.mpr ⟨decide_eq_true c1, decide_eq_true c2⟩, by decide, wm 732 (by decide +kernel) rfl, by decide +kernel, Or.inr ⟨3, by decide +kernel, rfl, rfl⟩, by decide⟩
  next =>
  cases h
theorem owL_barredBy : MOKw mL_barredBy := ⟨okL_barredBy, rfl, rfl, [(0, 9, 12, 13)], wm 991 (by decide +kernel) rfl, hsL_barredBy⟩
theorem cpK_all : ∀ (k : Nat) r, cpMs[k]? = some r → ∀ y ∈ r, MOKc y.2 ∨ MOKw y.2
  | 0, r, h => by cases h; exact List.forall_mem_cons.mpr ⟨Or.inl ocX0_item, List.forall_mem_cons.mpr ⟨Or.inl ocX1_placesOf, List.forall_mem_cons.mpr ⟨Or.inl ocX0_sort, List.forall_mem_cons.mpr ⟨Or.inl ocX0_place, List.forall_mem_cons.mpr ⟨Or.inl ocX0_choices, List.forall_mem_cons.mpr ⟨Or.inl ocX0_elsewhere, List.forall_mem_cons.mpr ⟨Or.inl ocX0_eitherChoices, fun _ h => absurd h List.not_mem_nil⟩⟩⟩⟩⟩⟩⟩
  | 1, r, h => by cases h; exact List.forall_mem_cons.mpr ⟨Or.inl ocX1_spot, List.forall_mem_cons.mpr ⟨Or.inl ocX1_placesOf, List.forall_mem_cons.mpr ⟨Or.inl ocX1_itemsWithOne, List.forall_mem_cons.mpr ⟨Or.inl ocJ13_bitCount_95d88, List.forall_mem_cons.mpr ⟨Or.inl ocX1_hasBit, List.forall_mem_cons.mpr ⟨Or.inl ocX1_itemsWithMore, List.forall_mem_cons.mpr ⟨Or.inl ocX1_leastBit, List.forall_mem_cons.mpr ⟨Or.inl ocX1_itemsWithSome, List.forall_mem_cons.mpr ⟨Or.inl ocX1_ofOthers, fun _ h => absurd h List.not_mem_nil⟩⟩⟩⟩⟩⟩⟩⟩⟩
  | 2, r, h => by cases h; exact List.forall_mem_cons.mpr ⟨Or.inl ocX1_takenByAnother, List.forall_mem_cons.mpr ⟨Or.inl ocX1_neededElsewhere, List.forall_mem_cons.mpr ⟨Or.inl ocX0_ruledOut, List.forall_mem_cons.mpr ⟨Or.inl ocX2_leftAtFirst, List.forall_mem_cons.mpr ⟨Or.inl ocX2_ruledOut, fun _ h => absurd h List.not_mem_nil⟩⟩⟩⟩⟩
  | 3, r, h => by cases h; exact List.forall_mem_cons.mpr ⟨Or.inl ocX1_placesOf, List.forall_mem_cons.mpr ⟨Or.inl ocJ6_bitCount_0f7a4, List.forall_mem_cons.mpr ⟨Or.inl ocJ13_bitCount_95d88, List.forall_mem_cons.mpr ⟨Or.inl ocX0_holds, fun _ h => absurd h List.not_mem_nil⟩⟩⟩⟩
  | 4, r, h => by cases h; exact List.forall_mem_cons.mpr ⟨Or.inl ocX4_arrangement, List.forall_mem_cons.mpr ⟨Or.inl ocX4_count, List.forall_mem_cons.mpr ⟨Or.inl ocX0_holds, fun _ h => absurd h List.not_mem_nil⟩⟩⟩
  | 5, r, h => by cases h; exact List.forall_mem_cons.mpr ⟨Or.inl ocX5_fits, List.forall_mem_cons.mpr ⟨Or.inl ocX5_partLength, List.forall_mem_cons.mpr ⟨Or.inl ocX5_errorIndex, List.forall_mem_cons.mpr ⟨Or.inl ocX1_spot, List.forall_mem_cons.mpr ⟨Or.inl ocX5_signAt, List.forall_mem_cons.mpr ⟨Or.inl ocX0_of, List.forall_mem_cons.mpr ⟨Or.inl ocX5_isItem, List.forall_mem_cons.mpr ⟨Or.inl ocX5_isCrossAt, List.forall_mem_cons.mpr ⟨Or.inl ocX5_endsWithPlace, List.forall_mem_cons.mpr ⟨Or.inl ocJ0_indexOf_0f7a4, fun _ h => absurd h List.not_mem_nil⟩⟩⟩⟩⟩⟩⟩⟩⟩⟩
  | 6, r, h => by cases h; exact List.forall_mem_cons.mpr ⟨Or.inl ocX6_addPair, List.forall_mem_cons.mpr ⟨Or.inl ocX6_addPlaced, List.forall_mem_cons.mpr ⟨Or.inl ocX6_requireItem, List.forall_mem_cons.mpr ⟨Or.inl ocX6_requireUnlike, List.forall_mem_cons.mpr ⟨Or.inl ocX0_of, List.forall_mem_cons.mpr ⟨Or.inl ocX6_addClue, List.forall_mem_cons.mpr ⟨Or.inl ocX6_requireClue, List.forall_mem_cons.mpr ⟨Or.inl ocX6_save, List.forall_mem_cons.mpr ⟨Or.inl ocX3_dropClue, List.forall_mem_cons.mpr ⟨Or.inl ocX6_requirePlace, List.forall_mem_cons.mpr ⟨Or.inl ocX1_has, List.forall_mem_cons.mpr ⟨Or.inl ocX1_spot, List.forall_mem_cons.mpr ⟨Or.inl ocX3_makeCrosses, List.forall_mem_cons.mpr ⟨Or.inl ocX3_crossesOf, List.forall_mem_cons.mpr ⟨Or.inl ocX3_rubCrosses, List.forall_mem_cons.mpr ⟨Or.inl ocX2_run, List.forall_mem_cons.mpr ⟨Or.inl ocX1_isContradictory, List.forall_mem_cons.mpr ⟨Or.inl ocX5_errorIndex, List.forall_mem_cons.mpr ⟨Or.inl ocX5_isComplete, List.forall_mem_cons.mpr ⟨Or.inl ocX5_beginsPart, List.forall_mem_cons.mpr ⟨Or.inl ocX6_doPart, List.forall_mem_cons.mpr ⟨Or.inl ocX3_copyFrom, List.forall_mem_cons.mpr ⟨Or.inl ocX0_sort, List.forall_mem_cons.mpr ⟨Or.inl ocX0_item, List.forall_mem_cons.mpr ⟨Or.inl ocX6_orNone, List.forall_mem_cons.mpr ⟨Or.inl ocX0_place, List.forall_mem_cons.mpr ⟨Or.inl ocX6_leftAtEnd, List.forall_mem_cons.mpr ⟨Or.inl ocX1_placesOf, List.forall_mem_cons.mpr ⟨Or.inl ocX6_leftAtEndByTurns, List.forall_mem_cons.mpr ⟨Or.inl ocX1_onlyPlaceOf, List.forall_mem_cons.mpr ⟨Or.inl ocX1_countWithOne, List.forall_mem_cons.mpr ⟨Or.inl ocX2_leftAtFirst, List.forall_mem_cons.mpr ⟨Or.inl ocX2_ruledOut, List.forall_mem_cons.mpr ⟨Or.inl ocX1_leastBit, List.forall_mem_cons.mpr ⟨Or.inl ocX0_ruledOut, List.forall_mem_cons.mpr ⟨Or.inl ocX1_hasBit, List.forall_mem_cons.mpr ⟨Or.inl ocX1_takenByAnother, List.forall_mem_cons.mpr ⟨Or.inl ocX4_lookAt, List.forall_mem_cons.mpr ⟨Or.inl ocX6_countBySearch, List.forall_mem_cons.mpr ⟨Or.inl ocX6_solutionAt, List.forall_mem_cons.mpr ⟨Or.inl ocX4_arrangement, List.forall_mem_cons.mpr ⟨Or.inl ocX0_holds, List.forall_mem_cons.mpr ⟨Or.inl ocX6_shareOf, List.forall_mem_cons.mpr ⟨Or.inl ocX6_meanOf, List.forall_mem_cons.mpr ⟨Or.inl ocX6_mix, List.forall_mem_cons.mpr ⟨Or.inl ocX6_mixClue, List.forall_mem_cons.mpr ⟨Or.inl ocX6_mixCrosses, List.forall_mem_cons.mpr ⟨Or.inl ocX6_crosses, List.forall_mem_cons.mpr ⟨Or.inl ocX6_crossesByAccount, List.forall_mem_cons.mpr ⟨Or.inl ocX6_made, List.forall_mem_cons.mpr ⟨Or.inl ocX6_rounds, List.forall_mem_cons.mpr ⟨Or.inl ocX6_isContradiction, List.forall_mem_cons.mpr ⟨Or.inl ocX6_mixFlag, List.forall_mem_cons.mpr ⟨Or.inl ocX6_hint, List.forall_mem_cons.mpr ⟨Or.inl ocX6_hintBy, List.forall_mem_cons.mpr ⟨Or.inl ocX6_solutions, List.forall_mem_cons.mpr ⟨Or.inl ocX6_solutionsBySearch, List.forall_mem_cons.mpr ⟨Or.inl ocX6_culprit, List.forall_mem_cons.mpr ⟨Or.inl ocX6_bitsOf, List.forall_mem_cons.mpr ⟨Or.inl ocX6_mixBuffer, List.forall_mem_cons.mpr ⟨Or.inl ocX3_addClue, List.forall_mem_cons.mpr ⟨Or.inl ocX6_dropOldest, List.forall_mem_cons.mpr ⟨Or.inl ocX5_isCrossAt, List.forall_mem_cons.mpr ⟨Or.inl ocX5_crossAt, List.forall_mem_cons.mpr ⟨Or.inl ocX5_clueAt, List.forall_mem_cons.mpr ⟨Or.inl ocX2_byTurns, List.forall_mem_cons.mpr ⟨Or.inl ocJ13_bitCount_95d88, List.forall_mem_cons.mpr ⟨Or.inl ocX3_allows, List.forall_mem_cons.mpr ⟨Or.inl ocX1_firstWithMore, List.forall_mem_cons.mpr ⟨Or.inl ocX1_withOnly, List.forall_mem_cons.mpr ⟨Or.inl ocX6_sortOf, List.forall_mem_cons.mpr ⟨Or.inl ocX6_itemOf, List.forall_mem_cons.mpr ⟨Or.inl ocX6_placeOf, List.forall_mem_cons.mpr ⟨Or.inl ocX6_isSpare, List.forall_mem_cons.mpr ⟨Or.inl ocX6_barredBy, List.forall_mem_cons.mpr ⟨Or.inl ocX6_isCrossed, fun _ h => absurd h List.not_mem_nil⟩⟩⟩⟩⟩⟩⟩⟩⟩⟩⟩⟩⟩⟩⟩⟩⟩⟩⟩⟩⟩⟩⟩⟩⟩⟩⟩⟩⟩⟩⟩⟩⟩⟩⟩⟩⟩⟩⟩⟩⟩⟩⟩⟩⟩⟩⟩⟩⟩⟩⟩⟩⟩⟩⟩⟩⟩⟩⟩⟩⟩⟩⟩⟩⟩⟩⟩⟩⟩⟩⟩⟩⟩⟩⟩⟩
  | 7, r, h => by cases h; exact List.forall_mem_cons.mpr ⟨Or.inl ocX7_in, List.forall_mem_cons.mpr ⟨Or.inl ocX7_sort, List.forall_mem_cons.mpr ⟨Or.inl ocX7_isItem, List.forall_mem_cons.mpr ⟨Or.inl ocX7_throwing, List.forall_mem_cons.mpr ⟨Or.inl ocX7_save, List.forall_mem_cons.mpr ⟨Or.inl ocX7_adds, List.forall_mem_cons.mpr ⟨Or.inl ocX7_pair, List.forall_mem_cons.mpr ⟨Or.inl ocX7_isPlace, List.forall_mem_cons.mpr ⟨Or.inl ocX7_placed, List.forall_mem_cons.mpr ⟨Or.inl ocX7_isClue, List.forall_mem_cons.mpr ⟨Or.inl ocX7_bits, List.forall_mem_cons.mpr ⟨Or.inl ocX7_crossed, List.forall_mem_cons.mpr ⟨Or.inl ocX7_crossesOut, List.forall_mem_cons.mpr ⟨Or.inl ocX7_allCrosses, List.forall_mem_cons.mpr ⟨Or.inl ocX7_propagates, List.forall_mem_cons.mpr ⟨Or.inl ocX7_fits, List.forall_mem_cons.mpr ⟨Or.inl ocX7_item, List.forall_mem_cons.mpr ⟨Or.inl ocX7_isOf, List.forall_mem_cons.mpr ⟨Or.inl ocX7_holds, List.forall_mem_cons.mpr ⟨Or.inl ocX7_begins, List.forall_mem_cons.mpr ⟨Or.inl ocX7_ruledBy, List.forall_mem_cons.mpr ⟨Or.inl ocX7_leftOfAll, List.forall_mem_cons.mpr ⟨Or.inl ocX7_fixed, List.forall_mem_cons.mpr ⟨Or.inl ocX7_stands, List.forall_mem_cons.mpr ⟨Or.inl ocX7_isHeld, List.forall_mem_cons.mpr ⟨Or.inl ocX7_isClear, List.forall_mem_cons.mpr ⟨Or.inl ocX7_sign, List.forall_mem_cons.mpr ⟨Or.inl ocX7_step, List.forall_mem_cons.mpr ⟨Or.inl ocX7_letter, List.forall_mem_cons.mpr ⟨Or.inl ocX7_digit, List.forall_mem_cons.mpr ⟨Or.inl ocX7_part, List.forall_mem_cons.mpr ⟨Or.inl ocX7_go, List.forall_mem_cons.mpr ⟨Or.inl ocX7_placeIn1, List.forall_mem_cons.mpr ⟨Or.inl ocX7_toldLeft, List.forall_mem_cons.mpr ⟨Or.inl ocX7_allFixed, List.forall_mem_cons.mpr ⟨Or.inl ocX7_hinted, List.forall_mem_cons.mpr ⟨Or.inl ocX7_surveys, List.forall_mem_cons.mpr ⟨Or.inl ocX7_finds, List.forall_mem_cons.mpr ⟨Or.inl ocX7_blamed, List.forall_mem_cons.mpr ⟨Or.inl ocX7_plain, List.forall_mem_cons.mpr ⟨Or.inl ocX7_share, List.forall_mem_cons.mpr ⟨Or.inl ocX7_mean, List.forall_mem_cons.mpr ⟨Or.inl ocX7_mix, List.forall_mem_cons.mpr ⟨Or.inl ocX7_told, List.forall_mem_cons.mpr ⟨Or.inl ocX7_bitsOf, fun _ h => absurd h List.not_mem_nil⟩⟩⟩⟩⟩⟩⟩⟩⟩⟩⟩⟩⟩⟩⟩⟩⟩⟩⟩⟩⟩⟩⟩⟩⟩⟩⟩⟩⟩⟩⟩⟩⟩⟩⟩⟩⟩⟩⟩⟩⟩⟩⟩⟩⟩
  | 8, r, h => by cases h; exact List.forall_mem_cons.mpr ⟨Or.inl ocX6_same, List.forall_mem_cons.mpr ⟨Or.inl ocX6_apart, List.forall_mem_cons.mpr ⟨Or.inl ocX6_leftOf, List.forall_mem_cons.mpr ⟨Or.inl ocX6_nextTo, List.forall_mem_cons.mpr ⟨Or.inl ocX6_at, List.forall_mem_cons.mpr ⟨Or.inl ocX6_notAt, List.forall_mem_cons.mpr ⟨Or.inl ocX6_either, List.forall_mem_cons.mpr ⟨Or.inl ocX6_withdraw, List.forall_mem_cons.mpr ⟨Or.inl ocX6_cross, List.forall_mem_cons.mpr ⟨Or.inl ocX6_rubOut, List.forall_mem_cons.mpr ⟨Or.inl ocX6_settle, List.forall_mem_cons.mpr ⟨Or.inl ocX6_append, List.forall_mem_cons.mpr ⟨Or.inl ocX6_take, List.forall_mem_cons.mpr ⟨Or.inl ocX6_goBack, List.forall_mem_cons.mpr ⟨Or.inl ocX6_undo, List.forall_mem_cons.mpr ⟨Or.inl ocX6_sortOf, List.forall_mem_cons.mpr ⟨Or.inl ocX6_itemOf, List.forall_mem_cons.mpr ⟨Or.inl ocX6_placeOf, List.forall_mem_cons.mpr ⟨Or.inl ocX6_isCrossed, List.forall_mem_cons.mpr ⟨Or.inl ocX6_left, List.forall_mem_cons.mpr ⟨Or.inl ocX6_leftByTurns, List.forall_mem_cons.mpr ⟨Or.inl ocX6_fixedAt, List.forall_mem_cons.mpr ⟨Or.inl ocX6_placeIn, List.forall_mem_cons.mpr ⟨Or.inl ocX6_trulyLeft, List.forall_mem_cons.mpr ⟨Or.inl ocX6_isSpare, List.forall_mem_cons.mpr ⟨Or.inl ocX6_barredBy, List.forall_mem_cons.mpr ⟨Or.inr owL_same, List.forall_mem_cons.mpr ⟨Or.inl ocX7_same, List.forall_mem_cons.mpr ⟨Or.inl ocX7_thrown, List.forall_mem_cons.mpr ⟨Or.inr owL_apart, List.forall_mem_cons.mpr ⟨Or.inl ocX7_apart, List.forall_mem_cons.mpr ⟨Or.inr owL_leftOf, List.forall_mem_cons.mpr ⟨Or.inl ocX7_leftOf, List.forall_mem_cons.mpr ⟨Or.inr owL_nextTo, List.forall_mem_cons.mpr ⟨Or.inl ocX7_nextTo, List.forall_mem_cons.mpr ⟨Or.inr owL_at, List.forall_mem_cons.mpr ⟨Or.inl ocX7_at, List.forall_mem_cons.mpr ⟨Or.inr owL_notAt, List.forall_mem_cons.mpr ⟨Or.inl ocX7_notAt, List.forall_mem_cons.mpr ⟨Or.inr owL_either, List.forall_mem_cons.mpr ⟨Or.inl ocX7_either, List.forall_mem_cons.mpr ⟨Or.inr owL_withdraw, List.forall_mem_cons.mpr ⟨Or.inl ocX7_withdraw, List.forall_mem_cons.mpr ⟨Or.inr owL_cross, List.forall_mem_cons.mpr ⟨Or.inl ocX7_cross, List.forall_mem_cons.mpr ⟨Or.inr owL_rubOut, List.forall_mem_cons.mpr ⟨Or.inl ocX7_rubOut, List.forall_mem_cons.mpr ⟨Or.inl ocX6_rubAllOut, List.forall_mem_cons.mpr ⟨Or.inl ocX7_rubAllOut, List.forall_mem_cons.mpr ⟨Or.inr owL_settle, List.forall_mem_cons.mpr ⟨Or.inl ocX7_settle, List.forall_mem_cons.mpr ⟨Or.inr owL_append, List.forall_mem_cons.mpr ⟨Or.inl ocX7_append, List.forall_mem_cons.mpr ⟨Or.inl ocX6_clearBuffer, List.forall_mem_cons.mpr ⟨Or.inl ocX7_clearBuffer, List.forall_mem_cons.mpr ⟨Or.inl ocX6_firstError, List.forall_mem_cons.mpr ⟨Or.inl ocX7_firstError, List.forall_mem_cons.mpr ⟨Or.inr owL_take, List.forall_mem_cons.mpr ⟨Or.inl ocX7_take, List.forall_mem_cons.mpr ⟨Or.inl ocX6_keep, List.forall_mem_cons.mpr ⟨Or.inl ocX7_keep, List.forall_mem_cons.mpr ⟨Or.inr owL_goBack, List.forall_mem_cons.mpr ⟨Or.inl ocX7_goBack, List.forall_mem_cons.mpr ⟨Or.inr owL_undo, List.forall_mem_cons.mpr ⟨Or.inl ocX7_undo, List.forall_mem_cons.mpr ⟨Or.inl ocX6_clues, List.forall_mem_cons.mpr ⟨Or.inl ocX7_clues, List.forall_mem_cons.mpr ⟨Or.inr owL_sortOf, List.forall_mem_cons.mpr ⟨Or.inl ocX7_sortOf, List.forall_mem_cons.mpr ⟨Or.inr owL_itemOf, List.forall_mem_cons.mpr ⟨Or.inl ocX7_itemOf, List.forall_mem_cons.mpr ⟨Or.inr owL_placeOf, List.forall_mem_cons.mpr ⟨Or.inl ocX7_placeOf, List.forall_mem_cons.mpr ⟨Or.inr owL_isCrossed, List.forall_mem_cons.mpr ⟨Or.inl ocX7_isCrossed, List.forall_mem_cons.mpr ⟨Or.inl ocX6_crosses, List.forall_mem_cons.mpr ⟨Or.inl ocX7_crosses, List.forall_mem_cons.mpr ⟨Or.inl ocX6_crossesByAccount, List.forall_mem_cons.mpr ⟨Or.inl ocX7_crossesByAccount, List.forall_mem_cons.mpr ⟨Or.inl ocX6_made, List.forall_mem_cons.mpr ⟨Or.inl ocX7_made, List.forall_mem_cons.mpr ⟨Or.inr owL_left, List.forall_mem_cons.mpr ⟨Or.inl ocX7_left, List.forall_mem_cons.mpr ⟨Or.inr owL_leftByTurns, List.forall_mem_cons.mpr ⟨Or.inl ocX7_leftByTurns, List.forall_mem_cons.mpr ⟨Or.inl ocX6_rounds, List.forall_mem_cons.mpr ⟨Or.inl ocX7_rounds, List.forall_mem_cons.mpr ⟨Or.inl ocX6_isContradiction, List.forall_mem_cons.mpr ⟨Or.inl ocX7_isContradiction, List.forall_mem_cons.mpr ⟨Or.inr owL_fixedAt, List.forall_mem_cons.mpr ⟨Or.inl ocX7_fixedAt, List.forall_mem_cons.mpr ⟨Or.inl ocX6_fixedItems, List.forall_mem_cons.mpr ⟨Or.inl ocX7_fixedItems, List.forall_mem_cons.mpr ⟨Or.inl ocX6_hint, List.forall_mem_cons.mpr ⟨Or.inl ocX7_hint, List.forall_mem_cons.mpr ⟨Or.inl ocX6_hintBy, List.forall_mem_cons.mpr ⟨Or.inl ocX7_hintBy, List.forall_mem_cons.mpr ⟨Or.inl ocX6_solutions, List.forall_mem_cons.mpr ⟨Or.inl ocX7_solutions, List.forall_mem_cons.mpr ⟨Or.inl ocX6_solutionsBySearch, List.forall_mem_cons.mpr ⟨Or.inl ocX7_solutionsBySearch, List.forall_mem_cons.mpr ⟨Or.inr owL_placeIn, List.forall_mem_cons.mpr ⟨Or.inl ocX7_placeIn, List.forall_mem_cons.mpr ⟨Or.inr owL_trulyLeft, List.forall_mem_cons.mpr ⟨Or.inl ocX7_trulyLeft, List.forall_mem_cons.mpr ⟨Or.inr owL_isSpare, List.forall_mem_cons.mpr ⟨Or.inl ocX7_isSpare, List.forall_mem_cons.mpr ⟨Or.inl ocX6_culprit, List.forall_mem_cons.mpr ⟨Or.inl ocX7_culprit, List.forall_mem_cons.mpr ⟨Or.inr owL_barredBy, List.forall_mem_cons.mpr ⟨Or.inl ocX7_barredBy, List.forall_mem_cons.mpr ⟨Or.inl ocX6_isPlain, List.forall_mem_cons.mpr ⟨Or.inl ocX7_isPlain, List.forall_mem_cons.mpr ⟨Or.inl ocX6_fixedShare, List.forall_mem_cons.mpr ⟨Or.inl ocX7_fixedShare, List.forall_mem_cons.mpr ⟨Or.inl ocX6_meanLeft, List.forall_mem_cons.mpr ⟨Or.inl ocX7_meanLeft, List.forall_mem_cons.mpr ⟨Or.inl ocX6_digest, List.forall_mem_cons.mpr ⟨Or.inl ocX7_digest, fun _ h => absurd h List.not_mem_nil⟩⟩⟩⟩⟩⟩⟩⟩⟩⟩⟩⟩⟩⟩⟩⟩⟩⟩⟩⟩⟩⟩⟩⟩⟩⟩⟩⟩⟩⟩⟩⟩⟩⟩⟩⟩⟩⟩⟩⟩⟩⟩⟩⟩⟩⟩⟩⟩⟩⟩⟩⟩⟩⟩⟩⟩⟩⟩⟩⟩⟩⟩⟩⟩⟩⟩⟩⟩⟩⟩⟩⟩⟩⟩⟩⟩⟩⟩⟩⟩⟩⟩⟩⟩⟩⟩⟩⟩⟩⟩⟩⟩⟩⟩⟩⟩⟩⟩⟩⟩⟩⟩⟩⟩⟩⟩⟩⟩⟩⟩⟩⟩⟩⟩⟩⟩⟩⟩⟩
  | 9, r, h => by cases h; exact fun _ h => absurd h List.not_mem_nil
  | 10, r, h => by cases h; exact fun _ h => absurd h List.not_mem_nil
  | 11, r, h => by cases h; exact List.forall_mem_cons.mpr ⟨Or.inl ocJ0_coder_7d493, List.forall_mem_cons.mpr ⟨Or.inl ocJ0_isLatin1_aae02, List.forall_mem_cons.mpr ⟨Or.inl ocJ0_length_8abf5, List.forall_mem_cons.mpr ⟨Or.inl ocJ0_indexOf_7cf53, List.forall_mem_cons.mpr ⟨Or.inl ocJ1_indexOf_4cfef, fun _ h => absurd h List.not_mem_nil⟩⟩⟩⟩⟩
  | 12, r, h => by cases h; exact List.forall_mem_cons.mpr ⟨Or.inl ocJ1_canEncode_9a6ad, List.forall_mem_cons.mpr ⟨Or.inl ocJ1_indexOfChar_4cfef, fun _ h => absurd h List.not_mem_nil⟩⟩
  | k + 13, r, h => by cases h
theorem cpK_ok (k i : Nat) (x : MI) (h : cpM k i = some x) : MOKc x ∨ MOKw x := by
  obtain ⟨r, hr, hm⟩ := fnd2_mem h
  exact cpK_all k r hr (i, x) hm
