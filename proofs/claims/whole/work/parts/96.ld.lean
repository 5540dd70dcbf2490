/-! THE LAW: its steps (gen_j10.py) -/
/-- from here on the law says true, with at most B throws -/
def RUN (X : Nat × (Nat → Int32)) (pc t : Nat) (st : List Value) (B : Nat) (c : CT) (m : MT) (o : Nat → Int64) : Prop := ∃ (k : Nat) (h2 : PH), k ≤ B ∧ Runs 60 mL_law pc (lawL (N (4 * t))) st (HP X c m o) (.inl (some (.int 1))) h2 k
def RST (X : Nat × (Nat → Int32)) (t B : Nat) : Prop := ∀ (c1 : CT) (m2 : MT) (o1 : Nat → Int64) (th2 : Nat), INV c1 m2 th2 → RUN X 2133 t [] B c1 m2 o1
theorem s_same {X : Nat × (Nat → Int32)} {t B th : Nat} {c : CT} {m : MT} {o : Nat → Int64} (hX : X.1 ≤ 2048) (ht : 4 * t + 4 ≤ X.1) (h : INV c m th) (R : RST X t B) : RUN X 236 t [] (B + 1) c m o := by
  obtain ⟨e, w, k1, c1, o1, m2, th2, hk1, hL, hR, hth, hv, hI⟩ := t_same (X := X) (o := o) (a := X.2 (4 * t + 1)) (b := X.2 (4 * t + 2)) h
  obtain ⟨k, h2, hk, r⟩ := R c1 m2 o1 th2 hI
  exact ⟨k1 + k, h2, by omega, w_same hX ht hL hR hth hv r⟩
theorem s_apart {X : Nat × (Nat → Int32)} {t B th : Nat} {c : CT} {m : MT} {o : Nat → Int64} (hX : X.1 ≤ 2048) (ht : 4 * t + 4 ≤ X.1) (h : INV c m th) (R : RST X t B) : RUN X 304 t [] (B + 1) c m o := by
  obtain ⟨e, w, k1, c1, o1, m2, th2, hk1, hL, hR, hth, hv, hI⟩ := t_apart (X := X) (o := o) (a := X.2 (4 * t + 1)) (b := X.2 (4 * t + 2)) h
  obtain ⟨k, h2, hk, r⟩ := R c1 m2 o1 th2 hI
  exact ⟨k1 + k, h2, by omega, w_apart hX ht hL hR hth hv r⟩
theorem s_leftOf {X : Nat × (Nat → Int32)} {t B th : Nat} {c : CT} {m : MT} {o : Nat → Int64} (hX : X.1 ≤ 2048) (ht : 4 * t + 4 ≤ X.1) (h : INV c m th) (R : RST X t B) : RUN X 372 t [] (B + 1) c m o := by
  obtain ⟨e, w, k1, c1, o1, m2, th2, hk1, hL, hR, hth, hv, hI⟩ := t_leftOf (X := X) (o := o) (a := X.2 (4 * t + 1)) (b := X.2 (4 * t + 2)) h
  obtain ⟨k, h2, hk, r⟩ := R c1 m2 o1 th2 hI
  exact ⟨k1 + k, h2, by omega, w_leftOf hX ht hL hR hth hv r⟩
theorem s_nextTo {X : Nat × (Nat → Int32)} {t B th : Nat} {c : CT} {m : MT} {o : Nat → Int64} (hX : X.1 ≤ 2048) (ht : 4 * t + 4 ≤ X.1) (h : INV c m th) (R : RST X t B) : RUN X 440 t [] (B + 1) c m o := by
  obtain ⟨e, w, k1, c1, o1, m2, th2, hk1, hL, hR, hth, hv, hI⟩ := t_nextTo (X := X) (o := o) (a := X.2 (4 * t + 1)) (b := X.2 (4 * t + 2)) h
  obtain ⟨k, h2, hk, r⟩ := R c1 m2 o1 th2 hI
  exact ⟨k1 + k, h2, by omega, w_nextTo hX ht hL hR hth hv r⟩
theorem s_at {X : Nat × (Nat → Int32)} {t B th : Nat} {c : CT} {m : MT} {o : Nat → Int64} (hX : X.1 ≤ 2048) (ht : 4 * t + 4 ≤ X.1) (h : INV c m th) (R : RST X t B) : RUN X 508 t [] (B + 1) c m o := by
  obtain ⟨e, w, k1, c1, o1, m2, th2, hk1, hL, hR, hth, hv, hI⟩ := t_at (X := X) (o := o) (a := X.2 (4 * t + 1)) (b := X.2 (4 * t + 2)) h
  obtain ⟨k, h2, hk, r⟩ := R c1 m2 o1 th2 hI
  exact ⟨k1 + k, h2, by omega, w_at hX ht hL hR hth hv r⟩
theorem s_notAt {X : Nat × (Nat → Int32)} {t B th : Nat} {c : CT} {m : MT} {o : Nat → Int64} (hX : X.1 ≤ 2048) (ht : 4 * t + 4 ≤ X.1) (h : INV c m th) (R : RST X t B) : RUN X 576 t [] (B + 1) c m o := by
  obtain ⟨e, w, k1, c1, o1, m2, th2, hk1, hL, hR, hth, hv, hI⟩ := t_notAt (X := X) (o := o) (a := X.2 (4 * t + 1)) (b := X.2 (4 * t + 2)) h
  obtain ⟨k, h2, hk, r⟩ := R c1 m2 o1 th2 hI
  exact ⟨k1 + k, h2, by omega, w_notAt hX ht hL hR hth hv r⟩
theorem s_either {X : Nat × (Nat → Int32)} {t B th : Nat} {c : CT} {m : MT} {o : Nat → Int64} (hX : X.1 ≤ 2048) (ht : 4 * t + 4 ≤ X.1) (h : INV c m th) (R : RST X t B) : RUN X 644 t [] (B + 1) c m o := by
  obtain ⟨e, w, k1, c1, o1, m2, th2, hk1, hL, hR, hth, hv, hI⟩ := t_either (X := X) (o := o) (a := X.2 (4 * t + 1)) (b := X.2 (4 * t + 2)) (d := X.2 (4 * t + 3)) h
  obtain ⟨k, h2, hk, r⟩ := R c1 m2 o1 th2 hI
  exact ⟨k1 + k, h2, by omega, w_either hX ht hL hR hth hv r⟩
theorem s_withdraw {X : Nat × (Nat → Int32)} {t B th : Nat} {c : CT} {m : MT} {o : Nat → Int64} (hX : X.1 ≤ 2048) (ht : 4 * t + 4 ≤ X.1) (h : INV c m th) (R : RST X t B) : RUN X 724 t [] (B + 1) c m o := by
  obtain ⟨e, w, k1, c1, o1, m2, th2, hk1, hL, hR, hth, hv, hI⟩ := t_withdraw (X := X) (o := o) (a := X.2 (4 * t + 1)) h
  obtain ⟨k, h2, hk, r⟩ := R c1 m2 o1 th2 hI
  exact ⟨k1 + k, h2, by omega, w_withdraw hX ht hL hR hth hv r⟩
theorem s_cross {X : Nat × (Nat → Int32)} {t B th : Nat} {c : CT} {m : MT} {o : Nat → Int64} (hX : X.1 ≤ 2048) (ht : 4 * t + 4 ≤ X.1) (h : INV c m th) (R : RST X t B) : RUN X 780 t [] (B + 1) c m o := by
  obtain ⟨e, w, k1, c1, o1, m2, th2, hk1, hL, hR, hth, hv, hI⟩ := t_cross (X := X) (o := o) (a := X.2 (4 * t + 1)) (b := X.2 (4 * t + 2)) h
  obtain ⟨k, h2, hk, r⟩ := R c1 m2 o1 th2 hI
  exact ⟨k1 + k, h2, by omega, w_cross hX ht hL hR hth hv r⟩
theorem s_rubOut {X : Nat × (Nat → Int32)} {t B th : Nat} {c : CT} {m : MT} {o : Nat → Int64} (hX : X.1 ≤ 2048) (ht : 4 * t + 4 ≤ X.1) (h : INV c m th) (R : RST X t B) : RUN X 848 t [] (B + 1) c m o := by
  obtain ⟨e, w, k1, c1, o1, m2, th2, hk1, hL, hR, hth, hv, hI⟩ := t_rubOut (X := X) (o := o) (a := X.2 (4 * t + 1)) (b := X.2 (4 * t + 2)) h
  obtain ⟨k, h2, hk, r⟩ := R c1 m2 o1 th2 hI
  exact ⟨k1 + k, h2, by omega, w_rubOut hX ht hL hR hth hv r⟩
theorem s_rubAllOut {X : Nat × (Nat → Int32)} {t B th : Nat} {c : CT} {m : MT} {o : Nat → Int64} (h : INV c m th) (R : RST X t B) : RUN X 916 t [] (B + 1) c m o := by
  obtain ⟨v, c1, m2, hC, hK, hI⟩ := n_rubAllOut (X := X) (o := o) h
  obtain ⟨k, h2, hk, r⟩ := R c1 m2 o 0 hI
  exact ⟨k, h2, by omega, w_rubAllOut hC hK r⟩
theorem s_settle {X : Nat × (Nat → Int32)} {t B th : Nat} {c : CT} {m : MT} {o : Nat → Int64} (hX : X.1 ≤ 2048) (ht : 4 * t + 4 ≤ X.1) (h : INV c m th) (R : RST X t B) : RUN X 929 t [] (B + 1) c m o := by
  obtain ⟨e, w, k1, c1, o1, m2, th2, hk1, hL, hR, hth, hv, hI⟩ := t_settle (X := X) (o := o)  h
  obtain ⟨k, h2, hk, r⟩ := R c1 m2 o1 th2 hI
  exact ⟨k1 + k, h2, by omega, w_settle hX ht hL hR hth hv r⟩
theorem s_append {X : Nat × (Nat → Int32)} {t B th : Nat} {c : CT} {m : MT} {o : Nat → Int64} (hX : X.1 ≤ 2048) (ht : 4 * t + 4 ≤ X.1) (h : INV c m th) (R : RST X t B) : RUN X 973 t [] (B + 1) c m o := by
  obtain ⟨e, w, k1, c1, o1, m2, th2, hk1, hL, hR, hth, hv, hI⟩ := t_append (X := X) (o := o) (a := X.2 (4 * t + 1)) h
  obtain ⟨k, h2, hk, r⟩ := R c1 m2 o1 th2 hI
  exact ⟨k1 + k, h2, by omega, w_append hX ht hL hR hth hv r⟩
theorem s_clearBuffer {X : Nat × (Nat → Int32)} {t B th : Nat} {c : CT} {m : MT} {o : Nat → Int64} (h : INV c m th) (R : RST X t B) : RUN X 1029 t [] (B + 1) c m o := by
  obtain ⟨v, c1, m2, hC, hK, hI⟩ := n_clearBuffer (X := X) (o := o) h
  obtain ⟨k, h2, hk, r⟩ := R c1 m2 o 0 hI
  exact ⟨k, h2, by omega, w_clearBuffer hC hK r⟩
theorem s_firstError {X : Nat × (Nat → Int32)} {t B th : Nat} {c : CT} {m : MT} {o : Nat → Int64} (h : INV c m th) (R : RST X t B) : RUN X 1042 t [] (B + 1) c m o := by
  obtain ⟨v, c1, m2, hC, hK, hI⟩ := n_firstError (X := X) (o := o) h
  obtain ⟨k, h2, hk, r⟩ := R c1 m2 o 0 hI
  exact ⟨k, h2, by omega, w_firstError hC hK r⟩
theorem s_take {X : Nat × (Nat → Int32)} {t B th : Nat} {c : CT} {m : MT} {o : Nat → Int64} (hX : X.1 ≤ 2048) (ht : 4 * t + 4 ≤ X.1) (h : INV c m th) (R : RST X t B) : RUN X 1055 t [] (B + 1) c m o := by
  obtain ⟨e, w, k1, c1, o1, m2, th2, hk1, hL, hR, hth, hv, hI⟩ := t_take (X := X) (o := o)  h
  obtain ⟨k, h2, hk, r⟩ := R c1 m2 o1 th2 hI
  exact ⟨k1 + k, h2, by omega, w_take hX ht hL hR hth hv r⟩
theorem s_keep {X : Nat × (Nat → Int32)} {t B th : Nat} {c : CT} {m : MT} {o : Nat → Int64} (h : INV c m th) (R : RST X t B) : RUN X 1099 t [] (B + 1) c m o := by
  obtain ⟨v, c1, m2, hC, hK, hI⟩ := n_keep (X := X) (o := o) h
  obtain ⟨k, h2, hk, r⟩ := R c1 m2 o 0 hI
  exact ⟨k, h2, by omega, w_keep hC hK r⟩
theorem s_goBack {X : Nat × (Nat → Int32)} {t B th : Nat} {c : CT} {m : MT} {o : Nat → Int64} (hX : X.1 ≤ 2048) (ht : 4 * t + 4 ≤ X.1) (h : INV c m th) (R : RST X t B) : RUN X 1112 t [] (B + 1) c m o := by
  obtain ⟨e, w, k1, c1, o1, m2, th2, hk1, hL, hR, hth, hv, hI⟩ := t_goBack (X := X) (o := o)  h
  obtain ⟨k, h2, hk, r⟩ := R c1 m2 o1 th2 hI
  exact ⟨k1 + k, h2, by omega, w_goBack hX ht hL hR hth hv r⟩
theorem s_undo {X : Nat × (Nat → Int32)} {t B th : Nat} {c : CT} {m : MT} {o : Nat → Int64} (hX : X.1 ≤ 2048) (ht : 4 * t + 4 ≤ X.1) (h : INV c m th) (R : RST X t B) : RUN X 1156 t [] (B + 1) c m o := by
  obtain ⟨e, w, k1, c1, o1, m2, th2, hk1, hL, hR, hth, hv, hI⟩ := t_undo (X := X) (o := o)  h
  obtain ⟨k, h2, hk, r⟩ := R c1 m2 o1 th2 hI
  exact ⟨k1 + k, h2, by omega, w_undo hX ht hL hR hth hv r⟩
theorem s_clues {X : Nat × (Nat → Int32)} {t B th : Nat} {c : CT} {m : MT} {o : Nat → Int64} (h : INV c m th) (R : RST X t B) : RUN X 1200 t [] (B + 1) c m o := by
  obtain ⟨v, c1, m2, hC, hK, hI⟩ := n_clues (X := X) (o := o) h
  obtain ⟨k, h2, hk, r⟩ := R c1 m2 o 0 hI
  exact ⟨k, h2, by omega, w_clues hC hK r⟩
theorem s_sortOf {X : Nat × (Nat → Int32)} {t B th : Nat} {c : CT} {m : MT} {o : Nat → Int64} (hX : X.1 ≤ 2048) (ht : 4 * t + 4 ≤ X.1) (h : INV c m th) (R : RST X t B) : RUN X 1213 t [] (B + 1) c m o := by
  obtain ⟨e, w, k1, c1, o1, m2, th2, hk1, hL, hR, hth, hv, hI⟩ := t_sortOf (X := X) (o := o) (a := X.2 (4 * t + 1)) h
  obtain ⟨k, h2, hk, r⟩ := R c1 m2 o1 th2 hI
  exact ⟨k1 + k, h2, by omega, w_sortOf hX ht hL hR hth hv r⟩
theorem s_itemOf {X : Nat × (Nat → Int32)} {t B th : Nat} {c : CT} {m : MT} {o : Nat → Int64} (hX : X.1 ≤ 2048) (ht : 4 * t + 4 ≤ X.1) (h : INV c m th) (R : RST X t B) : RUN X 1269 t [] (B + 1) c m o := by
  obtain ⟨e, w, k1, c1, o1, m2, th2, hk1, hL, hR, hth, hv, hI⟩ := t_itemOf (X := X) (o := o) (a := X.2 (4 * t + 1)) (b := X.2 (4 * t + 2)) h
  obtain ⟨k, h2, hk, r⟩ := R c1 m2 o1 th2 hI
  exact ⟨k1 + k, h2, by omega, w_itemOf hX ht hL hR hth hv r⟩
theorem s_placeOf {X : Nat × (Nat → Int32)} {t B th : Nat} {c : CT} {m : MT} {o : Nat → Int64} (hX : X.1 ≤ 2048) (ht : 4 * t + 4 ≤ X.1) (h : INV c m th) (R : RST X t B) : RUN X 1337 t [] (B + 1) c m o := by
  obtain ⟨e, w, k1, c1, o1, m2, th2, hk1, hL, hR, hth, hv, hI⟩ := t_placeOf (X := X) (o := o) (a := X.2 (4 * t + 1)) h
  obtain ⟨k, h2, hk, r⟩ := R c1 m2 o1 th2 hI
  exact ⟨k1 + k, h2, by omega, w_placeOf hX ht hL hR hth hv r⟩
theorem s_isCrossed {X : Nat × (Nat → Int32)} {t B th : Nat} {c : CT} {m : MT} {o : Nat → Int64} (hX : X.1 ≤ 2048) (ht : 4 * t + 4 ≤ X.1) (h : INV c m th) (R : RST X t B) : RUN X 1393 t [] (B + 1) c m o := by
  obtain ⟨e, w, k1, c1, o1, m2, th2, hk1, hL, hR, hth, hv, hI⟩ := t_isCrossed (X := X) (o := o) (a := X.2 (4 * t + 1)) (b := X.2 (4 * t + 2)) h
  obtain ⟨k, h2, hk, r⟩ := R c1 m2 o1 th2 hI
  exact ⟨k1 + k, h2, by omega, w_isCrossed hX ht hL hR hth hv r⟩
theorem s_crosses {X : Nat × (Nat → Int32)} {t B th : Nat} {c : CT} {m : MT} {o : Nat → Int64} (h : INV c m th) (R : RST X t B) : RUN X 1468 t [] (B + 1) c m o := by
  obtain ⟨v, c1, m2, hC, hK, hI⟩ := n_crosses (X := X) (o := o) h
  obtain ⟨k, h2, hk, r⟩ := R c1 m2 o 0 hI
  exact ⟨k, h2, by omega, w_crosses hC hK r⟩
theorem s_crossesByAccount {X : Nat × (Nat → Int32)} {t B th : Nat} {c : CT} {m : MT} {o : Nat → Int64} (h : INV c m th) (R : RST X t B) : RUN X 1481 t [] (B + 1) c m o := by
  obtain ⟨v, c1, m2, hC, hK, hI⟩ := n_crossesByAccount (X := X) (o := o) h
  obtain ⟨k, h2, hk, r⟩ := R c1 m2 o 0 hI
  exact ⟨k, h2, by omega, w_crossesByAccount hC hK r⟩
theorem s_made {X : Nat × (Nat → Int32)} {t B th : Nat} {c : CT} {m : MT} {o : Nat → Int64} (h : INV c m th) (R : RST X t B) : RUN X 1494 t [] (B + 1) c m o := by
  obtain ⟨v, c1, m2, hC, hK, hI⟩ := n_made (X := X) (o := o) h
  obtain ⟨k, h2, hk, r⟩ := R c1 m2 o 0 hI
  exact ⟨k, h2, by omega, w_made hC hK r⟩
theorem s_left {X : Nat × (Nat → Int32)} {t B th : Nat} {c : CT} {m : MT} {o : Nat → Int64} (hX : X.1 ≤ 2048) (ht : 4 * t + 4 ≤ X.1) (h : INV c m th) (R : RST X t B) : RUN X 1507 t [] (B + 1) c m o := by
  obtain ⟨e, w, k1, c1, o1, m2, th2, hk1, hL, hR, hth, hv, hI⟩ := t_left (X := X) (o := o) (a := X.2 (4 * t + 1)) h
  obtain ⟨k, h2, hk, r⟩ := R c1 m2 o1 th2 hI
  exact ⟨k1 + k, h2, by omega, w_left hX ht hL hR hth hv r⟩
theorem s_leftByTurns {X : Nat × (Nat → Int32)} {t B th : Nat} {c : CT} {m : MT} {o : Nat → Int64} (hX : X.1 ≤ 2048) (ht : 4 * t + 4 ≤ X.1) (h : INV c m th) (R : RST X t B) : RUN X 1563 t [] (B + 1) c m o := by
  obtain ⟨e, w, k1, c1, o1, m2, th2, hk1, hL, hR, hth, hv, hI⟩ := t_leftByTurns (X := X) (o := o) (a := X.2 (4 * t + 1)) h
  obtain ⟨k, h2, hk, r⟩ := R c1 m2 o1 th2 hI
  exact ⟨k1 + k, h2, by omega, w_leftByTurns hX ht hL hR hth hv r⟩
theorem s_rounds {X : Nat × (Nat → Int32)} {t B th : Nat} {c : CT} {m : MT} {o : Nat → Int64} (h : INV c m th) (R : RST X t B) : RUN X 1619 t [] (B + 1) c m o := by
  obtain ⟨v, c1, m2, hC, hK, hI⟩ := n_rounds (X := X) (o := o) h
  obtain ⟨k, h2, hk, r⟩ := R c1 m2 o 0 hI
  exact ⟨k, h2, by omega, w_rounds hC hK r⟩
theorem s_isContradiction {X : Nat × (Nat → Int32)} {t B th : Nat} {c : CT} {m : MT} {o : Nat → Int64} (h : INV c m th) (R : RST X t B) : RUN X 1632 t [] (B + 1) c m o := by
  obtain ⟨v, c1, m2, hC, hK, hI⟩ := n_isContradiction (X := X) (o := o) h
  obtain ⟨k, h2, hk, r⟩ := R c1 m2 o 0 hI
  exact ⟨k, h2, by omega, w_isContradiction hC hK r⟩
theorem s_fixedAt {X : Nat × (Nat → Int32)} {t B th : Nat} {c : CT} {m : MT} {o : Nat → Int64} (hX : X.1 ≤ 2048) (ht : 4 * t + 4 ≤ X.1) (h : INV c m th) (R : RST X t B) : RUN X 1645 t [] (B + 1) c m o := by
  obtain ⟨e, w, k1, c1, o1, m2, th2, hk1, hL, hR, hth, hv, hI⟩ := t_fixedAt (X := X) (o := o) (a := X.2 (4 * t + 1)) h
  obtain ⟨k, h2, hk, r⟩ := R c1 m2 o1 th2 hI
  exact ⟨k1 + k, h2, by omega, w_fixedAt hX ht hL hR hth hv r⟩
theorem s_fixedItems {X : Nat × (Nat → Int32)} {t B th : Nat} {c : CT} {m : MT} {o : Nat → Int64} (h : INV c m th) (R : RST X t B) : RUN X 1701 t [] (B + 1) c m o := by
  obtain ⟨v, c1, m2, hC, hK, hI⟩ := n_fixedItems (X := X) (o := o) h
  obtain ⟨k, h2, hk, r⟩ := R c1 m2 o 0 hI
  exact ⟨k, h2, by omega, w_fixedItems hC hK r⟩
theorem s_hint {X : Nat × (Nat → Int32)} {t B th : Nat} {c : CT} {m : MT} {o : Nat → Int64} (h : INV c m th) (R : RST X t B) : RUN X 1714 t [] (B + 1) c m o := by
  obtain ⟨v, c1, m2, hC, hK, hI⟩ := n_hint (X := X) (o := o) h
  obtain ⟨k, h2, hk, r⟩ := R c1 m2 o 0 hI
  exact ⟨k, h2, by omega, w_hint hC hK r⟩
theorem s_hintBy {X : Nat × (Nat → Int32)} {t B th : Nat} {c : CT} {m : MT} {o : Nat → Int64} (h : INV c m th) (R : RST X t B) : RUN X 1727 t [] (B + 1) c m o := by
  obtain ⟨v, c1, m2, hC, hK, hI⟩ := n_hintBy (X := X) (o := o) h
  obtain ⟨k, h2, hk, r⟩ := R c1 m2 o 0 hI
  exact ⟨k, h2, by omega, w_hintBy hC hK r⟩
theorem s_solutions {X : Nat × (Nat → Int32)} {t B th : Nat} {c : CT} {m : MT} {o : Nat → Int64} (h : INV c m th) (R : RST X t B) : RUN X 1740 t [] (B + 1) c m o := by
  obtain ⟨v, c1, m2, hC, hK, hI⟩ := n_solutions (X := X) (o := o) h
  obtain ⟨k, h2, hk, r⟩ := R c1 m2 o 0 hI
  exact ⟨k, h2, by omega, w_solutions hC hK r⟩
theorem s_solutionsBySearch {X : Nat × (Nat → Int32)} {t B th : Nat} {c : CT} {m : MT} {o : Nat → Int64} (h : INV c m th) (R : RST X t B) : RUN X 1753 t [] (B + 1) c m o := by
  obtain ⟨v, c1, m2, hC, hK, hI⟩ := n_solutionsBySearch (X := X) (o := o) h
  obtain ⟨k, h2, hk, r⟩ := R c1 m2 o 0 hI
  exact ⟨k, h2, by omega, w_solutionsBySearch hC hK r⟩
theorem s_placeIn {X : Nat × (Nat → Int32)} {t B th : Nat} {c : CT} {m : MT} {o : Nat → Int64} (hX : X.1 ≤ 2048) (ht : 4 * t + 4 ≤ X.1) (h : INV c m th) (R : RST X t B) : RUN X 1766 t [] (B + 1) c m o := by
  obtain ⟨e, w, k1, c1, o1, m2, th2, hk1, hL, hR, hth, hv, hI⟩ := t_placeIn (X := X) (o := o) (a := X.2 (4 * t + 1)) (b := X.2 (4 * t + 2)) h
  obtain ⟨k, h2, hk, r⟩ := R c1 m2 o1 th2 hI
  exact ⟨k1 + k, h2, by omega, w_placeIn hX ht hL hR hth hv r⟩
theorem s_trulyLeft {X : Nat × (Nat → Int32)} {t B th : Nat} {c : CT} {m : MT} {o : Nat → Int64} (hX : X.1 ≤ 2048) (ht : 4 * t + 4 ≤ X.1) (h : INV c m th) (R : RST X t B) : RUN X 1834 t [] (B + 1) c m o := by
  obtain ⟨e, w, k1, c1, o1, m2, th2, hk1, hL, hR, hth, hv, hI⟩ := t_trulyLeft (X := X) (o := o) (a := X.2 (4 * t + 1)) h
  obtain ⟨k, h2, hk, r⟩ := R c1 m2 o1 th2 hI
  exact ⟨k1 + k, h2, by omega, w_trulyLeft hX ht hL hR hth hv r⟩
theorem s_isSpare {X : Nat × (Nat → Int32)} {t B th : Nat} {c : CT} {m : MT} {o : Nat → Int64} (hX : X.1 ≤ 2048) (ht : 4 * t + 4 ≤ X.1) (h : INV c m th) (R : RST X t B) : RUN X 1890 t [] (B + 1) c m o := by
  obtain ⟨e, w, k1, c1, o1, m2, th2, hk1, hL, hR, hth, hv, hI⟩ := t_isSpare (X := X) (o := o) (a := X.2 (4 * t + 1)) h
  obtain ⟨k, h2, hk, r⟩ := R c1 m2 o1 th2 hI
  exact ⟨k1 + k, h2, by omega, w_isSpare hX ht hL hR hth hv r⟩
theorem s_culprit {X : Nat × (Nat → Int32)} {t B th : Nat} {c : CT} {m : MT} {o : Nat → Int64} (h : INV c m th) (R : RST X t B) : RUN X 1953 t [] (B + 1) c m o := by
  obtain ⟨v, c1, m2, hC, hK, hI⟩ := n_culprit (X := X) (o := o) h
  obtain ⟨k, h2, hk, r⟩ := R c1 m2 o 0 hI
  exact ⟨k, h2, by omega, w_culprit hC hK r⟩
theorem s_barredBy {X : Nat × (Nat → Int32)} {t B th : Nat} {c : CT} {m : MT} {o : Nat → Int64} (hX : X.1 ≤ 2048) (ht : 4 * t + 4 ≤ X.1) (h : INV c m th) (R : RST X t B) : RUN X 1966 t [] (B + 1) c m o := by
  obtain ⟨e, w, k1, c1, o1, m2, th2, hk1, hL, hR, hth, hv, hI⟩ := t_barredBy (X := X) (o := o) (a := X.2 (4 * t + 1)) h
  obtain ⟨k, h2, hk, r⟩ := R c1 m2 o1 th2 hI
  exact ⟨k1 + k, h2, by omega, w_barredBy hX ht hL hR hth hv r⟩
theorem s_isPlain {X : Nat × (Nat → Int32)} {t B th : Nat} {c : CT} {m : MT} {o : Nat → Int64} (h : INV c m th) (R : RST X t B) : RUN X 2022 t [] (B + 1) c m o := by
  obtain ⟨v, c1, m2, hC, hK, hI⟩ := n_isPlain (X := X) (o := o) h
  obtain ⟨k, h2, hk, r⟩ := R c1 m2 o 0 hI
  exact ⟨k, h2, by omega, w_isPlain hC hK r⟩
theorem s_fixedShare {X : Nat × (Nat → Int32)} {t B th : Nat} {c : CT} {m : MT} {o : Nat → Int64} (h : INV c m th) (R : RST X t B) : RUN X 2035 t [] (B + 1) c m o := by
  obtain ⟨v, c1, m2, hz, hC, hK, hI⟩ := n_fixedShare (X := X) (o := o) h
  obtain ⟨k, h2, hk, r⟩ := R c1 m2 o 0 hI
  exact ⟨k, h2, by omega, w_fixedShare hz hC hK r⟩
theorem s_meanLeft {X : Nat × (Nat → Int32)} {t B th : Nat} {c : CT} {m : MT} {o : Nat → Int64} (h : INV c m th) (R : RST X t B) : RUN X 2076 t [] (B + 1) c m o := by
  obtain ⟨v, c1, m2, hz, hC, hK, hI⟩ := n_meanLeft (X := X) (o := o) h
  obtain ⟨k, h2, hk, r⟩ := R c1 m2 o 0 hI
  exact ⟨k, h2, by omega, w_meanLeft hz hC hK r⟩
theorem s_digest {X : Nat × (Nat → Int32)} {t B th : Nat} {c : CT} {m : MT} {o : Nat → Int64} (h : INV c m th) (R : RST X t B) : RUN X 2119 t [] (B + 1) c m o := by
  obtain ⟨v, c1, m2, hC, hK, hI⟩ := n_digest (X := X) (o := o) h
  obtain ⟨k, h2, hk, r⟩ := R c1 m2 o 0 hI
  exact ⟨k, h2, by omega, w_digest hC hK r⟩
