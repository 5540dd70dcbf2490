/-! THE SIMULATION, of runs of any length -/
set_option maxHeartbeats 4000000 in
theorem sim : ∀ n, SimAt n := by
  intro n
  induction n with
  | zero =>
    intro d q pc pl st h o h' k hr
    simp [prun] at hr
  | succ n ih =>
    intro d q pc pl st h o h' k hr M T p l e R s m args below meth c H locs cells slots Q ad tid D A ls F hS hT hX hH hR1 hR2 hR3 hR4 hW hl RK TK
    rw [prun] at hr
    cases hp : pstep q pc pl st h with
    | none =>
      rw [hp] at hr
      cases hr
    | some x =>
      obtain ⟨cs, r⟩ := x
      rw [hp] at hr
      dsimp only at hr
      by_cases hc : allP cs
      · rw [if_pos hc] at hr
        rcases r with ⟨pc', pl', st', h2⟩ | z
        · have hsc := pstep_scr hp
          refine sim_row M F hS hT hX ⟨by omega, by omega, by omega, by omega⟩ hW hl hp hc (fun H2 locs2 ls2 hW2 hl2 => ?_)
          exact ih d q pc' pl' st' h2 o h' k hr M T p l e R s m args below meth c H2 locs2 cells slots Q ad tid D A ls2 F hS hT (fun z => by rw [hsc]; exact hX z) hH hR1 hR2 hR3 hR4 hW2 hl2 RK TK
        · rcases pstep_inr M hp hc with ⟨v, rfl, ra, rfl⟩ | ⟨i, n9, g, cls, hcode, hct, rfl, rfl⟩ | hcall
          · simp only [Option.some.injEq, Prod.mk.injEq] at hr
            obtain ⟨rfl, rfl, rfl⟩ := hr
            have hm : (v.toList).map (trV ad) = (v.map (trV ad)).toList := by cases v <;> rfl
            rw [hm]
            exact RK v H locs ls pc rfl hW ra
          · simp only [Option.some.injEq, Prod.mk.injEq] at hr
            obtain ⟨rfl, rfl, rfl⟩ := hr
            obtain ⟨t1, Qc, XC, mc, ms, free, rfl, t2, t3, t4, t5⟩ := TK cls rfl
            exact thr_site (T pc i n9 g cls hcode hct) F hS hT hW hl t1 ⟨by omega, by omega, hR3, hR4⟩ (t5 H locs hW) t4 t2 t3
          · have hcall : ∃ (b : Bool) (i : Nat) (y : MI), decode (miB q) pc = .ok (bif b then Instr.invokestatic i else Instr.invokevirtual i, 3) ∧ cpM (miK q) i = some y ∧ callO y b (pc + 3) st h = some (cs, .inr z) := by
              rcases hcall with ⟨i, y, a1, a2, a3⟩ | ⟨i, y, a1, a2, a3⟩
              · exact ⟨true, i, y, a1, a2, a3⟩
              · exact ⟨false, i, y, a1, a2, a3⟩
            obtain ⟨b, i, y, hdec, hcp, hco⟩ := hcall
            obtain ⟨hL, My⟩ := cpM_ok _ _ _ hcp
            have Ty := cpT_ok _ _ _ hcp
            have Ky := cpK_ok _ _ _ hcp
            obtain ⟨rfl, -⟩ := callO_inv hco
            dsimp only at hr
            cases d with
            | zero => cases hr
            | succ d =>
              dsimp only at hr
              cases hq : prun n d y 0 (entP y (st.take (miA y)).reverse) [] h with
              | none =>
                rw [hq] at hr
                cases hr
              | some x1 =>
                obtain ⟨o1, h1, k1⟩ := x1
                rw [hq] at hr
                cases o1 with
                | inl v =>
                  dsimp only at hr
                  obtain ⟨j, hj, rfl⟩ := addK_some hr
                  have hk : MOKc y ∨ (MOKw y ∧ ∃ w, (Sum.inl v : Option Value ⊕ String) = .inl w) := Ky.elim Or.inl (fun z => Or.inr ⟨z, v, rfl⟩)
                  refine callG (E0 := "") (vr := v.map (trV ad)) (B := PostC ad tid D (va_A (trW ad tid 0 h.2) H.size) h1) (call_run ih F hS hT hW hl hdec hL My Ty hco hq hk ⟨by omega, by omega⟩ ⟨by omega, by omega⟩) hW.2.2.2.1 (fun z _ hz => hW.free z hz) hW.free ?_ ?_ ?_ ?_
                  · intro st9 t w hw
                    obtain ⟨⟨v9, a1, a2⟩, a3, a4⟩ := hw
                    cases a1
                    cases a2
                    exact ⟨rfl, a3, a4⟩
                  · intro E st9 t hw
                    cases hw.1
                  · rintro ⟨_, _, hw⟩
                    cases hw.1
                  · intro _ t H1 locs1 ht hal hB hS1
                    have hW1 := hW.post ht hB hS1
                    have hm : (v.toList ++ st.drop (miA y)).map (trV ad) = (v.map (trV ad)).toList ++ (st.drop (miA y)).map (trV ad) := by cases v <;> rfl
                    rw [← hm]
                    have e1 : cells + k1 + j = cells + (k1 + j) := Nat.add_assoc _ _ _
                    have e2 : slots + 6 * k1 + 6 * j = slots + 6 * (k1 + j) := by omega
                    exact ih (d + 1) q (pc + 3) pl (v.toList ++ st.drop (miA y)) h1 o h' j hj M T p l e R s m args below meth c H1 locs1 (cells + k1) (slots + 6 * k1) Q ad tid D A ls F hS hT (fun z => by rw [prun_scr hq]; exact hX z) hH hR1 hR2 (by omega) (by omega) hW1 hl (by rw [e1, e2]; exact RK) (by rw [e1, e2]; exact TK)
                | inr x1 =>
                  dsimp only at hr
                  cases hy : (miH y).isEmpty with
                  | false =>
                    rw [hy] at hr
                    cases hr
                  | true =>
                    rw [hy] at hr
                    dsimp only [cond_true] at hr
                    have hk : MOKc y ∨ (MOKw y ∧ ∃ w, (Sum.inr x1 : Option Value ⊕ String) = .inl w) := Ky.elim Or.inl (fun z => by
                      have z3 := z.2.2.1
                      rw [hy] at z3
                      cases z3)
                    cases hh : hndF pc x1 (miH q) with
                    | none =>
                      rw [hh] at hr
                      simp only [Option.some.injEq, Prod.mk.injEq] at hr
                      obtain ⟨rfl, rfl, rfl⟩ := hr
                      obtain ⟨t1, Qc, XC, mc, ms, free, rfl, t2, t3, t4, t5⟩ := TK x1 rfl
                      refine callG (E0 := x1) (vr := none) (B := PostC ad tid D (va_A (trW ad tid 0 h.2) H.size) h1) (call_run ih F hS hT hW hl hdec hL My Ty hco hq hk ⟨by omega, by omega⟩ ⟨by omega, by omega⟩) hW.2.2.2.1 (fun z _ hz => hW.free z hz) hW.free ?_ ?_ ?_ ?_
                      · intro st9 t w hw
                        obtain ⟨⟨v9, a1, a2⟩, a3, a4⟩ := hw
                        cases a1
                      · intro E st9 t hw
                        obtain ⟨a1, a3, a4⟩ := hw
                        cases a1
                        exact ⟨rfl, a3, a4⟩
                      · intro _ ce q9 t H1 locs1 ht hal hB hS1 hce hcv hcl
                        have hW1 := hW.post ht hB hS1
                        exact vx_out (fun z hz => absurd (t1 z hz) id) F.2.2.2.2.2.2.1 hce hcv hcl (fun t9 ht9 hal9 => t5 H1 locs1 hW1 t9 hal9 (by rw [ht9]; exact Nat.le_refl _) (fun z hz => by rw [ht9])) (fun z hz => t4 _ (hS1.2.2 z hz)) t2 t3
                      · rintro ⟨_, _, hw⟩
                        obtain ⟨⟨v9, a1, a2⟩, a3, a4⟩ := hw
                        cases a1
                    | some w =>
                      obtain ⟨ph, ix⟩ := w
                      rw [hh] at hr
                      dsimp only at hr
                      obtain ⟨j, hj, rfl⟩ := addK_some hr
                      refine callG (E0 := x1) (vr := none) (B := PostC ad tid D (va_A (trW ad tid 0 h.2) H.size) h1) (call_run ih F hS hT hW hl hdec hL My Ty hco hq hk ⟨by omega, by omega⟩ ⟨by omega, by omega⟩) hW.2.2.2.1 (fun z _ hz => hW.free z hz) hW.free ?_ ?_ ?_ ?_
                      · intro st9 t w hw
                        obtain ⟨⟨v9, a1, a2⟩, a3, a4⟩ := hw
                        cases a1
                      · intro E st9 t hw
                        obtain ⟨a1, a3, a4⟩ := hw
                        cases a1
                        exact ⟨rfl, a3, a4⟩
                      · intro _ ce q9 t H1 locs1 ht hal hB hS1 hce hcv hcl
                        have hW1 := hW.post ht hB hS1
                        obtain ⟨pre, suf, x9, b1, b2, b3, b4, b5, b6, b7, b8⟩ := hH pc x1 ph ix hh
                        refine vx_catch F.2.2.2.1 pre x9 suf b1 b2 b3 b4 b5 b6 hce hcv hcl ?_
                        have e1 : cells + k1 + j = cells + (k1 + j) := Nat.add_assoc _ _ _
                        have e2 : slots + 6 * k1 + 6 * j = slots + 6 * (k1 + j) := by omega
                        have go : ∀ ls' : Array Slot, PHas ad ls' (miL q) (setL pl ix none) → W p l e R s m args below meth c H1 locs1 (cells + k1) (slots + 6 * k1) Q (F0 m ph ls' []) := fun ls' hl' =>
                          ih (d + 1) q ph (setL pl ix none) [] h1 o h' j hj M T p l e R s m args below meth c H1 locs1 (cells + k1) (slots + 6 * k1) Q ad tid D A ls' F hS hT (fun z => by rw [prun_scr hq]; exact hX z) hH hR1 hR2 (by omega) (by omega) hW1 hl' (by rw [e1, e2]; exact RK) (by rw [e1, e2]; exact TK)
                        rcases b7 with ⟨b7, rfl⟩ | ⟨kf, b7, b9, rfl⟩
                        · exact lv_astore F.1 F.2.1 b7 hl.lv b8 rfl (fun ls' hl' => go ls' (hl.st0 hl'))
                        · exact lv_astore_n F.1 F.2.1 b7 b9 hl.lv b8 rfl (fun ls' hl' => go ls' (hl.st0 hl'))
                      · rintro ⟨_, _, hw⟩
                        obtain ⟨⟨v9, a1, a2⟩, a3, a4⟩ := hw
                        cases a1
      · rw [if_neg hc] at hr
        cases hr
