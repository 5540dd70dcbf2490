theorem tst_placesOf (d : Nat) (g : Int64) (i : Int32) (h : PH) : Call d mX1_placesOf [.long g, .int i] h (.inl (some (.int ((g >>> (((4 : Int32) * i).toInt64 &&& 63)).toInt32 &&& 15)))) h 0 := by
  refine Runs.go 8 (cs := []) (pc' := 9) (pl' := [some (.long g), none, some (.int i)]) (st' := [.int ((g >>> (((4 : Int32) * i).toInt64 &&& 63)).toInt32 &&& 15)]) (h' := h) rfl trivial ?_
  exact Runs.ret (cs := []) rfl trivial
theorem tst_has (d : Nat) (g : Int64) (i p : Int32) (h : PH) : Call (d + 1) mX1_has [.long g, .int i, .int p] h (.inl (some (.int (if g &&& ((1 : Int64) <<< ((4 * i + p).toInt64 &&& 63)) = 0 then 0 else 1)))) h 0 := by
  sorry
