/-! what the tables say of fields, constants, methods: by program (gen_sound.py), each closed by the kernel -/
theorem uwX2 : ∀ w ∈ u_ws RX2 TX2 2, w ∈ WORDS := by decide +kernel
theorem uwX3 : ∀ w ∈ u_ws RX3 TX3 5, w ∈ WORDS := by decide +kernel
theorem uwX4 : ∀ w ∈ u_ws RX4 TX4 4, w ∈ WORDS := by decide +kernel
theorem uwX5 : ∀ w ∈ u_ws RX5 TX5 2, w ∈ WORDS := by decide +kernel
theorem uwX6 : ∀ w ∈ u_ws RX6 TX6 8, w ∈ WORDS := by decide +kernel
theorem uwX7 : ∀ w ∈ u_ws RX7 TX7 22, w ∈ WORDS := by decide +kernel
theorem fkX6_10 : FOK 6 10 (4, 0, 3) := ⟨RX6, TX6, 8, tyX6, rfl, by decide, uwX6, wm 177 (by decide +kernel) rfl, rfl, tyX6_ok, nmX6, fun z => absurd z (by decide)⟩
theorem fkX6_16 : FOK 6 16 (4, 1, 3) := ⟨RX6, TX6, 8, tyX6, rfl, by decide, uwX6, wm 178 (by decide +kernel) rfl, rfl, tyX6_ok, nmX6, fun z => absurd z (by decide)⟩
theorem fkX6_19 : FOK 6 19 (4, 2, 3) := ⟨RX6, TX6, 8, tyX6, rfl, by decide, uwX6, wm 179 (by decide +kernel) rfl, rfl, tyX6_ok, nmX6, fun z => absurd z (by decide)⟩
theorem fkX6_26 : FOK 6 26 (4, 3, 3) := ⟨RX6, TX6, 8, tyX6, rfl, by decide, uwX6, wm 180 (by decide +kernel) rfl, rfl, tyX6_ok, nmX6, fun z => absurd z (by decide)⟩
theorem fkX6_33 : FOK 6 33 (4, 4, 3) := ⟨RX6, TX6, 8, tyX6, rfl, by decide, uwX6, wm 181 (by decide +kernel) rfl, rfl, tyX6_ok, nmX6, fun z => absurd z (by decide)⟩
theorem fkX6_40 : FOK 6 40 (4, 5, 3) := ⟨RX6, TX6, 8, tyX6, rfl, by decide, uwX6, wm 182 (by decide +kernel) rfl, rfl, tyX6_ok, nmX6, fun z => absurd z (by decide)⟩
theorem fkX3_9 : FOK 3 9 (1, 0, 3) := ⟨RX3, TX3, 5, tyX3, rfl, by decide, uwX3, wm 95 (by decide +kernel) rfl, rfl, tyX3_ok, nmX3, fun z => absurd z (by decide)⟩
theorem fkX5_9 : FOK 5 9 (3, 0, 3) := ⟨RX5, TX5, 2, tyX5, rfl, by decide, uwX5, wm 130 (by decide +kernel) rfl, rfl, tyX5_ok, nmX5, fun z => absurd z (by decide)⟩
theorem fkX4_9 : FOK 4 9 (2, 0, 3) := ⟨RX4, TX4, 4, tyX4, rfl, by decide, uwX4, wm 160 (by decide +kernel) rfl, rfl, tyX4_ok, nmX4, fun z => absurd z (by decide)⟩
theorem fkX7_7 : FOK 7 7 (5, 0, 3) := ⟨RX7, TX7, 22, tyX7, rfl, by decide, uwX7, wm 999 (by decide +kernel) rfl, rfl, tyX7_ok, nmX7, fun z => absurd z (by decide)⟩
theorem fkX7_13 : FOK 7 13 (5, 1, 3) := ⟨RX7, TX7, 22, tyX7, rfl, by decide, uwX7, wm 1000 (by decide +kernel) rfl, rfl, tyX7_ok, nmX7, fun z => absurd z (by decide)⟩
theorem fkX7_16 : FOK 7 16 (5, 3, 3) := ⟨RX7, TX7, 22, tyX7, rfl, by decide, uwX7, wm 1002 (by decide +kernel) rfl, rfl, tyX7_ok, nmX7, fun z => absurd z (by decide)⟩
theorem fkX7_19 : FOK 7 19 (5, 5, 3) := ⟨RX7, TX7, 22, tyX7, rfl, by decide, uwX7, wm 1004 (by decide +kernel) rfl, rfl, tyX7_ok, nmX7, fun z => absurd z (by decide)⟩
theorem fkX7_22 : FOK 7 22 (5, 6, 3) := ⟨RX7, TX7, 22, tyX7, rfl, by decide, uwX7, wm 1005 (by decide +kernel) rfl, rfl, tyX7_ok, nmX7, fun z => absurd z (by decide)⟩
theorem fkX7_25 : FOK 7 25 (5, 9, 3) := ⟨RX7, TX7, 22, tyX7, rfl, by decide, uwX7, wm 1008 (by decide +kernel) rfl, rfl, tyX7_ok, nmX7, fun z => absurd z (by decide)⟩
theorem fkX7_28 : FOK 7 28 (5, 10, 3) := ⟨RX7, TX7, 22, tyX7, rfl, by decide, uwX7, wm 1009 (by decide +kernel) rfl, rfl, tyX7_ok, nmX7, fun z => absurd z (by decide)⟩
theorem fkX7_31 : FOK 7 31 (5, 13, 3) := ⟨RX7, TX7, 22, tyX7, rfl, by decide, uwX7, wm 1012 (by decide +kernel) rfl, rfl, tyX7_ok, nmX7, fun z => absurd z (by decide)⟩
theorem fkX7_34 : FOK 7 34 (5, 15, 3) := ⟨RX7, TX7, 22, tyX7, rfl, by decide, uwX7, wm 1014 (by decide +kernel) rfl, rfl, tyX7_ok, nmX7, fun z => absurd z (by decide)⟩
theorem fkX7_37 : FOK 7 37 (5, 16, 3) := ⟨RX7, TX7, 22, tyX7, rfl, by decide, uwX7, wm 1015 (by decide +kernel) rfl, rfl, tyX7_ok, nmX7, fun z => absurd z (by decide)⟩
theorem fkX7_40 : FOK 7 40 (5, 17, 3) := ⟨RX7, TX7, 22, tyX7, rfl, by decide, uwX7, wm 1016 (by decide +kernel) rfl, rfl, tyX7_ok, nmX7, fun z => absurd z (by decide)⟩
theorem fkX7_43 : FOK 7 43 (5, 21, 3) := ⟨RX7, TX7, 22, tyX7, rfl, by decide, uwX7, wm 1020 (by decide +kernel) rfl, rfl, tyX7_ok, nmX7, fun z => absurd z (by decide)⟩
theorem fkX6_78 : FOK 6 78 (1, 1, 0) := ⟨RX3, TX3, 5, tyX3, rfl, by decide, uwX3, wm 102 (by decide +kernel) rfl, rfl, tyX3_ok, nmX3, fun _ => ⟨rfl, by decide +kernel⟩⟩
theorem fkX6_175 : FOK 6 175 (4, 6, 0) := ⟨RX6, TX6, 8, tyX6, rfl, by decide, uwX6, wm 183 (by decide +kernel) rfl, rfl, tyX6_ok, nmX6, fun _ => ⟨rfl, by decide +kernel⟩⟩
theorem fkX6_180 : FOK 6 180 (2, 3, 2) := ⟨RX4, TX4, 4, tyX4, rfl, by decide, uwX4, wm 167 (by decide +kernel) rfl, rfl, tyX4_ok, nmX4, fun _ => ⟨rfl, by decide +kernel⟩⟩
theorem fkX3_21 : FOK 3 21 (1, 1, 0) := ⟨RX3, TX3, 5, tyX3, rfl, by decide, uwX3, wm 99 (by decide +kernel) rfl, rfl, tyX3_ok, nmX3, fun _ => ⟨rfl, by decide +kernel⟩⟩
theorem fkX3_25 : FOK 3 25 (1, 2, 1) := ⟨RX3, TX3, 5, tyX3, rfl, by decide, uwX3, wm 104 (by decide +kernel) rfl, rfl, tyX3_ok, nmX3, fun _ => ⟨rfl, by decide +kernel⟩⟩
theorem fkX3_29 : FOK 3 29 (1, 3, 0) := ⟨RX3, TX3, 5, tyX3, rfl, by decide, uwX3, wm 107 (by decide +kernel) rfl, rfl, tyX3_ok, nmX3, fun _ => ⟨rfl, by decide +kernel⟩⟩
theorem fkX3_32 : FOK 3 32 (1, 4, 0) := ⟨RX3, TX3, 5, tyX3, rfl, by decide, uwX3, wm 109 (by decide +kernel) rfl, rfl, tyX3_ok, nmX3, fun _ => ⟨rfl, by decide +kernel⟩⟩
theorem fkX7_46 : FOK 7 46 (5, 8, 0) := ⟨RX7, TX7, 22, tyX7, rfl, by decide, uwX7, wm 1007 (by decide +kernel) rfl, rfl, tyX7_ok, nmX7, fun _ => ⟨rfl, by decide +kernel⟩⟩
theorem fkX7_54 : FOK 7 54 (5, 2, 0) := ⟨RX7, TX7, 22, tyX7, rfl, by decide, uwX7, wm 1001 (by decide +kernel) rfl, rfl, tyX7_ok, nmX7, fun _ => ⟨rfl, by decide +kernel⟩⟩
theorem fkX6_85 : FOK 6 85 (1, 2, 1) := ⟨RX3, TX3, 5, tyX3, rfl, by decide, uwX3, wm 106 (by decide +kernel) rfl, rfl, tyX3_ok, nmX3, fun _ => ⟨rfl, by decide +kernel⟩⟩
theorem fkX6_124 : FOK 6 124 (0, 0, 1) := ⟨RX2, TX2, 2, tyX2, rfl, by decide, uwX2, wm 146 (by decide +kernel) rfl, rfl, tyX2_ok, nmX2, fun _ => ⟨rfl, by decide +kernel⟩⟩
theorem fkX2_46 : FOK 2 46 (0, 0, 1) := ⟨RX2, TX2, 2, tyX2, rfl, by decide, uwX2, wm 145 (by decide +kernel) rfl, rfl, tyX2_ok, nmX2, fun _ => ⟨rfl, by decide +kernel⟩⟩
theorem fkX2_49 : FOK 2 49 (0, 1, 0) := ⟨RX2, TX2, 2, tyX2, rfl, by decide, uwX2, wm 147 (by decide +kernel) rfl, rfl, tyX2_ok, nmX2, fun _ => ⟨rfl, by decide +kernel⟩⟩
theorem fkX2_11 : FOK 2 11 (1, 2, 1) := ⟨RX3, TX3, 5, tyX3, rfl, by decide, uwX3, wm 103 (by decide +kernel) rfl, rfl, tyX3_ok, nmX3, fun _ => ⟨rfl, by decide +kernel⟩⟩
theorem fkX2_26 : FOK 2 26 (1, 1, 0) := ⟨RX3, TX3, 5, tyX3, rfl, by decide, uwX3, wm 100 (by decide +kernel) rfl, rfl, tyX3_ok, nmX3, fun _ => ⟨rfl, by decide +kernel⟩⟩
theorem fkX2_30 : FOK 2 30 (1, 0, 3) := ⟨RX3, TX3, 5, tyX3, rfl, by decide, uwX3, wm 96 (by decide +kernel) rfl, rfl, tyX3_ok, nmX3, fun z => absurd z (by decide)⟩
theorem fkX7_106 : FOK 7 106 (5, 12, 2) := ⟨RX7, TX7, 22, tyX7, rfl, by decide, uwX7, wm 1011 (by decide +kernel) rfl, rfl, tyX7_ok, nmX7, fun _ => ⟨rfl, by decide +kernel⟩⟩
theorem fkX7_125 : FOK 7 125 (5, 11, 0) := ⟨RX7, TX7, 22, tyX7, rfl, by decide, uwX7, wm 1010 (by decide +kernel) rfl, rfl, tyX7_ok, nmX7, fun _ => ⟨rfl, by decide +kernel⟩⟩
theorem fkX6_140 : FOK 6 140 (3, 1, 0) := ⟨RX5, TX5, 2, tyX5, rfl, by decide, uwX5, wm 133 (by decide +kernel) rfl, rfl, tyX5_ok, nmX5, fun _ => ⟨rfl, by decide +kernel⟩⟩
theorem fkX6_145 : FOK 6 145 (3, 0, 3) := ⟨RX5, TX5, 2, tyX5, rfl, by decide, uwX5, wm 131 (by decide +kernel) rfl, rfl, tyX5_ok, nmX5, fun z => absurd z (by decide)⟩
theorem fkX7_151 : FOK 7 151 (5, 7, 0) := ⟨RX7, TX7, 22, tyX7, rfl, by decide, uwX7, wm 1006 (by decide +kernel) rfl, rfl, tyX7_ok, nmX7, fun _ => ⟨rfl, by decide +kernel⟩⟩
theorem fkX5_15 : FOK 5 15 (3, 1, 0) := ⟨RX5, TX5, 2, tyX5, rfl, by decide, uwX5, wm 132 (by decide +kernel) rfl, rfl, tyX5_ok, nmX5, fun _ => ⟨rfl, by decide +kernel⟩⟩
theorem fkX7_154 : FOK 7 154 (5, 19, 2) := ⟨RX7, TX7, 22, tyX7, rfl, by decide, uwX7, wm 1018 (by decide +kernel) rfl, rfl, tyX7_ok, nmX7, fun _ => ⟨rfl, by decide +kernel⟩⟩
theorem fkX7_157 : FOK 7 157 (5, 18, 0) := ⟨RX7, TX7, 22, tyX7, rfl, by decide, uwX7, wm 1017 (by decide +kernel) rfl, rfl, tyX7_ok, nmX7, fun _ => ⟨rfl, by decide +kernel⟩⟩
theorem fkX6_169 : FOK 6 169 (4, 7, 2) := ⟨RX6, TX6, 8, tyX6, rfl, by decide, uwX6, wm 184 (by decide +kernel) rfl, rfl, tyX6_ok, nmX6, fun _ => ⟨rfl, by decide +kernel⟩⟩
theorem fkX7_181 : FOK 7 181 (5, 4, 2) := ⟨RX7, TX7, 22, tyX7, rfl, by decide, uwX7, wm 1003 (by decide +kernel) rfl, rfl, tyX7_ok, nmX7, fun _ => ⟨rfl, by decide +kernel⟩⟩
theorem fkX6_183 : FOK 6 183 (1, 0, 3) := ⟨RX3, TX3, 5, tyX3, rfl, by decide, uwX3, wm 98 (by decide +kernel) rfl, rfl, tyX3_ok, nmX3, fun z => absurd z (by decide)⟩
theorem fkX6_204 : FOK 6 204 (1, 3, 0) := ⟨RX3, TX3, 5, tyX3, rfl, by decide, uwX3, wm 108 (by decide +kernel) rfl, rfl, tyX3_ok, nmX3, fun _ => ⟨rfl, by decide +kernel⟩⟩
theorem fkX6_207 : FOK 6 207 (1, 4, 0) := ⟨RX3, TX3, 5, tyX3, rfl, by decide, uwX3, wm 110 (by decide +kernel) rfl, rfl, tyX3_ok, nmX3, fun _ => ⟨rfl, by decide +kernel⟩⟩
theorem fkX6_221 : FOK 6 221 (0, 1, 0) := ⟨RX2, TX2, 2, tyX2, rfl, by decide, uwX2, wm 148 (by decide +kernel) rfl, rfl, tyX2_ok, nmX2, fun _ => ⟨rfl, by decide +kernel⟩⟩
theorem fkX6_255 : FOK 6 255 (2, 1, 0) := ⟨RX4, TX4, 4, tyX4, rfl, by decide, uwX4, wm 163 (by decide +kernel) rfl, rfl, tyX4_ok, nmX4, fun _ => ⟨rfl, by decide +kernel⟩⟩
theorem fkX4_19 : FOK 4 19 (2, 3, 2) := ⟨RX4, TX4, 4, tyX4, rfl, by decide, uwX4, wm 166 (by decide +kernel) rfl, rfl, tyX4_ok, nmX4, fun _ => ⟨rfl, by decide +kernel⟩⟩
theorem fkX4_23 : FOK 4 23 (2, 1, 0) := ⟨RX4, TX4, 4, tyX4, rfl, by decide, uwX4, wm 162 (by decide +kernel) rfl, rfl, tyX4_ok, nmX4, fun _ => ⟨rfl, by decide +kernel⟩⟩
theorem fkX4_27 : FOK 4 27 (2, 2, 1) := ⟨RX4, TX4, 4, tyX4, rfl, by decide, uwX4, wm 164 (by decide +kernel) rfl, rfl, tyX4_ok, nmX4, fun _ => ⟨rfl, by decide +kernel⟩⟩
theorem fkX4_35 : FOK 4 35 (1, 2, 1) := ⟨RX3, TX3, 5, tyX3, rfl, by decide, uwX3, wm 105 (by decide +kernel) rfl, rfl, tyX3_ok, nmX3, fun _ => ⟨rfl, by decide +kernel⟩⟩
theorem fkX4_44 : FOK 4 44 (1, 1, 0) := ⟨RX3, TX3, 5, tyX3, rfl, by decide, uwX3, wm 101 (by decide +kernel) rfl, rfl, tyX3_ok, nmX3, fun _ => ⟨rfl, by decide +kernel⟩⟩
theorem fkX4_47 : FOK 4 47 (1, 0, 3) := ⟨RX3, TX3, 5, tyX3, rfl, by decide, uwX3, wm 97 (by decide +kernel) rfl, rfl, tyX3_ok, nmX3, fun z => absurd z (by decide)⟩
theorem fkX7_137 : FOK 7 137 (5, 14, 0) := ⟨RX7, TX7, 22, tyX7, rfl, by decide, uwX7, wm 1013 (by decide +kernel) rfl, rfl, tyX7_ok, nmX7, fun _ => ⟨rfl, by decide +kernel⟩⟩
theorem fkX6_268 : FOK 6 268 (2, 2, 1) := ⟨RX4, TX4, 4, tyX4, rfl, by decide, uwX4, wm 165 (by decide +kernel) rfl, rfl, tyX4_ok, nmX4, fun _ => ⟨rfl, by decide +kernel⟩⟩
theorem fkX6_271 : FOK 6 271 (2, 0, 3) := ⟨RX4, TX4, 4, tyX4, rfl, by decide, uwX4, wm 161 (by decide +kernel) rfl, rfl, tyX4_ok, nmX4, fun z => absurd z (by decide)⟩
theorem fkX7_225 : FOK 7 225 (5, 20, 1) := ⟨RX7, TX7, 22, tyX7, rfl, by decide, uwX7, wm 1019 (by decide +kernel) rfl, rfl, tyX7_ok, nmX7, fun _ => ⟨rfl, by decide +kernel⟩⟩
theorem cpF_all : ∀ (k : Nat) r, cpFs[k]? = some r → ∀ y ∈ r, FOK k y.1 y.2
  | 0, r, h => by cases h; exact fun _ h => absurd h List.not_mem_nil
  | 1, r, h => by cases h; exact fun _ h => absurd h List.not_mem_nil
  | 2, r, h => by cases h; exact List.forall_mem_cons.mpr ⟨fkX2_11, List.forall_mem_cons.mpr ⟨fkX2_26, List.forall_mem_cons.mpr ⟨fkX2_30, List.forall_mem_cons.mpr ⟨fkX2_46, List.forall_mem_cons.mpr ⟨fkX2_49, fun _ h => absurd h List.not_mem_nil⟩⟩⟩⟩⟩
  | 3, r, h => by cases h; exact List.forall_mem_cons.mpr ⟨fkX3_9, List.forall_mem_cons.mpr ⟨fkX3_21, List.forall_mem_cons.mpr ⟨fkX3_25, List.forall_mem_cons.mpr ⟨fkX3_29, List.forall_mem_cons.mpr ⟨fkX3_32, fun _ h => absurd h List.not_mem_nil⟩⟩⟩⟩⟩
  | 4, r, h => by cases h; exact List.forall_mem_cons.mpr ⟨fkX4_9, List.forall_mem_cons.mpr ⟨fkX4_19, List.forall_mem_cons.mpr ⟨fkX4_23, List.forall_mem_cons.mpr ⟨fkX4_27, List.forall_mem_cons.mpr ⟨fkX4_35, List.forall_mem_cons.mpr ⟨fkX4_44, List.forall_mem_cons.mpr ⟨fkX4_47, fun _ h => absurd h List.not_mem_nil⟩⟩⟩⟩⟩⟩⟩
  | 5, r, h => by cases h; exact List.forall_mem_cons.mpr ⟨fkX5_9, List.forall_mem_cons.mpr ⟨fkX5_15, fun _ h => absurd h List.not_mem_nil⟩⟩
  | 6, r, h => by cases h; exact List.forall_mem_cons.mpr ⟨fkX6_10, List.forall_mem_cons.mpr ⟨fkX6_16, List.forall_mem_cons.mpr ⟨fkX6_19, List.forall_mem_cons.mpr ⟨fkX6_26, List.forall_mem_cons.mpr ⟨fkX6_33, List.forall_mem_cons.mpr ⟨fkX6_40, List.forall_mem_cons.mpr ⟨fkX6_78, List.forall_mem_cons.mpr ⟨fkX6_85, List.forall_mem_cons.mpr ⟨fkX6_124, List.forall_mem_cons.mpr ⟨fkX6_140, List.forall_mem_cons.mpr ⟨fkX6_145, List.forall_mem_cons.mpr ⟨fkX6_169, List.forall_mem_cons.mpr ⟨fkX6_175, List.forall_mem_cons.mpr ⟨fkX6_180, List.forall_mem_cons.mpr ⟨fkX6_183, List.forall_mem_cons.mpr ⟨fkX6_204, List.forall_mem_cons.mpr ⟨fkX6_207, List.forall_mem_cons.mpr ⟨fkX6_221, List.forall_mem_cons.mpr ⟨fkX6_255, List.forall_mem_cons.mpr ⟨fkX6_268, List.forall_mem_cons.mpr ⟨fkX6_271, fun _ h => absurd h List.not_mem_nil⟩⟩⟩⟩⟩⟩⟩⟩⟩⟩⟩⟩⟩⟩⟩⟩⟩⟩⟩⟩⟩
  | 7, r, h => by cases h; exact List.forall_mem_cons.mpr ⟨fkX7_7, List.forall_mem_cons.mpr ⟨fkX7_13, List.forall_mem_cons.mpr ⟨fkX7_16, List.forall_mem_cons.mpr ⟨fkX7_19, List.forall_mem_cons.mpr ⟨fkX7_22, List.forall_mem_cons.mpr ⟨fkX7_25, List.forall_mem_cons.mpr ⟨fkX7_28, List.forall_mem_cons.mpr ⟨fkX7_31, List.forall_mem_cons.mpr ⟨fkX7_34, List.forall_mem_cons.mpr ⟨fkX7_37, List.forall_mem_cons.mpr ⟨fkX7_40, List.forall_mem_cons.mpr ⟨fkX7_43, List.forall_mem_cons.mpr ⟨fkX7_46, List.forall_mem_cons.mpr ⟨fkX7_54, List.forall_mem_cons.mpr ⟨fkX7_106, List.forall_mem_cons.mpr ⟨fkX7_125, List.forall_mem_cons.mpr ⟨fkX7_137, List.forall_mem_cons.mpr ⟨fkX7_151, List.forall_mem_cons.mpr ⟨fkX7_154, List.forall_mem_cons.mpr ⟨fkX7_157, List.forall_mem_cons.mpr ⟨fkX7_181, List.forall_mem_cons.mpr ⟨fkX7_225, fun _ h => absurd h List.not_mem_nil⟩⟩⟩⟩⟩⟩⟩⟩⟩⟩⟩⟩⟩⟩⟩⟩⟩⟩⟩⟩⟩⟩
  | 8, r, h => by cases h; exact fun _ h => absurd h List.not_mem_nil
  | 9, r, h => by cases h; exact fun _ h => absurd h List.not_mem_nil
  | 10, r, h => by cases h; exact fun _ h => absurd h List.not_mem_nil
  | 11, r, h => by cases h; exact fun _ h => absurd h List.not_mem_nil
  | 12, r, h => by cases h; exact fun _ h => absurd h List.not_mem_nil
  | k + 13, r, h => by cases h
theorem cpF_ok (k i : Nat) (x : Nat × Nat × Nat) (h : cpF k i = some x) : FOK k i x := by
  obtain ⟨r, hr, hm⟩ := fnd2_mem h
  exact cpF_all k r hr (i, x) hm
theorem cpLkX3_47 : Cond.constantLong (kN 3) 47 (-1) ∈ WORDS := wm 232 (by decide +kernel) rfl
theorem cpLkJ13_314 : Cond.constantLong (kN 10) 314 (6148914691236517205) ∈ WORDS := wm 229 (by decide +kernel) rfl
theorem cpLkJ13_316 : Cond.constantLong (kN 10) 316 (3689348814741910323) ∈ WORDS := wm 230 (by decide +kernel) rfl
theorem cpLkJ13_318 : Cond.constantLong (kN 10) 318 (1085102592571150095) ∈ WORDS := wm 231 (by decide +kernel) rfl
theorem cpLkX6_118 : Cond.constantLong (kN 6) 118 (281474976710655) ∈ WORDS := wm 221 (by decide +kernel) rfl
theorem cpLkX6_133 : Cond.constantLong (kN 6) 133 (-1) ∈ WORDS := wm 875 (by decide +kernel) rfl
theorem cpLkX2_17 : Cond.constantLong (kN 2) 17 (-1) ∈ WORDS := wm 401 (by decide +kernel) rfl
theorem cpLkX2_9 : Cond.constantLong (kN 2) 9 (281474976710655) ∈ WORDS := wm 400 (by decide +kernel) rfl
theorem cpLkX1_17 : Cond.constantLong (kN 1) 17 (-1) ∈ WORDS := wm 419 (by decide +kernel) rfl
theorem cpLkX1_27 : Cond.constantLong (kN 1) 27 (18764998447377) ∈ WORDS := wm 414 (by decide +kernel) rfl
theorem cpLkX1_15 : Cond.constantLong (kN 1) 15 (15) ∈ WORDS := wm 415 (by decide +kernel) rfl
theorem cpLkX1_48 : Cond.constantLong (kN 1) 48 (281410551218160) ∈ WORDS := wm 423 (by decide +kernel) rfl
theorem cpLkX1_50 : Cond.constantLong (kN 1) 50 (64425492495) ∈ WORDS := wm 424 (by decide +kernel) rfl
theorem cpLkX1_52 : Cond.constantLong (kN 1) 52 (280379743338240) ∈ WORDS := wm 425 (by decide +kernel) rfl
theorem cpLkX1_54 : Cond.constantLong (kN 1) 54 (1095233372415) ∈ WORDS := wm 426 (by decide +kernel) rfl
theorem cpLkX1_56 : Cond.constantLong (kN 1) 56 (263886817259520) ∈ WORDS := wm 427 (by decide +kernel) rfl
theorem cpLkX1_58 : Cond.constantLong (kN 1) 58 (17588159451135) ∈ WORDS := wm 428 (by decide +kernel) rfl
theorem cpLkX1_63 : Cond.constantLong (kN 1) 63 (281474976710655) ∈ WORDS := wm 461 (by decide +kernel) rfl
theorem cpLkX6_289 : Cond.constantLong (kN 6) 289 (4217) ∈ WORDS := wm 579 (by decide +kernel) rfl
theorem cpLkX6_388 : Cond.constantLong (kN 6) 388 (31) ∈ WORDS := wm 583 (by decide +kernel) rfl
theorem cpLkX7_229 : Cond.constantLong (kN 7) 229 (4217) ∈ WORDS := wm 1419 (by decide +kernel) rfl
theorem cpLkX7_238 : Cond.constantLong (kN 7) 238 (-1) ∈ WORDS := wm 1428 (by decide +kernel) rfl
theorem cpLkX7_223 : Cond.constantLong (kN 7) 223 (31) ∈ WORDS := wm 1424 (by decide +kernel) rfl
theorem cpLkX7_221 : Cond.constantLong (kN 7) 221 (2) ∈ WORDS := wm 1433 (by decide +kernel) rfl
theorem cpL_all : ∀ (k : Nat) r, cpLs[k]? = some r → ∀ y ∈ r, Cond.constantLong (kN k) y.1 y.2 ∈ WORDS
  | 0, r, h => by cases h; exact fun _ h => absurd h List.not_mem_nil
  | 1, r, h => by cases h; exact List.forall_mem_cons.mpr ⟨cpLkX1_15, List.forall_mem_cons.mpr ⟨cpLkX1_17, List.forall_mem_cons.mpr ⟨cpLkX1_27, List.forall_mem_cons.mpr ⟨cpLkX1_48, List.forall_mem_cons.mpr ⟨cpLkX1_50, List.forall_mem_cons.mpr ⟨cpLkX1_52, List.forall_mem_cons.mpr ⟨cpLkX1_54, List.forall_mem_cons.mpr ⟨cpLkX1_56, List.forall_mem_cons.mpr ⟨cpLkX1_58, List.forall_mem_cons.mpr ⟨cpLkX1_63, fun _ h => absurd h List.not_mem_nil⟩⟩⟩⟩⟩⟩⟩⟩⟩⟩
  | 2, r, h => by cases h; exact List.forall_mem_cons.mpr ⟨cpLkX2_9, List.forall_mem_cons.mpr ⟨cpLkX2_17, fun _ h => absurd h List.not_mem_nil⟩⟩
  | 3, r, h => by cases h; exact List.forall_mem_cons.mpr ⟨cpLkX3_47, fun _ h => absurd h List.not_mem_nil⟩
  | 4, r, h => by cases h; exact fun _ h => absurd h List.not_mem_nil
  | 5, r, h => by cases h; exact fun _ h => absurd h List.not_mem_nil
  | 6, r, h => by cases h; exact List.forall_mem_cons.mpr ⟨cpLkX6_118, List.forall_mem_cons.mpr ⟨cpLkX6_133, List.forall_mem_cons.mpr ⟨cpLkX6_289, List.forall_mem_cons.mpr ⟨cpLkX6_388, fun _ h => absurd h List.not_mem_nil⟩⟩⟩⟩
  | 7, r, h => by cases h; exact List.forall_mem_cons.mpr ⟨cpLkX7_221, List.forall_mem_cons.mpr ⟨cpLkX7_223, List.forall_mem_cons.mpr ⟨cpLkX7_229, List.forall_mem_cons.mpr ⟨cpLkX7_238, fun _ h => absurd h List.not_mem_nil⟩⟩⟩⟩
  | 8, r, h => by cases h; exact fun _ h => absurd h List.not_mem_nil
  | 9, r, h => by cases h; exact fun _ h => absurd h List.not_mem_nil
  | 10, r, h => by cases h; exact List.forall_mem_cons.mpr ⟨cpLkJ13_314, List.forall_mem_cons.mpr ⟨cpLkJ13_316, List.forall_mem_cons.mpr ⟨cpLkJ13_318, fun _ h => absurd h List.not_mem_nil⟩⟩⟩
  | 11, r, h => by cases h; exact fun _ h => absurd h List.not_mem_nil
  | 12, r, h => by cases h; exact fun _ h => absurd h List.not_mem_nil
  | k + 13, r, h => by cases h
theorem cpL_ok (k i : Nat) (x : Int64) (h : cpL k i = some x) : Cond.constantLong (kN k) i x ∈ WORDS := by
  obtain ⟨r, hr, hm⟩ := fnd2_mem h
  exact cpL_all k r hr (i, x) hm
theorem cpIkJ6_265 : Cond.constant (kN 9) 265 (1431655765) ∈ WORDS := wm 378 (by decide +kernel) rfl
theorem cpIkJ6_266 : Cond.constant (kN 9) 266 (858993459) ∈ WORDS := wm 379 (by decide +kernel) rfl
theorem cpIkJ6_267 : Cond.constant (kN 9) 267 (252645135) ∈ WORDS := wm 380 (by decide +kernel) rfl
theorem cpI_all : ∀ (k : Nat) r, cpIs[k]? = some r → ∀ y ∈ r, Cond.constant (kN k) y.1 y.2 ∈ WORDS
  | 0, r, h => by cases h; exact fun _ h => absurd h List.not_mem_nil
  | 1, r, h => by cases h; exact fun _ h => absurd h List.not_mem_nil
  | 2, r, h => by cases h; exact fun _ h => absurd h List.not_mem_nil
  | 3, r, h => by cases h; exact fun _ h => absurd h List.not_mem_nil
  | 4, r, h => by cases h; exact fun _ h => absurd h List.not_mem_nil
  | 5, r, h => by cases h; exact fun _ h => absurd h List.not_mem_nil
  | 6, r, h => by cases h; exact fun _ h => absurd h List.not_mem_nil
  | 7, r, h => by cases h; exact fun _ h => absurd h List.not_mem_nil
  | 8, r, h => by cases h; exact fun _ h => absurd h List.not_mem_nil
  | 9, r, h => by cases h; exact List.forall_mem_cons.mpr ⟨cpIkJ6_265, List.forall_mem_cons.mpr ⟨cpIkJ6_266, List.forall_mem_cons.mpr ⟨cpIkJ6_267, fun _ h => absurd h List.not_mem_nil⟩⟩⟩
  | 10, r, h => by cases h; exact fun _ h => absurd h List.not_mem_nil
  | 11, r, h => by cases h; exact fun _ h => absurd h List.not_mem_nil
  | 12, r, h => by cases h; exact fun _ h => absurd h List.not_mem_nil
  | k + 13, r, h => by cases h
theorem cpI_ok (k i : Nat) (x : Int32) (h : cpI k i = some x) : Cond.constant (kN k) i x ∈ WORDS := by
  obtain ⟨r, hr, hm⟩ := fnd2_mem h
  exact cpI_all k r hr (i, x) hm
theorem cpDkX6_370 : Cond.constantDouble (kN 6) 370 (4622945017495814144) ∈ WORDS := wm 551 (by decide +kernel) rfl
theorem cpDkX7_208 : Cond.constantDouble (kN 7) 208 (4622945017495814144) ∈ WORDS := wm 1405 (by decide +kernel) rfl
theorem cpDkX6_409 : Cond.constantDouble (kN 6) 409 (4611686018427387904) ∈ WORDS := wm 724 (by decide +kernel) rfl
theorem cpDkX7_219 : Cond.constantDouble (kN 7) 219 (4611686018427387904) ∈ WORDS := wm 1432 (by decide +kernel) rfl
theorem cpD_all : ∀ (k : Nat) r, cpDs[k]? = some r → ∀ y ∈ r, Cond.constantDouble (kN k) y.1 y.2 ∈ WORDS
  | 0, r, h => by cases h; exact fun _ h => absurd h List.not_mem_nil
  | 1, r, h => by cases h; exact fun _ h => absurd h List.not_mem_nil
  | 2, r, h => by cases h; exact fun _ h => absurd h List.not_mem_nil
  | 3, r, h => by cases h; exact fun _ h => absurd h List.not_mem_nil
  | 4, r, h => by cases h; exact fun _ h => absurd h List.not_mem_nil
  | 5, r, h => by cases h; exact fun _ h => absurd h List.not_mem_nil
  | 6, r, h => by cases h; exact List.forall_mem_cons.mpr ⟨cpDkX6_370, List.forall_mem_cons.mpr ⟨cpDkX6_409, fun _ h => absurd h List.not_mem_nil⟩⟩
  | 7, r, h => by cases h; exact List.forall_mem_cons.mpr ⟨cpDkX7_208, List.forall_mem_cons.mpr ⟨cpDkX7_219, fun _ h => absurd h List.not_mem_nil⟩⟩
  | 8, r, h => by cases h; exact fun _ h => absurd h List.not_mem_nil
  | 9, r, h => by cases h; exact fun _ h => absurd h List.not_mem_nil
  | 10, r, h => by cases h; exact fun _ h => absurd h List.not_mem_nil
  | 11, r, h => by cases h; exact fun _ h => absurd h List.not_mem_nil
  | 12, r, h => by cases h; exact fun _ h => absurd h List.not_mem_nil
  | k + 13, r, h => by cases h
theorem cpD_ok (k i : Nat) (x : UInt64) (h : cpD k i = some x) : Cond.constantDouble (kN k) i x ∈ WORDS := by
  obtain ⟨r, hr, hm⟩ := fnd2_mem h
  exact cpD_all k r hr (i, x) hm
theorem cpXkX6_377 : Cond.constantFloat (kN 6) 377 (1094713344) ∈ WORDS := wm 560 (by decide +kernel) rfl
theorem cpXkX7_210 : Cond.constantFloat (kN 7) 210 (1094713344) ∈ WORDS := wm 1414 (by decide +kernel) rfl
theorem cpX_all : ∀ (k : Nat) r, cpXs[k]? = some r → ∀ y ∈ r, Cond.constantFloat (kN k) y.1 y.2 ∈ WORDS
  | 0, r, h => by cases h; exact fun _ h => absurd h List.not_mem_nil
  | 1, r, h => by cases h; exact fun _ h => absurd h List.not_mem_nil
  | 2, r, h => by cases h; exact fun _ h => absurd h List.not_mem_nil
  | 3, r, h => by cases h; exact fun _ h => absurd h List.not_mem_nil
  | 4, r, h => by cases h; exact fun _ h => absurd h List.not_mem_nil
  | 5, r, h => by cases h; exact fun _ h => absurd h List.not_mem_nil
  | 6, r, h => by cases h; exact List.forall_mem_cons.mpr ⟨cpXkX6_377, fun _ h => absurd h List.not_mem_nil⟩
  | 7, r, h => by cases h; exact List.forall_mem_cons.mpr ⟨cpXkX7_210, fun _ h => absurd h List.not_mem_nil⟩
  | 8, r, h => by cases h; exact fun _ h => absurd h List.not_mem_nil
  | 9, r, h => by cases h; exact fun _ h => absurd h List.not_mem_nil
  | 10, r, h => by cases h; exact fun _ h => absurd h List.not_mem_nil
  | 11, r, h => by cases h; exact fun _ h => absurd h List.not_mem_nil
  | 12, r, h => by cases h; exact fun _ h => absurd h List.not_mem_nil
  | k + 13, r, h => by cases h
theorem cpX_ok (k i : Nat) (x : UInt32) (h : cpX k i = some x) : Cond.constantFloat (kN k) i x ∈ WORDS := by
  obtain ⟨r, hr, hm⟩ := fnd2_mem h
  exact cpX_all k r hr (i, x) hm
