theorem mm_eqW {M : mm_M} {Fr : mm_T} {cs ss pc cs2 ss2 : Nat} {l : List (Nat × Value)} {st st2 : List Value} {ws ws2 : mm_W} (h1 : cs = cs2) (h2 : ss = ss2) (h3 : st = st2) (h : ws = ws2) (kk : mm_Wp M Fr cs2 ss2 pc l st2 ws2) : mm_Wp M Fr cs ss pc l st ws := by
  subst h1; subst h2; subst h3; subst h; exact kk
def W_X2 (q_known : Int32) (q_lights : Nat → Int64) (q_places_y : Int32) (q_places_boxes : Int32) (q_places_lastColumn : Int32) (q_places_lastTop : Int32) (q_places_columns : Nat → Int32) : mm_W := [.inr (2, [.ref 1, .int q_known, .ref 2]),
  .inl (1, 42, .inr (.inl q_lights)),
  .inr (3, [.ref 3, .int q_places_y, .int q_places_boxes, .int q_places_lastColumn, .int q_places_lastTop]),
  .inl (0, 3, .inl q_places_columns)]
def W_X0 (q_sets : Int32) (q_size : Int32) (q_least : Int32) (q_greatest : Int32) (q_windows : Nat → Int32) (q_shown : Nat → Int64) (q_soWithout : Nat → Int32) : mm_W := [.inr (0, [.int q_sets, .int q_size, .int q_least, .int q_greatest, .ref 1, .ref 2, .ref 3]),
  .inl (0, 60, .inl q_windows),
  .inl (1, 6, .inr (.inl q_shown)),
  .inl (2, 6, .inl q_soWithout)]
abbrev mX3_init : mm_M := (yX3_init, cX3_init, 1, none, { frames := 1, cells := 1, slots := 3, locals := 20 })
abbrev mX5_init : mm_M := (yX5_init, cX5_init, 1, none, { frames := 1, cells := 10, slots := 58, locals := 20 })
abbrev mX6_init : mm_M := (yX6_init, cX6_init, 1, none, { frames := 1, cells := 1, slots := 3, locals := 20 })
abbrev mX4_init : mm_M := (yX4_init, cX4_init, 1, none, { frames := 1, cells := 3, slots := 600, locals := 20 })
abbrev mX2_init : mm_M := (yX2_init, cX2_init, 1, none, { frames := 2, cells := 3, slots := 50, locals := 40 })
abbrev mX0_init : mm_M := (yX0_init, cX0_init, 1, none, { frames := 1, cells := 3, slots := 72, locals := 20 })
abbrev mX1_init : mm_M := (yX1_init, cX1_init, 6, none, { frames := 2, cells := 14, slots := 691, locals := 40 })
abbrev mX8_init : mm_M := (yX8_init, cX8_init, 2, none, { frames := 1, cells := 18, slots := 14800, locals := 23 })
abbrev mX7_init : mm_M := (yX7_init, cX7_init, 1, none, { frames := 3, cells := 79, slots := 1801, locals := 65 })
theorem oC_X3_3 : Cond.methodLink RX3 3 objectInit ∈ mm_big ∧ Cond.instanceMethod objectInit ∈ mm_big ∧ Cond.code objectInit ⟨#[0xb1]⟩ 1 none ∈ mm_big := ⟨mm_in 240 (by decide +kernel) rfl, mm_in 88 (by decide +kernel) rfl, mm_in 89 (by decide +kernel) rfl⟩
theorem aC_I : Cond.arrayClass .int ∈ mm_big := mm_in 164 (by decide +kernel) rfl
theorem fF_X3_9 : mm_fldP RX3 9 3 0 (.array .int) true := ⟨_, TX3, 5, tyX3, rfl, by decide, mm_in 241 (by decide +kernel) rfl, inX3, tyX3_ok, nmX3, rfl, by decide +kernel⟩
theorem oC_X5_3 : Cond.methodLink RX5 3 objectInit ∈ mm_big ∧ Cond.instanceMethod objectInit ∈ mm_big ∧ Cond.code objectInit ⟨#[0xb1]⟩ 1 none ∈ mm_big := ⟨mm_in 95 (by decide +kernel) rfl, mm_in 88 (by decide +kernel) rfl, mm_in 89 (by decide +kernel) rfl⟩
theorem fF_X5_30 : mm_fldP RX5 30 5 6 (.array .int) true := ⟨_, TX5, 16, tyX5, rfl, by decide, mm_in 112 (by decide +kernel) rfl, inX5, tyX5_ok, nmX5, rfl, by decide +kernel⟩
theorem fF_X5_34 : mm_fldP RX5 34 5 7 (.array .int) true := ⟨_, TX5, 16, tyX5, rfl, by decide, mm_in 113 (by decide +kernel) rfl, inX5, tyX5_ok, nmX5, rfl, by decide +kernel⟩
theorem fF_X5_37 : mm_fldP RX5 37 5 8 (.array .int) true := ⟨_, TX5, 16, tyX5, rfl, by decide, mm_in 114 (by decide +kernel) rfl, inX5, tyX5_ok, nmX5, rfl, by decide +kernel⟩
theorem fF_X5_40 : mm_fldP RX5 40 5 9 (.array .int) true := ⟨_, TX5, 16, tyX5, rfl, by decide, mm_in 115 (by decide +kernel) rfl, inX5, tyX5_ok, nmX5, rfl, by decide +kernel⟩
theorem aC_J : Cond.arrayClass .long ∈ mm_big := mm_in 165 (by decide +kernel) rfl
theorem fF_X5_43 : mm_fldP RX5 43 5 10 (.array .long) true := ⟨_, TX5, 16, tyX5, rfl, by decide, mm_in 116 (by decide +kernel) rfl, inX5, tyX5_ok, nmX5, rfl, by decide +kernel⟩
theorem fF_X5_47 : mm_fldP RX5 47 5 11 (.array .long) true := ⟨_, TX5, 16, tyX5, rfl, by decide, mm_in 117 (by decide +kernel) rfl, inX5, tyX5_ok, nmX5, rfl, by decide +kernel⟩
theorem fF_X5_50 : mm_fldP RX5 50 5 12 (.array .int) true := ⟨_, TX5, 16, tyX5, rfl, by decide, mm_in 121 (by decide +kernel) rfl, inX5, tyX5_ok, nmX5, rfl, by decide +kernel⟩
theorem fF_X5_53 : mm_fldP RX5 53 5 13 (.array .int) true := ⟨_, TX5, 16, tyX5, rfl, by decide, mm_in 125 (by decide +kernel) rfl, inX5, tyX5_ok, nmX5, rfl, by decide +kernel⟩
theorem fF_X5_56 : mm_fldP RX5 56 5 14 (.array .int) true := ⟨_, TX5, 16, tyX5, rfl, by decide, mm_in 127 (by decide +kernel) rfl, inX5, tyX5_ok, nmX5, rfl, by decide +kernel⟩
theorem fF_X5_59 : mm_fldP RX5 59 5 15 (.array .int) true := ⟨_, TX5, 16, tyX5, rfl, by decide, mm_in 129 (by decide +kernel) rfl, inX5, tyX5_ok, nmX5, rfl, by decide +kernel⟩
theorem oC_X6_3 : Cond.methodLink RX6 3 objectInit ∈ mm_big ∧ Cond.instanceMethod objectInit ∈ mm_big ∧ Cond.code objectInit ⟨#[0xb1]⟩ 1 none ∈ mm_big := ⟨mm_in 207 (by decide +kernel) rfl, mm_in 88 (by decide +kernel) rfl, mm_in 89 (by decide +kernel) rfl⟩
theorem fF_X6_9 : mm_fldP RX6 9 6 0 (.array .int) true := ⟨_, TX6, 3, tyX6, rfl, by decide, mm_in 208 (by decide +kernel) rfl, inX6, tyX6_ok, nmX6, rfl, by decide +kernel⟩
theorem oC_X4_3 : Cond.methodLink RX4 3 objectInit ∈ mm_big ∧ Cond.instanceMethod objectInit ∈ mm_big ∧ Cond.code objectInit ⟨#[0xb1]⟩ 1 none ∈ mm_big := ⟨mm_in 171 (by decide +kernel) rfl, mm_in 88 (by decide +kernel) rfl, mm_in 89 (by decide +kernel) rfl⟩
theorem kt_200 : (200 : Int32).toNatClampNeg = 200 := by decide +kernel
theorem fF_X4_18 : mm_fldP RX4 18 4 2 (.array .int) true := ⟨_, TX4, 9, tyX4, rfl, by decide, mm_in 176 (by decide +kernel) rfl, inX4, tyX4_ok, nmX4, rfl, by decide +kernel⟩
theorem kt_100 : (100 : Int32).toNatClampNeg = 100 := by decide +kernel
theorem fF_X4_22 : mm_fldP RX4 22 4 3 (.array .int) true := ⟨_, TX4, 9, tyX4, rfl, by decide, mm_in 177 (by decide +kernel) rfl, inX4, tyX4_ok, nmX4, rfl, by decide +kernel⟩
theorem ks_300 : (Int16.ofInt (300)).toInt32 = 300 := by decide
theorem kt_300 : (300 : Int32).toNatClampNeg = 300 := by decide +kernel
theorem fF_X4_25 : mm_fldP RX4 25 4 4 (.array .int) true := ⟨_, TX4, 9, tyX4, rfl, by decide, mm_in 178 (by decide +kernel) rfl, inX4, tyX4_ok, nmX4, rfl, by decide +kernel⟩
theorem oC_X2_3 : Cond.methodLink RX2 3 objectInit ∈ mm_big ∧ Cond.instanceMethod objectInit ∈ mm_big ∧ Cond.code objectInit ⟨#[0xb1]⟩ 1 none ∈ mm_big := ⟨mm_in 296 (by decide +kernel) rfl, mm_in 88 (by decide +kernel) rfl, mm_in 89 (by decide +kernel) rfl⟩
theorem kt_42 : (42 : Int32).toNatClampNeg = 42 := by decide +kernel
theorem fF_X2_9 : mm_fldP RX2 9 2 0 (.array .long) true := ⟨_, TX2, 3, tyX2, rfl, by decide, mm_in 299 (by decide +kernel) rfl, inX2, tyX2_ok, nmX2, rfl, by decide +kernel⟩
theorem nC_X2_19 : mm_cl RX2 19 3 5 [.null, .int 0, .int 0, .int 0, .int 0] := ⟨_, TX3, tyX3, rfl, mm_in 297 (by decide +kernel) rfl, mm_in 236 (by decide +kernel) rfl, mm_in 71 (by decide +kernel) rfl, inX3, tyX3_ok, fun j hj => by rcases (show j = 0 ∨ j = 1 ∨ j = 2 ∨ j = 3 ∨ j = 4 by omega) with rfl | rfl | rfl | rfl | rfl <;> rfl, fun _ => rfl, fun _ => rfl⟩
theorem iC_X2_21 : mm_ci RX2 21 mX3_init := ⟨Or.inr ⟨"LitWindows", List.mem_of_getElem? (i := 5) rfl⟩, mm_in 238 (by decide +kernel) rfl, mm_in 71 (by decide +kernel) rfl, mm_in 239 (by decide +kernel) rfl, rfl, rfl, ⟨by decide +kernel, by decide +kernel, by decide +kernel⟩⟩
set_option maxHeartbeats 4000000 in
set_option maxRecDepth 100000 in
theorem sh_X3_2 {q_y : Int32} {q_boxes : Int32} {q_lastColumn : Int32} {q_lastTop : Int32} {q_columns : Nat → Int32} : List.map (mm_re (mm_sh 2)) (W_X3 q_y q_boxes q_lastColumn q_lastTop q_columns) = [.inr (3, [.ref 3, .int q_y, .int q_boxes, .int q_lastColumn, .int q_lastTop]), .inl (0, 3, .inl q_columns)] := by
  simp [W_X3, mm_re, mm_a, mm_v, mm_sh]
theorem fF_X2_22 : mm_fldP RX2 22 2 2 (.object "LitWindows$Places") true := ⟨_, TX2, 3, tyX2, rfl, by decide, mm_in 301 (by decide +kernel) rfl, inX2, tyX2_ok, nmX2, rfl, by decide +kernel⟩
theorem oC_X0_3 : Cond.methodLink RX0 3 objectInit ∈ mm_big ∧ Cond.instanceMethod objectInit ∈ mm_big ∧ Cond.code objectInit ⟨#[0xb1]⟩ 1 none ∈ mm_big := ⟨mm_in 314 (by decide +kernel) rfl, mm_in 88 (by decide +kernel) rfl, mm_in 89 (by decide +kernel) rfl⟩
theorem kt_60 : (60 : Int32).toNatClampNeg = 60 := by decide +kernel
theorem fF_X0_24 : mm_fldP RX0 24 0 4 (.array .int) true := ⟨_, TX0, 7, tyX0, rfl, by decide, mm_in 323 (by decide +kernel) rfl, inX0, tyX0_ok, nmX0, rfl, by decide +kernel⟩
theorem fF_X0_28 : mm_fldP RX0 28 0 5 (.array .long) true := ⟨_, TX0, 7, tyX0, rfl, by decide, mm_in 324 (by decide +kernel) rfl, inX0, tyX0_ok, nmX0, rfl, by decide +kernel⟩
theorem aC_Z : Cond.arrayClass .boolean ∈ mm_big := mm_in 341 (by decide +kernel) rfl
theorem fF_X0_32 : mm_fldP RX0 32 0 6 (.array .boolean) true := ⟨_, TX0, 7, tyX0, rfl, by decide, mm_in 325 (by decide +kernel) rfl, inX0, tyX0_ok, nmX0, rfl, by decide +kernel⟩
theorem oC_X1_3 : Cond.methodLink RX1 3 objectInit ∈ mm_big ∧ Cond.instanceMethod objectInit ∈ mm_big ∧ Cond.code objectInit ⟨#[0xb1]⟩ 1 none ∈ mm_big := ⟨mm_in 234 (by decide +kernel) rfl, mm_in 88 (by decide +kernel) rfl, mm_in 89 (by decide +kernel) rfl⟩
theorem fF_X1_15 : mm_fldP RX1 15 1 1 (.array .int) true := ⟨_, TX1, 8, tyX1, rfl, by decide, mm_in 265 (by decide +kernel) rfl, inX1, tyX1_ok, nmX1, rfl, by decide +kernel⟩
theorem fF_X1_19 : mm_fldP RX1 19 1 2 (.array .int) true := ⟨_, TX1, 8, tyX1, rfl, by decide, mm_in 267 (by decide +kernel) rfl, inX1, tyX1_ok, nmX1, rfl, by decide +kernel⟩
theorem nC_X1_22 : mm_cl RX1 22 3 5 [.null, .int 0, .int 0, .int 0, .int 0] := ⟨_, TX3, tyX3, rfl, mm_in 235 (by decide +kernel) rfl, mm_in 236 (by decide +kernel) rfl, mm_in 71 (by decide +kernel) rfl, inX3, tyX3_ok, fun j hj => by rcases (show j = 0 ∨ j = 1 ∨ j = 2 ∨ j = 3 ∨ j = 4 by omega) with rfl | rfl | rfl | rfl | rfl <;> rfl, fun _ => rfl, fun _ => rfl⟩
theorem iC_X1_24 : mm_ci RX1 24 mX3_init := ⟨Or.inr ⟨"LitWindows", List.mem_of_getElem? (i := 3) rfl⟩, mm_in 238 (by decide +kernel) rfl, mm_in 71 (by decide +kernel) rfl, mm_in 239 (by decide +kernel) rfl, rfl, rfl, ⟨by decide +kernel, by decide +kernel, by decide +kernel⟩⟩
set_option maxHeartbeats 4000000 in
set_option maxRecDepth 100000 in
theorem sh_X3_3 {q_y : Int32} {q_boxes : Int32} {q_lastColumn : Int32} {q_lastTop : Int32} {q_columns : Nat → Int32} : List.map (mm_re (mm_sh 3)) (W_X3 q_y q_boxes q_lastColumn q_lastTop q_columns) = [.inr (3, [.ref 4, .int q_y, .int q_boxes, .int q_lastColumn, .int q_lastTop]), .inl (0, 3, .inl q_columns)] := by
  simp [W_X3, mm_re, mm_a, mm_v, mm_sh]
theorem fF_X1_25 : mm_fldP RX1 25 1 3 (.object "LitWindows$Places") true := ⟨_, TX1, 8, tyX1, rfl, by decide, mm_in 269 (by decide +kernel) rfl, inX1, tyX1_ok, nmX1, rfl, by decide +kernel⟩
theorem kt_299 : (299 : Int32).toNatClampNeg = 299 := by decide +kernel
theorem fF_X1_29 : mm_fldP RX1 29 1 4 (.array .int) true := ⟨_, TX1, 8, tyX1, rfl, by decide, mm_in 270 (by decide +kernel) rfl, inX1, tyX1_ok, nmX1, rfl, by decide +kernel⟩
theorem kt_12 : (12 : Int32).toNatClampNeg = 12 := by decide +kernel
theorem fF_X1_32 : mm_fldP RX1 32 1 5 (.array .int) true := ⟨_, TX1, 8, tyX1, rfl, by decide, mm_in 271 (by decide +kernel) rfl, inX1, tyX1_ok, nmX1, rfl, by decide +kernel⟩
theorem mC_X1_35 : Cond.classLink RX1 35 "[[I" ∈ mm_big := mm_in 257 (by decide +kernel) rfl
theorem fF_X1_37 : mm_fldP RX1 37 1 6 (.array (.array .int)) true := ⟨_, TX1, 8, tyX1, rfl, by decide, mm_in 272 (by decide +kernel) rfl, inX1, tyX1_ok, nmX1, rfl, by decide +kernel⟩
theorem fF_X1_40 : mm_fldP RX1 40 1 7 (.array (.array .int)) true := ⟨_, TX1, 8, tyX1, rfl, by decide, mm_in 273 (by decide +kernel) rfl, inX1, tyX1_ok, nmX1, rfl, by decide +kernel⟩
theorem cV_X1_43 : mm_cv RX1 43 mX1_addLarger 2 := ⟨mm_in 259 (by decide +kernel) rfl, mm_in 261 (by decide +kernel) rfl, mm_in 0 (by decide +kernel) rfl, mm_in 70 (by decide +kernel) rfl, mm_in 262 (by decide +kernel) rfl, ⟨by decide +kernel, by decide +kernel, by decide +kernel⟩⟩
theorem oC_X8_1 : Cond.methodLink RX8 1 objectInit ∈ mm_big ∧ Cond.instanceMethod objectInit ∈ mm_big ∧ Cond.code objectInit ⟨#[0xb1]⟩ 1 none ∈ mm_big := ⟨mm_in 907 (by decide +kernel) rfl, mm_in 88 (by decide +kernel) rfl, mm_in 89 (by decide +kernel) rfl⟩
theorem kt_354 : (354 : Int32).toNatClampNeg = 354 := by decide +kernel
theorem fF_X8_7 : mm_fldP RX8 7 8 0 (.array .int) true := ⟨_, TX8, 32, tyX8, rfl, by decide, mm_in 912 (by decide +kernel) rfl, inX8, tyX8_ok, nmX8, rfl, by decide +kernel⟩
theorem fF_X8_13 : mm_fldP RX8 13 8 1 (.array .int) true := ⟨_, TX8, 32, tyX8, rfl, by decide, mm_in 913 (by decide +kernel) rfl, inX8, tyX8_ok, nmX8, rfl, by decide +kernel⟩
theorem ks_708 : (Int16.ofInt (708)).toInt32 = 708 := by decide
theorem kt_708 : (708 : Int32).toNatClampNeg = 708 := by decide +kernel
theorem fF_X8_16 : mm_fldP RX8 16 8 2 (.array .int) true := ⟨_, TX8, 32, tyX8, rfl, by decide, mm_in 914 (by decide +kernel) rfl, inX8, tyX8_ok, nmX8, rfl, by decide +kernel⟩
theorem fF_X8_19 : mm_fldP RX8 19 8 3 (.array .boolean) true := ⟨_, TX8, 32, tyX8, rfl, by decide, mm_in 915 (by decide +kernel) rfl, inX8, tyX8_ok, nmX8, rfl, by decide +kernel⟩
theorem fF_X8_23 : mm_fldP RX8 23 8 4 (.array .int) true := ⟨_, TX8, 32, tyX8, rfl, by decide, mm_in 916 (by decide +kernel) rfl, inX8, tyX8_ok, nmX8, rfl, by decide +kernel⟩
theorem fF_X8_26 : mm_fldP RX8 26 8 5 (.array .int) true := ⟨_, TX8, 32, tyX8, rfl, by decide, mm_in 917 (by decide +kernel) rfl, inX8, tyX8_ok, nmX8, rfl, by decide +kernel⟩
theorem kt_4096 : (4096 : Int32).toNatClampNeg = 4096 := by decide +kernel
theorem fF_X8_29 : mm_fldP RX8 29 8 7 (.array .int) true := ⟨_, TX8, 32, tyX8, rfl, by decide, mm_in 919 (by decide +kernel) rfl, inX8, tyX8_ok, nmX8, rfl, by decide +kernel⟩
theorem fF_X8_32 : mm_fldP RX8 32 8 14 (.array .int) true := ⟨_, TX8, 32, tyX8, rfl, by decide, mm_in 926 (by decide +kernel) rfl, inX8, tyX8_ok, nmX8, rfl, by decide +kernel⟩
theorem fF_X8_35 : mm_fldP RX8 35 8 15 (.array .int) true := ⟨_, TX8, 32, tyX8, rfl, by decide, mm_in 927 (by decide +kernel) rfl, inX8, tyX8_ok, nmX8, rfl, by decide +kernel⟩
theorem kb_72 : (Int8.ofInt (72)).toInt32 = 72 := by decide
theorem kt_72 : (72 : Int32).toNatClampNeg = 72 := by decide +kernel
theorem fF_X8_38 : mm_fldP RX8 38 8 16 (.array .int) true := ⟨_, TX8, 32, tyX8, rfl, by decide, mm_in 928 (by decide +kernel) rfl, inX8, tyX8_ok, nmX8, rfl, by decide +kernel⟩
theorem fF_X8_41 : mm_fldP RX8 41 8 17 (.array .int) true := ⟨_, TX8, 32, tyX8, rfl, by decide, mm_in 929 (by decide +kernel) rfl, inX8, tyX8_ok, nmX8, rfl, by decide +kernel⟩
theorem ks_4608 : (Int16.ofInt (4608)).toInt32 = 4608 := by decide
theorem kt_4608 : (4608 : Int32).toNatClampNeg = 4608 := by decide +kernel
theorem fF_X8_44 : mm_fldP RX8 44 8 18 (.array .boolean) true := ⟨_, TX8, 32, tyX8, rfl, by decide, mm_in 930 (by decide +kernel) rfl, inX8, tyX8_ok, nmX8, rfl, by decide +kernel⟩
theorem kt_64 : (64 : Int32).toNatClampNeg = 64 := by decide +kernel
theorem fF_X8_47 : mm_fldP RX8 47 8 19 (.array .boolean) true := ⟨_, TX8, 32, tyX8, rfl, by decide, mm_in 931 (by decide +kernel) rfl, inX8, tyX8_ok, nmX8, rfl, by decide +kernel⟩
theorem fF_X8_50 : mm_fldP RX8 50 8 21 (.array .int) true := ⟨_, TX8, 32, tyX8, rfl, by decide, mm_in 933 (by decide +kernel) rfl, inX8, tyX8_ok, nmX8, rfl, by decide +kernel⟩
theorem fF_X8_53 : mm_fldP RX8 53 8 24 (.array .int) true := ⟨_, TX8, 32, tyX8, rfl, by decide, mm_in 936 (by decide +kernel) rfl, inX8, tyX8_ok, nmX8, rfl, by decide +kernel⟩
theorem ks_128 : (Int16.ofInt (128)).toInt32 = 128 := by decide
theorem kt_128 : (128 : Int32).toNatClampNeg = 128 := by decide +kernel
theorem fF_X8_56 : mm_fldP RX8 56 8 25 (.array .long) true := ⟨_, TX8, 32, tyX8, rfl, by decide, mm_in 937 (by decide +kernel) rfl, inX8, tyX8_ok, nmX8, rfl, by decide +kernel⟩
theorem fF_X8_60 : mm_fldP RX8 60 8 26 (.array .int) true := ⟨_, TX8, 32, tyX8, rfl, by decide, mm_in 938 (by decide +kernel) rfl, inX8, tyX8_ok, nmX8, rfl, by decide +kernel⟩
theorem kt_32 : (32 : Int32).toNatClampNeg = 32 := by decide +kernel
theorem fF_X8_63 : mm_fldP RX8 63 8 31 (.array .int) true := ⟨_, TX8, 32, tyX8, rfl, by decide, mm_in 943 (by decide +kernel) rfl, inX8, tyX8_ok, nmX8, rfl, by decide +kernel⟩
theorem oC_X7_3 : Cond.methodLink RX7 3 objectInit ∈ mm_big ∧ Cond.instanceMethod objectInit ∈ mm_big ∧ Cond.code objectInit ⟨#[0xb1]⟩ 1 none ∈ mm_big := ⟨mm_in 87 (by decide +kernel) rfl, mm_in 88 (by decide +kernel) rfl, mm_in 89 (by decide +kernel) rfl⟩
theorem nC_X7_9 : mm_cl RX7 9 5 16 [.int 0, .int 0, .int 0, .int 0, .int 0, .int 0, .null, .null, .null, .null, .null, .null, .null, .null, .null, .null] := ⟨_, TX5, tyX5, rfl, mm_in 90 (by decide +kernel) rfl, mm_in 91 (by decide +kernel) rfl, mm_in 67 (by decide +kernel) rfl, inX5, tyX5_ok, fun j hj => by rcases (show j = 0 ∨ j = 1 ∨ j = 2 ∨ j = 3 ∨ j = 4 ∨ j = 5 ∨ j = 6 ∨ j = 7 ∨ j = 8 ∨ j = 9 ∨ j = 10 ∨ j = 11 ∨ j = 12 ∨ j = 13 ∨ j = 14 ∨ j = 15 by omega) with rfl | rfl | rfl | rfl | rfl | rfl | rfl | rfl | rfl | rfl | rfl | rfl | rfl | rfl | rfl | rfl <;> rfl, fun _ => rfl, fun _ => rfl⟩
theorem iC_X7_11 : mm_ci RX7 11 mX5_init := ⟨Or.inr ⟨"LitWindows", List.mem_of_getElem? (i := 0) rfl⟩, mm_in 93 (by decide +kernel) rfl, mm_in 67 (by decide +kernel) rfl, mm_in 94 (by decide +kernel) rfl, rfl, rfl, ⟨by decide +kernel, by decide +kernel, by decide +kernel⟩⟩
set_option maxHeartbeats 4000000 in
set_option maxRecDepth 100000 in
theorem sh_X5_1 {q_wide : Int32} {q_high : Int32} {q_slackNow : Int32} {q_tenants : Int32} {q_letters : Int32} {q_readings : Int32} {q_kinds : Nat → Int32} {q_painOf : Nat → Int32} {q_payFor : Nat → Int32} {q_refused : Nat → Int32} {q_owned : Nat → Int64} {q_litIn : Nat → Int64} {q_shapes : Nat → Int32} {q_readAt : Nat → Int32} {q_meant : Nat → Int32} {q_readSo : Nat → Int32} : List.map (mm_re (mm_sh 1)) (W_X5 q_wide q_high q_slackNow q_tenants q_letters q_readings q_kinds q_painOf q_payFor q_refused q_owned q_litIn q_shapes q_readAt q_meant q_readSo) = [.inr (5, [.int q_wide, .int q_high, .int q_slackNow, .int q_tenants, .int q_letters, .int q_readings, .ref 2, .ref 3, .ref 4, .ref 5, .ref 6, .ref 7, .ref 8, .ref 9, .ref 10, .ref 11]), .inl (0, 6, .inl q_kinds), .inl (0, 6, .inl q_painOf), .inl (0, 6, .inl q_payFor), .inl (0, 6, .inl q_refused), .inl (1, 6, .inr (.inl q_owned)), .inl (1, 4, .inr (.inl q_litIn)), .inl (0, 6, .inl q_shapes), .inl (0, 6, .inl q_readAt), .inl (0, 6, .inl q_meant), .inl (0, 6, .inl q_readSo)] := by
  simp [W_X5, mm_re, mm_a, mm_v, mm_sh]
theorem fF_X7_12 : mm_fldP RX7 12 7 0 (.object "LitWindows$Wall") true := ⟨_, TX7, 16, tyX7, rfl, by decide, mm_in 342 (by decide +kernel) rfl, inX7, tyX7_ok, nmX7, rfl, by decide +kernel⟩
set_option maxHeartbeats 4000000 in
set_option maxRecDepth 100000 in
theorem sh_X5_12 {q_wide : Int32} {q_high : Int32} {q_slackNow : Int32} {q_tenants : Int32} {q_letters : Int32} {q_readings : Int32} {q_kinds : Nat → Int32} {q_painOf : Nat → Int32} {q_payFor : Nat → Int32} {q_refused : Nat → Int32} {q_owned : Nat → Int64} {q_litIn : Nat → Int64} {q_shapes : Nat → Int32} {q_readAt : Nat → Int32} {q_meant : Nat → Int32} {q_readSo : Nat → Int32} : List.map (mm_re (mm_sh 12)) (W_X5 q_wide q_high q_slackNow q_tenants q_letters q_readings q_kinds q_painOf q_payFor q_refused q_owned q_litIn q_shapes q_readAt q_meant q_readSo) = [.inr (5, [.int q_wide, .int q_high, .int q_slackNow, .int q_tenants, .int q_letters, .int q_readings, .ref 13, .ref 14, .ref 15, .ref 16, .ref 17, .ref 18, .ref 19, .ref 20, .ref 21, .ref 22]), .inl (0, 6, .inl q_kinds), .inl (0, 6, .inl q_painOf), .inl (0, 6, .inl q_payFor), .inl (0, 6, .inl q_refused), .inl (1, 6, .inr (.inl q_owned)), .inl (1, 4, .inr (.inl q_litIn)), .inl (0, 6, .inl q_shapes), .inl (0, 6, .inl q_readAt), .inl (0, 6, .inl q_meant), .inl (0, 6, .inl q_readSo)] := by
  simp [W_X5, mm_re, mm_a, mm_v, mm_sh]
theorem fF_X7_16 : mm_fldP RX7 16 7 1 (.object "LitWindows$Wall") true := ⟨_, TX7, 16, tyX7, rfl, by decide, mm_in 343 (by decide +kernel) rfl, inX7, tyX7_ok, nmX7, rfl, by decide +kernel⟩
set_option maxHeartbeats 4000000 in
set_option maxRecDepth 100000 in
theorem sh_X5_23 {q_wide : Int32} {q_high : Int32} {q_slackNow : Int32} {q_tenants : Int32} {q_letters : Int32} {q_readings : Int32} {q_kinds : Nat → Int32} {q_painOf : Nat → Int32} {q_payFor : Nat → Int32} {q_refused : Nat → Int32} {q_owned : Nat → Int64} {q_litIn : Nat → Int64} {q_shapes : Nat → Int32} {q_readAt : Nat → Int32} {q_meant : Nat → Int32} {q_readSo : Nat → Int32} : List.map (mm_re (mm_sh 23)) (W_X5 q_wide q_high q_slackNow q_tenants q_letters q_readings q_kinds q_painOf q_payFor q_refused q_owned q_litIn q_shapes q_readAt q_meant q_readSo) = [.inr (5, [.int q_wide, .int q_high, .int q_slackNow, .int q_tenants, .int q_letters, .int q_readings, .ref 24, .ref 25, .ref 26, .ref 27, .ref 28, .ref 29, .ref 30, .ref 31, .ref 32, .ref 33]), .inl (0, 6, .inl q_kinds), .inl (0, 6, .inl q_painOf), .inl (0, 6, .inl q_payFor), .inl (0, 6, .inl q_refused), .inl (1, 6, .inr (.inl q_owned)), .inl (1, 4, .inr (.inl q_litIn)), .inl (0, 6, .inl q_shapes), .inl (0, 6, .inl q_readAt), .inl (0, 6, .inl q_meant), .inl (0, 6, .inl q_readSo)] := by
  simp [W_X5, mm_re, mm_a, mm_v, mm_sh]
theorem fF_X7_19 : mm_fldP RX7 19 7 2 (.object "LitWindows$Wall") true := ⟨_, TX7, 16, tyX7, rfl, by decide, mm_in 344 (by decide +kernel) rfl, inX7, tyX7_ok, nmX7, rfl, by decide +kernel⟩
set_option maxHeartbeats 4000000 in
set_option maxRecDepth 100000 in
theorem sh_X5_34 {q_wide : Int32} {q_high : Int32} {q_slackNow : Int32} {q_tenants : Int32} {q_letters : Int32} {q_readings : Int32} {q_kinds : Nat → Int32} {q_painOf : Nat → Int32} {q_payFor : Nat → Int32} {q_refused : Nat → Int32} {q_owned : Nat → Int64} {q_litIn : Nat → Int64} {q_shapes : Nat → Int32} {q_readAt : Nat → Int32} {q_meant : Nat → Int32} {q_readSo : Nat → Int32} : List.map (mm_re (mm_sh 34)) (W_X5 q_wide q_high q_slackNow q_tenants q_letters q_readings q_kinds q_painOf q_payFor q_refused q_owned q_litIn q_shapes q_readAt q_meant q_readSo) = [.inr (5, [.int q_wide, .int q_high, .int q_slackNow, .int q_tenants, .int q_letters, .int q_readings, .ref 35, .ref 36, .ref 37, .ref 38, .ref 39, .ref 40, .ref 41, .ref 42, .ref 43, .ref 44]), .inl (0, 6, .inl q_kinds), .inl (0, 6, .inl q_painOf), .inl (0, 6, .inl q_payFor), .inl (0, 6, .inl q_refused), .inl (1, 6, .inr (.inl q_owned)), .inl (1, 4, .inr (.inl q_litIn)), .inl (0, 6, .inl q_shapes), .inl (0, 6, .inl q_readAt), .inl (0, 6, .inl q_meant), .inl (0, 6, .inl q_readSo)] := by
  simp [W_X5, mm_re, mm_a, mm_v, mm_sh]
theorem fF_X7_22 : mm_fldP RX7 22 7 3 (.object "LitWindows$Wall") true := ⟨_, TX7, 16, tyX7, rfl, by decide, mm_in 345 (by decide +kernel) rfl, inX7, tyX7_ok, nmX7, rfl, by decide +kernel⟩
theorem nC_X7_32 : mm_cl RX7 32 4 9 [.int 0, .int 0, .null, .null, .null, .int 0, .int 0, .int 0, .int 0] := ⟨_, TX4, tyX4, rfl, mm_in 166 (by decide +kernel) rfl, mm_in 167 (by decide +kernel) rfl, mm_in 68 (by decide +kernel) rfl, inX4, tyX4_ok, fun j hj => by rcases (show j = 0 ∨ j = 1 ∨ j = 2 ∨ j = 3 ∨ j = 4 ∨ j = 5 ∨ j = 6 ∨ j = 7 ∨ j = 8 by omega) with rfl | rfl | rfl | rfl | rfl | rfl | rfl | rfl | rfl <;> rfl, fun _ => rfl, fun _ => rfl⟩
theorem iC_X7_34 : mm_ci RX7 34 mX4_init := ⟨Or.inr ⟨"LitWindows", List.mem_of_getElem? (i := 1) rfl⟩, mm_in 169 (by decide +kernel) rfl, mm_in 68 (by decide +kernel) rfl, mm_in 170 (by decide +kernel) rfl, rfl, rfl, ⟨by decide +kernel, by decide +kernel, by decide +kernel⟩⟩
set_option maxHeartbeats 4000000 in
set_option maxRecDepth 100000 in
theorem sh_X4_45 {q_length : Int32} {q_items : Int32} {q_place : Int32} {q_token : Int32} {q_tokenAt : Int32} {q_tokenValue : Int32} {q_bytes : Nat → Int32} {q_words : Nat → Int32} {q_numbers : Nat → Int32} : List.map (mm_re (mm_sh 45)) (W_X4 q_length q_items q_place q_token q_tokenAt q_tokenValue q_bytes q_words q_numbers) = [.inr (4, [.int q_length, .int q_items, .ref 46, .ref 47, .ref 48, .int q_place, .int q_token, .int q_tokenAt, .int q_tokenValue]), .inl (0, 200, .inl q_bytes), .inl (0, 100, .inl q_words), .inl (0, 300, .inl q_numbers)] := by
  simp [W_X4, mm_re, mm_a, mm_v, mm_sh]
theorem fF_X7_35 : mm_fldP RX7 35 7 6 (.object "LitWindows$Plan") true := ⟨_, TX7, 16, tyX7, rfl, by decide, mm_in 348 (by decide +kernel) rfl, inX7, tyX7_ok, nmX7, rfl, by decide +kernel⟩
theorem nC_X7_39 : mm_cl RX7 39 6 3 [.null, .int 0, .int 0] := ⟨_, TX6, tyX6, rfl, mm_in 202 (by decide +kernel) rfl, mm_in 203 (by decide +kernel) rfl, mm_in 69 (by decide +kernel) rfl, inX6, tyX6_ok, fun j hj => by rcases (show j = 0 ∨ j = 1 ∨ j = 2 by omega) with rfl | rfl | rfl <;> rfl, fun _ => rfl, fun _ => rfl⟩
theorem iC_X7_41 : mm_ci RX7 41 mX6_init := ⟨Or.inr ⟨"LitWindows", List.mem_of_getElem? (i := 2) rfl⟩, mm_in 205 (by decide +kernel) rfl, mm_in 69 (by decide +kernel) rfl, mm_in 206 (by decide +kernel) rfl, rfl, rfl, ⟨by decide +kernel, by decide +kernel, by decide +kernel⟩⟩
set_option maxHeartbeats 4000000 in
set_option maxRecDepth 100000 in
theorem sh_X6_49 {q_length : Int32} {q_bits : Int32} {q_letters : Nat → Int32} : List.map (mm_re (mm_sh 49)) (W_X6 q_length q_bits q_letters) = [.inr (6, [.ref 50, .int q_length, .int q_bits]), .inl (0, 3, .inl q_letters)] := by
  simp [W_X6, mm_re, mm_a, mm_v, mm_sh]
theorem fF_X7_42 : mm_fldP RX7 42 7 7 (.object "LitWindows$Word") true := ⟨_, TX7, 16, tyX7, rfl, by decide, mm_in 349 (by decide +kernel) rfl, inX7, tyX7_ok, nmX7, rfl, by decide +kernel⟩
set_option maxHeartbeats 4000000 in
set_option maxRecDepth 100000 in
theorem sh_X6_51 {q_length : Int32} {q_bits : Int32} {q_letters : Nat → Int32} : List.map (mm_re (mm_sh 51)) (W_X6 q_length q_bits q_letters) = [.inr (6, [.ref 52, .int q_length, .int q_bits]), .inl (0, 3, .inl q_letters)] := by
  simp [W_X6, mm_re, mm_a, mm_v, mm_sh]
theorem fF_X7_46 : mm_fldP RX7 46 7 8 (.object "LitWindows$Word") true := ⟨_, TX7, 16, tyX7, rfl, by decide, mm_in 350 (by decide +kernel) rfl, inX7, tyX7_ok, nmX7, rfl, by decide +kernel⟩
theorem nC_X7_49 : mm_cl RX7 49 1 8 [.int 0, .null, .null, .null, .null, .null, .null, .null] := ⟨_, TX1, tyX1, rfl, mm_in 229 (by decide +kernel) rfl, mm_in 230 (by decide +kernel) rfl, mm_in 70 (by decide +kernel) rfl, inX1, tyX1_ok, fun j hj => by rcases (show j = 0 ∨ j = 1 ∨ j = 2 ∨ j = 3 ∨ j = 4 ∨ j = 5 ∨ j = 6 ∨ j = 7 by omega) with rfl | rfl | rfl | rfl | rfl | rfl | rfl | rfl <;> rfl, fun _ => rfl, fun _ => rfl⟩
theorem iC_X7_51 : mm_ci RX7 51 mX1_init := ⟨Or.inl (mm_in 231 (by decide +kernel) rfl), mm_in 232 (by decide +kernel) rfl, mm_in 70 (by decide +kernel) rfl, mm_in 233 (by decide +kernel) rfl, rfl, rfl, ⟨by decide +kernel, by decide +kernel, by decide +kernel⟩⟩
set_option maxHeartbeats 4000000 in
set_option maxRecDepth 100000 in
theorem sh_X1_53 {q_pains : Int32} {q_windows : Nat → Int32} {q_shapes : Nat → Int32} {q_places_y : Int32} {q_places_boxes : Int32} {q_places_lastColumn : Int32} {q_places_lastTop : Int32} {q_places_columns : Nat → Int32} {q_deviations : Nat → Int32} {q_painsOfCell : Nat → Int32} {q_painsAt_0 : Nat → Int32} {q_painsAt_1 : Nat → Int32} {q_painsAt_2 : Nat → Int32} {q_shapeAt_0 : Nat → Int32} {q_shapeAt_1 : Nat → Int32} {q_shapeAt_2 : Nat → Int32} : List.map (mm_re (mm_sh 53)) (W_X1 q_pains q_windows q_shapes q_places_y q_places_boxes q_places_lastColumn q_places_lastTop q_places_columns q_deviations q_painsOfCell q_painsAt_0 q_painsAt_1 q_painsAt_2 q_shapeAt_0 q_shapeAt_1 q_shapeAt_2) = [.inr (1, [.int q_pains, .ref 54, .ref 55, .ref 56, .ref 58, .ref 59, .ref 60, .ref 64]), .inl (0, 3, .inl q_windows), .inl (0, 3, .inl q_shapes), .inr (3, [.ref 57, .int q_places_y, .int q_places_boxes, .int q_places_lastColumn, .int q_places_lastTop]), .inl (0, 3, .inl q_places_columns), .inl (0, 299, .inl q_deviations), .inl (0, 12, .inl q_painsOfCell), .inl (3, 3, .inr (.inr (.inr (.inr (fun j => (some (8 + j) : Option Nat).map (mm_sh 53)))))), .inl (0, 60, .inl q_painsAt_0), .inl (0, 60, .inl q_painsAt_1), .inl (0, 60, .inl q_painsAt_2), .inl (3, 3, .inr (.inr (.inr (.inr (fun j => (some (12 + j) : Option Nat).map (mm_sh 53)))))), .inl (0, 60, .inl q_shapeAt_0), .inl (0, 60, .inl q_shapeAt_1), .inl (0, 60, .inl q_shapeAt_2)] := by
  simp [W_X1, mm_re, mm_a, mm_v, mm_sh]
theorem fF_X7_52 : mm_fldP RX7 52 7 9 (.object "LitWindows$LeastPains") true := ⟨_, TX7, 16, tyX7, rfl, by decide, mm_in 351 (by decide +kernel) rfl, inX7, tyX7_ok, nmX7, rfl, by decide +kernel⟩
theorem nC_X7_56 : mm_cl RX7 56 2 3 [.null, .int 0, .null] := ⟨_, TX2, tyX2, rfl, mm_in 291 (by decide +kernel) rfl, mm_in 292 (by decide +kernel) rfl, mm_in 72 (by decide +kernel) rfl, inX2, tyX2_ok, fun j hj => by rcases (show j = 0 ∨ j = 1 ∨ j = 2 by omega) with rfl | rfl | rfl <;> rfl, fun _ => rfl, fun _ => rfl⟩
theorem iC_X7_58 : mm_ci RX7 58 mX2_init := ⟨Or.inr ⟨"LitWindows", List.mem_of_getElem? (i := 4) rfl⟩, mm_in 294 (by decide +kernel) rfl, mm_in 72 (by decide +kernel) rfl, mm_in 295 (by decide +kernel) rfl, rfl, rfl, ⟨by decide +kernel, by decide +kernel, by decide +kernel⟩⟩
set_option maxHeartbeats 4000000 in
set_option maxRecDepth 100000 in
theorem sh_X2_68 {q_known : Int32} {q_lights : Nat → Int64} {q_places_y : Int32} {q_places_boxes : Int32} {q_places_lastColumn : Int32} {q_places_lastTop : Int32} {q_places_columns : Nat → Int32} : List.map (mm_re (mm_sh 68)) (W_X2 q_known q_lights q_places_y q_places_boxes q_places_lastColumn q_places_lastTop q_places_columns) = [.inr (2, [.ref 69, .int q_known, .ref 70]), .inl (1, 42, .inr (.inl q_lights)), .inr (3, [.ref 71, .int q_places_y, .int q_places_boxes, .int q_places_lastColumn, .int q_places_lastTop]), .inl (0, 3, .inl q_places_columns)] := by
  simp [W_X2, mm_re, mm_a, mm_v, mm_sh]
theorem fF_X7_59 : mm_fldP RX7 59 7 10 (.object "LitWindows$Pictures") true := ⟨_, TX7, 16, tyX7, rfl, by decide, mm_in 352 (by decide +kernel) rfl, inX7, tyX7_ok, nmX7, rfl, by decide +kernel⟩
set_option maxHeartbeats 4000000 in
set_option maxRecDepth 100000 in
theorem sh_X2_72 {q_known : Int32} {q_lights : Nat → Int64} {q_places_y : Int32} {q_places_boxes : Int32} {q_places_lastColumn : Int32} {q_places_lastTop : Int32} {q_places_columns : Nat → Int32} : List.map (mm_re (mm_sh 72)) (W_X2 q_known q_lights q_places_y q_places_boxes q_places_lastColumn q_places_lastTop q_places_columns) = [.inr (2, [.ref 73, .int q_known, .ref 74]), .inl (1, 42, .inr (.inl q_lights)), .inr (3, [.ref 75, .int q_places_y, .int q_places_boxes, .int q_places_lastColumn, .int q_places_lastTop]), .inl (0, 3, .inl q_places_columns)] := by
  simp [W_X2, mm_re, mm_a, mm_v, mm_sh]
theorem fF_X7_63 : mm_fldP RX7 63 7 11 (.object "LitWindows$Pictures") true := ⟨_, TX7, 16, tyX7, rfl, by decide, mm_in 353 (by decide +kernel) rfl, inX7, tyX7_ok, nmX7, rfl, by decide +kernel⟩
theorem nC_X7_66 : mm_cl RX7 66 0 7 [.int 0, .int 0, .int 0, .int 0, .null, .null, .null] := ⟨_, TX0, tyX0, rfl, mm_in 309 (by decide +kernel) rfl, mm_in 310 (by decide +kernel) rfl, mm_in 73 (by decide +kernel) rfl, inX0, tyX0_ok, fun j hj => by rcases (show j = 0 ∨ j = 1 ∨ j = 2 ∨ j = 3 ∨ j = 4 ∨ j = 5 ∨ j = 6 by omega) with rfl | rfl | rfl | rfl | rfl | rfl | rfl <;> rfl, fun _ => rfl, fun _ => rfl⟩
theorem iC_X7_68 : mm_ci RX7 68 mX0_init := ⟨Or.inr ⟨"LitWindows", List.mem_of_getElem? (i := 6) rfl⟩, mm_in 312 (by decide +kernel) rfl, mm_in 73 (by decide +kernel) rfl, mm_in 313 (by decide +kernel) rfl, rfl, rfl, ⟨by decide +kernel, by decide +kernel, by decide +kernel⟩⟩
set_option maxHeartbeats 4000000 in
set_option maxRecDepth 100000 in
theorem sh_X0_76 {q_sets : Int32} {q_size : Int32} {q_least : Int32} {q_greatest : Int32} {q_windows : Nat → Int32} {q_shown : Nat → Int64} {q_soWithout : Nat → Int32} : List.map (mm_re (mm_sh 76)) (W_X0 q_sets q_size q_least q_greatest q_windows q_shown q_soWithout) = [.inr (0, [.int q_sets, .int q_size, .int q_least, .int q_greatest, .ref 77, .ref 78, .ref 79]), .inl (0, 60, .inl q_windows), .inl (1, 6, .inr (.inl q_shown)), .inl (2, 6, .inl q_soWithout)] := by
  simp [W_X0, mm_re, mm_a, mm_v, mm_sh]
theorem fF_X7_69 : mm_fldP RX7 69 7 12 (.object "LitWindows$DarkLamps") true := ⟨_, TX7, 16, tyX7, rfl, by decide, mm_in 354 (by decide +kernel) rfl, inX7, tyX7_ok, nmX7, rfl, by decide +kernel⟩
