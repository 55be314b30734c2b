def W_X5 (q_wide : Int32) (q_high : Int32) (q_slackNow : Int32) (q_tenants : Int32) (q_letters : Int32) (q_readings : Int32) (q_kinds : Nat → Int32) (q_painOf : Nat → Int32) (q_payFor : Nat → Int32) (q_refused : Nat → Int32) (q_owned : Nat → Int64) (q_litIn : Nat → Int64) (q_shapes : Nat → Int32) (q_readAt : Nat → Int32) (q_meant : Nat → Int32) (q_readSo : Nat → Int32) : mm_W := [.inr (5, [.int q_wide, .int q_high, .int q_slackNow, .int q_tenants, .int q_letters, .int q_readings, .ref 1, .ref 2, .ref 3, .ref 4, .ref 5, .ref 6, .ref 7, .ref 8, .ref 9, .ref 10]),
  .inl (0, 6, .inl q_kinds),
  .inl (0, 6, .inl q_painOf),
  .inl (0, 6, .inl q_payFor),
  .inl (0, 6, .inl q_refused),
  .inl (1, 6, .inr (.inl q_owned)),
  .inl (1, 4, .inr (.inl q_litIn)),
  .inl (0, 6, .inl q_shapes),
  .inl (0, 6, .inl q_readAt),
  .inl (0, 6, .inl q_meant),
  .inl (0, 6, .inl q_readSo)]
abbrev mJ6_bitCount_0f7a4 : mm_M := (yJ6_bitCount_0f7a4, cJ6_bitCount_0f7a4, 1, (some .int), { frames := 0, cells := 0, slots := 0, locals := 0 })
abbrev mX5_readAs : mm_M := (yX5_readAs, cX5_readAs, 6, (some .int), { frames := 1, cells := 0, slots := 0, locals := 20 })
abbrev mX5_isWindowAt : mm_M := (yX5_isWindowAt, cX5_isWindowAt, 3, (some .boolean), { frames := 0, cells := 0, slots := 0, locals := 0 })
abbrev mX5_isWindow : mm_M := (yX5_isWindow, cX5_isWindow, 2, (some .boolean), { frames := 1, cells := 0, slots := 0, locals := 22 })
abbrev mX5_isTop : mm_M := (yX5_isTop, cX5_isTop, 2, (some .boolean), { frames := 0, cells := 0, slots := 0, locals := 0 })
abbrev mX5_isBox : mm_M := (yX5_isBox, cX5_isBox, 2, (some .boolean), { frames := 2, cells := 0, slots := 0, locals := 43 })
abbrev mX7_shapeIn : mm_M := (yX7_shapeIn, cX7_shapeIn, 5, (some .int), { frames := 0, cells := 0, slots := 0, locals := 0 })
abbrev mX5_changeable : mm_M := (yX5_changeable, cX5_changeable, 8, (some .long), { frames := 0, cells := 0, slots := 0, locals := 0 })
abbrev mX5_addTenant : mm_M := (yX5_addTenant, cX5_addTenant, 4, (some .int), { frames := 0, cells := 0, slots := 0, locals := 0 })
theorem ki_1 : Int32.ofInt (1) = 1 := by decide
theorem kC_J6_265 : Cond.constant RJ6 265 (1431655765) ∈ mm_big := mm_in 654 (by decide +kernel) rfl
theorem kC_J6_266 : Cond.constant RJ6 266 (858993459) ∈ mm_big := mm_in 655 (by decide +kernel) rfl
theorem ki_2 : Int32.ofInt (2) = 2 := by decide
theorem ki_4 : Int32.ofInt (4) = 4 := by decide
theorem kC_J6_267 : Cond.constant RJ6 267 (252645135) ∈ mm_big := mm_in 656 (by decide +kernel) rfl
theorem kb_8 : (Int8.ofInt (8)).toInt32 = 8 := by decide
theorem kb_16 : (Int8.ofInt (16)).toInt32 = 16 := by decide
theorem kb_63 : (Int8.ofInt (63)).toInt32 = 63 := by decide
theorem fG_X5_18 : mm_fld RX5 18 5 2 := ⟨_, TX5, 16, rfl, by decide, mm_in 104 (by decide +kernel) rfl, inX5⟩
theorem ki_m1 : Int32.ofInt (-1) = -1 := by decide
theorem ki_0 : Int32.ofInt (0) = 0 := by decide
theorem fG_X5_24 : mm_fld RX5 24 5 4 := ⟨_, TX5, 16, rfl, by decide, mm_in 108 (by decide +kernel) rfl, inX5⟩
theorem fG_X5_50 : mm_fld RX5 50 5 12 := ⟨_, TX5, 16, rfl, by decide, mm_in 122 (by decide +kernel) rfl, inX5⟩
theorem cS_X5_107 : mm_cs RX5 107 mJ6_bitCount_0f7a4 1 := ⟨mm_in 651 (by decide +kernel) rfl, mm_in 652 (by decide +kernel) rfl, mm_in 81 (by decide +kernel) rfl, mm_in 653 (by decide +kernel) rfl, ⟨by decide +kernel, by decide +kernel, by decide +kernel⟩⟩
theorem fG_X5_9 : mm_fld RX5 9 5 0 := ⟨_, TX5, 16, rfl, by decide, mm_in 97 (by decide +kernel) rfl, inX5⟩
theorem fG_X5_15 : mm_fld RX5 15 5 1 := ⟨_, TX5, 16, rfl, by decide, mm_in 100 (by decide +kernel) rfl, inX5⟩
theorem kb_60 : (Int8.ofInt (60)).toInt32 = 60 := by decide
theorem kb_12 : (Int8.ofInt (12)).toInt32 = 12 := by decide
theorem cV_X5_68 : mm_cv RX5 68 mX5_isWindowAt 2 := ⟨mm_in 448 (by decide +kernel) rfl, mm_in 449 (by decide +kernel) rfl, mm_in 450 (by decide +kernel) rfl, mm_in 68 (by decide +kernel) rfl, mm_in 451 (by decide +kernel) rfl, ⟨by decide +kernel, by decide +kernel, by decide +kernel⟩⟩
theorem cV_X5_72 : mm_cv RX5 72 mX5_isWindow 1 := ⟨mm_in 444 (by decide +kernel) rfl, mm_in 445 (by decide +kernel) rfl, mm_in 446 (by decide +kernel) rfl, mm_in 68 (by decide +kernel) rfl, mm_in 447 (by decide +kernel) rfl, ⟨by decide +kernel, by decide +kernel, by decide +kernel⟩⟩
theorem ki_3 : Int32.ofInt (3) = 3 := by decide
theorem cV_X5_76 : mm_cv RX5 76 mX5_isTop 1 := ⟨mm_in 665 (by decide +kernel) rfl, mm_in 666 (by decide +kernel) rfl, mm_in 667 (by decide +kernel) rfl, mm_in 68 (by decide +kernel) rfl, mm_in 668 (by decide +kernel) rfl, ⟨by decide +kernel, by decide +kernel, by decide +kernel⟩⟩
theorem kC_X7_275 : Cond.constantLong RX7 275 (7) ∈ mm_big := mm_in 672 (by decide +kernel) rfl
theorem fG_X5_21 : mm_fld RX5 21 5 3 := ⟨_, TX5, 16, rfl, by decide, mm_in 106 (by decide +kernel) rfl, inX5⟩
theorem fG_X5_40 : mm_fld RX5 40 5 9 := ⟨_, TX5, 16, rfl, by decide, mm_in 116 (by decide +kernel) rfl, inX5⟩
theorem fG_X5_30 : mm_fld RX5 30 5 6 := ⟨_, TX5, 16, rfl, by decide, mm_in 113 (by decide +kernel) rfl, inX5⟩
theorem fG_X5_43 : mm_fld RX5 43 5 10 := ⟨_, TX5, 16, rfl, by decide, mm_in 117 (by decide +kernel) rfl, inX5⟩
theorem fG_X5_47 : mm_fld RX5 47 5 11 := ⟨_, TX5, 16, rfl, by decide, mm_in 118 (by decide +kernel) rfl, inX5⟩
theorem kb_m2 : (Int8.ofInt (-2)).toInt32 = -2 := by decide
theorem ki_5 : Int32.ofInt (5) = 5 := by decide
theorem kb_9 : (Int8.ofInt (9)).toInt32 = 9 := by decide
theorem kb_99 : (Int8.ofInt (99)).toInt32 = 99 := by decide
theorem kb_6 : (Int8.ofInt (6)).toInt32 = 6 := by decide
theorem fG_X5_34 : mm_fld RX5 34 5 7 := ⟨_, TX5, 16, rfl, by decide, mm_in 114 (by decide +kernel) rfl, inX5⟩
theorem fG_X5_37 : mm_fld RX5 37 5 8 := ⟨_, TX5, 16, rfl, by decide, mm_in 115 (by decide +kernel) rfl, inX5⟩
theorem fP_X5_21 : mm_fldP RX5 21 5 3 .int false := ⟨_, TX5, 16, tyX5, rfl, by decide, mm_in 106 (by decide +kernel) rfl, inX5, tyX5_ok, nmX5, rfl, by decide +kernel, rfl⟩
theorem kb_m4 : (Int8.ofInt (-4)).toInt32 = -4 := by decide
