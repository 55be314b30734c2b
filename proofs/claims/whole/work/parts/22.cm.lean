set_option maxHeartbeats 4000000 in
set_option maxRecDepth 100000 in
theorem ok_X3_init : mm_OkI mX3_init [.inr (3, [.null, .int 0, .int 0, .int 0, .int 0])] (fun w => w = (W_X3 0 0 0 0 (fun _ => 0))) 1 3 := by
  refine mm_OkI.of pn_X3 rfl (by decide) ?_
  refine mm_aload_n 0 dX3_init_0 rfl rfl (pc' := 1) rfl ?_
  refine mm_obji oC_X3_3 dX3_init_1 (Nat.le_of_ble_eq_true rfl) (Nat.le_of_ble_eq_true rfl) (pc' := 4) rfl ?_
  refine mm_aload_n 0 dX3_init_4 rfl rfl (pc' := 5) rfl ?_
  refine mm_iconst dX3_init_5 ki_3 (pc' := 6) rfl ?_
  refine mm_newI aC_I dX3_init_6 (by decide) kt_3 (by decide) (Nat.le_of_ble_eq_true rfl) (Nat.le_of_ble_eq_true rfl) mm_RI_St (k := 1) (Nat.le_of_ble_eq_true rfl) ⟨rfl, by decide, rfl, rfl, rfl⟩ (ws' := [.inr (3, [.null, .int 0, .int 0, .int 0, .int 0]), .inl (0, 3, .inl (fun _ => 0))]) rfl (pc' := 8) rfl ?_
  refine mm_putF mm_RI_ini fF_X3_9 (by intro C T N h; cases h; rfl) dX3_init_8 rfl (Nat.le_of_ble_eq_true rfl) (fun _ => rfl) (fun _ => rfl) (ws' := [.inr (3, [.ref 1, .int 0, .int 0, .int 0, .int 0]), .inl (0, 3, .inl (fun _ => 0))]) rfl (pc' := 11) rfl ?_
  refine mm_aload_n 0 dX3_init_11 rfl rfl (pc' := 12) rfl ?_
  refine mm_iconst dX3_init_12 ki_0 (pc' := 13) rfl ?_
  refine mm_putf fP_X3_15 dX3_init_13 rfl (Nat.le_of_ble_eq_true rfl) (fun _ => rfl) (fun _ => rfl) (ws' := [.inr (3, [.ref 1, .int 0, .int 0, .int 0, .int 0]), .inl (0, 3, .inl (fun _ => 0))]) rfl (pc' := 16) rfl ?_
  refine mm_aload_n 0 dX3_init_16 rfl rfl (pc' := 17) rfl ?_
  refine mm_iconst dX3_init_17 ki_0 (pc' := 18) rfl ?_
  refine mm_putf fP_X3_19 dX3_init_18 rfl (Nat.le_of_ble_eq_true rfl) (fun _ => rfl) (fun _ => rfl) (ws' := [.inr (3, [.ref 1, .int 0, .int 0, .int 0, .int 0]), .inl (0, 3, .inl (fun _ => 0))]) rfl (pc' := 21) rfl ?_
  refine mm_aload_n 0 dX3_init_21 rfl rfl (pc' := 22) rfl ?_
  refine mm_iconst dX3_init_22 ki_0 (pc' := 23) rfl ?_
  refine mm_putf fP_X3_22 dX3_init_23 rfl (Nat.le_of_ble_eq_true rfl) (fun _ => rfl) (fun _ => rfl) (ws' := [.inr (3, [.ref 1, .int 0, .int 0, .int 0, .int 0]), .inl (0, 3, .inl (fun _ => 0))]) rfl (pc' := 26) rfl ?_
  refine mm_aload_n 0 dX3_init_26 rfl rfl (pc' := 27) rfl ?_
  refine mm_iconst dX3_init_27 ki_0 (pc' := 28) rfl ?_
  refine mm_putf fP_X3_25 dX3_init_28 rfl (Nat.le_of_ble_eq_true rfl) (fun _ => rfl) (fun _ => rfl) (ws' := [.inr (3, [.ref 1, .int 0, .int 0, .int 0, .int 0]), .inl (0, 3, .inl (fun _ => 0))]) rfl (pc' := 31) rfl ?_
  exact mm_vretI rfl (Nat.le_of_ble_eq_true rfl) (Nat.le_of_ble_eq_true rfl) dX3_init_31 rfl
set_option maxHeartbeats 4000000 in
set_option maxRecDepth 100000 in
theorem ok_X5_init : mm_OkI mX5_init [.inr (5, [.int 0, .int 0, .int 0, .int 0, .int 0, .int 0, .null, .null, .null, .null, .null, .null, .null, .null, .null, .null])] (fun w => w = (W_X5 12 5 0 0 0 0 (fun _ => 0) (fun _ => 0) (fun _ => 0) (fun _ => 0) (fun _ => 0) (fun _ => 0) (fun _ => 0) (fun _ => 0) (fun _ => 0) (fun _ => 0))) 10 58 := by
  refine mm_OkI.of pn_X5 rfl (by decide) ?_
  refine mm_aload_n 0 dX5_init_0 rfl rfl (pc' := 1) rfl ?_
  refine mm_obji oC_X5_3 dX5_init_1 (Nat.le_of_ble_eq_true rfl) (Nat.le_of_ble_eq_true rfl) (pc' := 4) rfl ?_
  refine mm_aload_n 0 dX5_init_4 rfl rfl (pc' := 5) rfl ?_
  refine mm_bipush dX5_init_5 kb_12 (pc' := 7) rfl ?_
  refine mm_putf fP_X5_9 dX5_init_7 rfl (Nat.le_of_ble_eq_true rfl) (fun _ => rfl) (fun _ => rfl) (ws' := [.inr (5, [.int 12, .int 0, .int 0, .int 0, .int 0, .int 0, .null, .null, .null, .null, .null, .null, .null, .null, .null, .null])]) rfl (pc' := 10) rfl ?_
  refine mm_aload_n 0 dX5_init_10 rfl rfl (pc' := 11) rfl ?_
  refine mm_iconst dX5_init_11 ki_5 (pc' := 12) rfl ?_
  refine mm_putf fP_X5_15 dX5_init_12 rfl (Nat.le_of_ble_eq_true rfl) (fun _ => rfl) (fun _ => rfl) (ws' := [.inr (5, [.int 12, .int 5, .int 0, .int 0, .int 0, .int 0, .null, .null, .null, .null, .null, .null, .null, .null, .null, .null])]) rfl (pc' := 15) rfl ?_
  refine mm_aload_n 0 dX5_init_15 rfl rfl (pc' := 16) rfl ?_
  refine mm_iconst dX5_init_16 ki_0 (pc' := 17) rfl ?_
  refine mm_putf fP_X5_18 dX5_init_17 rfl (Nat.le_of_ble_eq_true rfl) (fun _ => rfl) (fun _ => rfl) (ws' := [.inr (5, [.int 12, .int 5, .int 0, .int 0, .int 0, .int 0, .null, .null, .null, .null, .null, .null, .null, .null, .null, .null])]) rfl (pc' := 20) rfl ?_
  refine mm_aload_n 0 dX5_init_20 rfl rfl (pc' := 21) rfl ?_
  refine mm_iconst dX5_init_21 ki_0 (pc' := 22) rfl ?_
  refine mm_putf fP_X5_21 dX5_init_22 rfl (Nat.le_of_ble_eq_true rfl) (fun _ => rfl) (fun _ => rfl) (ws' := [.inr (5, [.int 12, .int 5, .int 0, .int 0, .int 0, .int 0, .null, .null, .null, .null, .null, .null, .null, .null, .null, .null])]) rfl (pc' := 25) rfl ?_
  refine mm_aload_n 0 dX5_init_25 rfl rfl (pc' := 26) rfl ?_
  refine mm_iconst dX5_init_26 ki_0 (pc' := 27) rfl ?_
  refine mm_putf fP_X5_24 dX5_init_27 rfl (Nat.le_of_ble_eq_true rfl) (fun _ => rfl) (fun _ => rfl) (ws' := [.inr (5, [.int 12, .int 5, .int 0, .int 0, .int 0, .int 0, .null, .null, .null, .null, .null, .null, .null, .null, .null, .null])]) rfl (pc' := 30) rfl ?_
  refine mm_aload_n 0 dX5_init_30 rfl rfl (pc' := 31) rfl ?_
  refine mm_iconst dX5_init_31 ki_0 (pc' := 32) rfl ?_
  refine mm_putf fP_X5_27 dX5_init_32 rfl (Nat.le_of_ble_eq_true rfl) (fun _ => rfl) (fun _ => rfl) (ws' := [.inr (5, [.int 12, .int 5, .int 0, .int 0, .int 0, .int 0, .null, .null, .null, .null, .null, .null, .null, .null, .null, .null])]) rfl (pc' := 35) rfl ?_
  refine mm_aload_n 0 dX5_init_35 rfl rfl (pc' := 36) rfl ?_
  refine mm_bipush dX5_init_36 kb_6 (pc' := 38) rfl ?_
  refine mm_newI aC_I dX5_init_38 (by decide) kt_6 (by decide) (Nat.le_of_ble_eq_true rfl) (Nat.le_of_ble_eq_true rfl) mm_RI_St (k := 1) (Nat.le_of_ble_eq_true rfl) ⟨rfl, by decide, rfl, rfl, rfl⟩ (ws' := [.inr (5, [.int 12, .int 5, .int 0, .int 0, .int 0, .int 0, .null, .null, .null, .null, .null, .null, .null, .null, .null, .null]), .inl (0, 6, .inl (fun _ => 0))]) rfl (pc' := 40) rfl ?_
  refine mm_putF mm_RI_ini fF_X5_30 (by intro C T N h; cases h; rfl) dX5_init_40 rfl (Nat.le_of_ble_eq_true rfl) (fun _ => rfl) (fun _ => rfl) (ws' := [.inr (5, [.int 12, .int 5, .int 0, .int 0, .int 0, .int 0, .ref 1, .null, .null, .null, .null, .null, .null, .null, .null, .null]), .inl (0, 6, .inl (fun _ => 0))]) rfl (pc' := 43) rfl ?_
  refine mm_aload_n 0 dX5_init_43 rfl rfl (pc' := 44) rfl ?_
  refine mm_bipush dX5_init_44 kb_6 (pc' := 46) rfl ?_
  refine mm_newI aC_I dX5_init_46 (by decide) kt_6 (by decide) (Nat.le_of_ble_eq_true rfl) (Nat.le_of_ble_eq_true rfl) mm_RI_St (k := 2) (Nat.le_of_ble_eq_true rfl) ⟨rfl, by decide, rfl, rfl, rfl⟩ (ws' := [.inr (5, [.int 12, .int 5, .int 0, .int 0, .int 0, .int 0, .ref 1, .null, .null, .null, .null, .null, .null, .null, .null, .null]), .inl (0, 6, .inl (fun _ => 0)), .inl (0, 6, .inl (fun _ => 0))]) rfl (pc' := 48) rfl ?_
  refine mm_putF mm_RI_ini fF_X5_34 (by intro C T N h; cases h; rfl) dX5_init_48 rfl (Nat.le_of_ble_eq_true rfl) (fun _ => rfl) (fun _ => rfl) (ws' := [.inr (5, [.int 12, .int 5, .int 0, .int 0, .int 0, .int 0, .ref 1, .ref 2, .null, .null, .null, .null, .null, .null, .null, .null]), .inl (0, 6, .inl (fun _ => 0)), .inl (0, 6, .inl (fun _ => 0))]) rfl (pc' := 51) rfl ?_
  refine mm_aload_n 0 dX5_init_51 rfl rfl (pc' := 52) rfl ?_
  refine mm_bipush dX5_init_52 kb_6 (pc' := 54) rfl ?_
  refine mm_newI aC_I dX5_init_54 (by decide) kt_6 (by decide) (Nat.le_of_ble_eq_true rfl) (Nat.le_of_ble_eq_true rfl) mm_RI_St (k := 3) (Nat.le_of_ble_eq_true rfl) ⟨rfl, by decide, rfl, rfl, rfl⟩ (ws' := [.inr (5, [.int 12, .int 5, .int 0, .int 0, .int 0, .int 0, .ref 1, .ref 2, .null, .null, .null, .null, .null, .null, .null, .null]), .inl (0, 6, .inl (fun _ => 0)), .inl (0, 6, .inl (fun _ => 0)), .inl (0, 6, .inl (fun _ => 0))]) rfl (pc' := 56) rfl ?_
  refine mm_putF mm_RI_ini fF_X5_37 (by intro C T N h; cases h; rfl) dX5_init_56 rfl (Nat.le_of_ble_eq_true rfl) (fun _ => rfl) (fun _ => rfl) (ws' := [.inr (5, [.int 12, .int 5, .int 0, .int 0, .int 0, .int 0, .ref 1, .ref 2, .ref 3, .null, .null, .null, .null, .null, .null, .null]), .inl (0, 6, .inl (fun _ => 0)), .inl (0, 6, .inl (fun _ => 0)), .inl (0, 6, .inl (fun _ => 0))]) rfl (pc' := 59) rfl ?_
  refine mm_aload_n 0 dX5_init_59 rfl rfl (pc' := 60) rfl ?_
  refine mm_bipush dX5_init_60 kb_6 (pc' := 62) rfl ?_
  refine mm_newI aC_I dX5_init_62 (by decide) kt_6 (by decide) (Nat.le_of_ble_eq_true rfl) (Nat.le_of_ble_eq_true rfl) mm_RI_St (k := 4) (Nat.le_of_ble_eq_true rfl) ⟨rfl, by decide, rfl, rfl, rfl⟩ (ws' := [.inr (5, [.int 12, .int 5, .int 0, .int 0, .int 0, .int 0, .ref 1, .ref 2, .ref 3, .null, .null, .null, .null, .null, .null, .null]), .inl (0, 6, .inl (fun _ => 0)), .inl (0, 6, .inl (fun _ => 0)), .inl (0, 6, .inl (fun _ => 0)), .inl (0, 6, .inl (fun _ => 0))]) rfl (pc' := 64) rfl ?_
  refine mm_putF mm_RI_ini fF_X5_40 (by intro C T N h; cases h; rfl) dX5_init_64 rfl (Nat.le_of_ble_eq_true rfl) (fun _ => rfl) (fun _ => rfl) (ws' := [.inr (5, [.int 12, .int 5, .int 0, .int 0, .int 0, .int 0, .ref 1, .ref 2, .ref 3, .ref 4, .null, .null, .null, .null, .null, .null]), .inl (0, 6, .inl (fun _ => 0)), .inl (0, 6, .inl (fun _ => 0)), .inl (0, 6, .inl (fun _ => 0)), .inl (0, 6, .inl (fun _ => 0))]) rfl (pc' := 67) rfl ?_
  refine mm_aload_n 0 dX5_init_67 rfl rfl (pc' := 68) rfl ?_
  refine mm_bipush dX5_init_68 kb_6 (pc' := 70) rfl ?_
  refine mm_newJ aC_J dX5_init_70 (by decide) kt_6 (by decide) (Nat.le_of_ble_eq_true rfl) (Nat.le_of_ble_eq_true rfl) mm_RI_St (k := 5) (Nat.le_of_ble_eq_true rfl) ⟨rfl, by decide, rfl, rfl, rfl⟩ (ws' := [.inr (5, [.int 12, .int 5, .int 0, .int 0, .int 0, .int 0, .ref 1, .ref 2, .ref 3, .ref 4, .null, .null, .null, .null, .null, .null]), .inl (0, 6, .inl (fun _ => 0)), .inl (0, 6, .inl (fun _ => 0)), .inl (0, 6, .inl (fun _ => 0)), .inl (0, 6, .inl (fun _ => 0)), .inl (1, 6, .inr (.inl (fun _ => 0)))]) rfl (pc' := 72) rfl ?_
  refine mm_putF mm_RI_ini fF_X5_43 (by intro C T N h; cases h; rfl) dX5_init_72 rfl (Nat.le_of_ble_eq_true rfl) (fun _ => rfl) (fun _ => rfl) (ws' := [.inr (5, [.int 12, .int 5, .int 0, .int 0, .int 0, .int 0, .ref 1, .ref 2, .ref 3, .ref 4, .ref 5, .null, .null, .null, .null, .null]), .inl (0, 6, .inl (fun _ => 0)), .inl (0, 6, .inl (fun _ => 0)), .inl (0, 6, .inl (fun _ => 0)), .inl (0, 6, .inl (fun _ => 0)), .inl (1, 6, .inr (.inl (fun _ => 0)))]) rfl (pc' := 75) rfl ?_
  refine mm_aload_n 0 dX5_init_75 rfl rfl (pc' := 76) rfl ?_
  refine mm_iconst dX5_init_76 ki_4 (pc' := 77) rfl ?_
  refine mm_newJ aC_J dX5_init_77 (by decide) kt_4 (by decide) (Nat.le_of_ble_eq_true rfl) (Nat.le_of_ble_eq_true rfl) mm_RI_St (k := 6) (Nat.le_of_ble_eq_true rfl) ⟨rfl, by decide, rfl, rfl, rfl⟩ (ws' := [.inr (5, [.int 12, .int 5, .int 0, .int 0, .int 0, .int 0, .ref 1, .ref 2, .ref 3, .ref 4, .ref 5, .null, .null, .null, .null, .null]), .inl (0, 6, .inl (fun _ => 0)), .inl (0, 6, .inl (fun _ => 0)), .inl (0, 6, .inl (fun _ => 0)), .inl (0, 6, .inl (fun _ => 0)), .inl (1, 6, .inr (.inl (fun _ => 0))), .inl (1, 4, .inr (.inl (fun _ => 0)))]) rfl (pc' := 79) rfl ?_
  refine mm_putF mm_RI_ini fF_X5_47 (by intro C T N h; cases h; rfl) dX5_init_79 rfl (Nat.le_of_ble_eq_true rfl) (fun _ => rfl) (fun _ => rfl) (ws' := [.inr (5, [.int 12, .int 5, .int 0, .int 0, .int 0, .int 0, .ref 1, .ref 2, .ref 3, .ref 4, .ref 5, .ref 6, .null, .null, .null, .null]), .inl (0, 6, .inl (fun _ => 0)), .inl (0, 6, .inl (fun _ => 0)), .inl (0, 6, .inl (fun _ => 0)), .inl (0, 6, .inl (fun _ => 0)), .inl (1, 6, .inr (.inl (fun _ => 0))), .inl (1, 4, .inr (.inl (fun _ => 0)))]) rfl (pc' := 82) rfl ?_
  refine mm_aload_n 0 dX5_init_82 rfl rfl (pc' := 83) rfl ?_
  refine mm_bipush dX5_init_83 kb_6 (pc' := 85) rfl ?_
  refine mm_newI aC_I dX5_init_85 (by decide) kt_6 (by decide) (Nat.le_of_ble_eq_true rfl) (Nat.le_of_ble_eq_true rfl) mm_RI_St (k := 7) (Nat.le_of_ble_eq_true rfl) ⟨rfl, by decide, rfl, rfl, rfl⟩ (ws' := [.inr (5, [.int 12, .int 5, .int 0, .int 0, .int 0, .int 0, .ref 1, .ref 2, .ref 3, .ref 4, .ref 5, .ref 6, .null, .null, .null, .null]), .inl (0, 6, .inl (fun _ => 0)), .inl (0, 6, .inl (fun _ => 0)), .inl (0, 6, .inl (fun _ => 0)), .inl (0, 6, .inl (fun _ => 0)), .inl (1, 6, .inr (.inl (fun _ => 0))), .inl (1, 4, .inr (.inl (fun _ => 0))), .inl (0, 6, .inl (fun _ => 0))]) rfl (pc' := 87) rfl ?_
  refine mm_putF mm_RI_ini fF_X5_50 (by intro C T N h; cases h; rfl) dX5_init_87 rfl (Nat.le_of_ble_eq_true rfl) (fun _ => rfl) (fun _ => rfl) (ws' := [.inr (5, [.int 12, .int 5, .int 0, .int 0, .int 0, .int 0, .ref 1, .ref 2, .ref 3, .ref 4, .ref 5, .ref 6, .ref 7, .null, .null, .null]), .inl (0, 6, .inl (fun _ => 0)), .inl (0, 6, .inl (fun _ => 0)), .inl (0, 6, .inl (fun _ => 0)), .inl (0, 6, .inl (fun _ => 0)), .inl (1, 6, .inr (.inl (fun _ => 0))), .inl (1, 4, .inr (.inl (fun _ => 0))), .inl (0, 6, .inl (fun _ => 0))]) rfl (pc' := 90) rfl ?_
  refine mm_aload_n 0 dX5_init_90 rfl rfl (pc' := 91) rfl ?_
  refine mm_bipush dX5_init_91 kb_6 (pc' := 93) rfl ?_
  refine mm_newI aC_I dX5_init_93 (by decide) kt_6 (by decide) (Nat.le_of_ble_eq_true rfl) (Nat.le_of_ble_eq_true rfl) mm_RI_St (k := 8) (Nat.le_of_ble_eq_true rfl) ⟨rfl, by decide, rfl, rfl, rfl⟩ (ws' := [.inr (5, [.int 12, .int 5, .int 0, .int 0, .int 0, .int 0, .ref 1, .ref 2, .ref 3, .ref 4, .ref 5, .ref 6, .ref 7, .null, .null, .null]), .inl (0, 6, .inl (fun _ => 0)), .inl (0, 6, .inl (fun _ => 0)), .inl (0, 6, .inl (fun _ => 0)), .inl (0, 6, .inl (fun _ => 0)), .inl (1, 6, .inr (.inl (fun _ => 0))), .inl (1, 4, .inr (.inl (fun _ => 0))), .inl (0, 6, .inl (fun _ => 0)), .inl (0, 6, .inl (fun _ => 0))]) rfl (pc' := 95) rfl ?_
  refine mm_putF mm_RI_ini fF_X5_53 (by intro C T N h; cases h; rfl) dX5_init_95 rfl (Nat.le_of_ble_eq_true rfl) (fun _ => rfl) (fun _ => rfl) (ws' := [.inr (5, [.int 12, .int 5, .int 0, .int 0, .int 0, .int 0, .ref 1, .ref 2, .ref 3, .ref 4, .ref 5, .ref 6, .ref 7, .ref 8, .null, .null]), .inl (0, 6, .inl (fun _ => 0)), .inl (0, 6, .inl (fun _ => 0)), .inl (0, 6, .inl (fun _ => 0)), .inl (0, 6, .inl (fun _ => 0)), .inl (1, 6, .inr (.inl (fun _ => 0))), .inl (1, 4, .inr (.inl (fun _ => 0))), .inl (0, 6, .inl (fun _ => 0)), .inl (0, 6, .inl (fun _ => 0))]) rfl (pc' := 98) rfl ?_
  refine mm_aload_n 0 dX5_init_98 rfl rfl (pc' := 99) rfl ?_
  refine mm_bipush dX5_init_99 kb_6 (pc' := 101) rfl ?_
  refine mm_newI aC_I dX5_init_101 (by decide) kt_6 (by decide) (Nat.le_of_ble_eq_true rfl) (Nat.le_of_ble_eq_true rfl) mm_RI_St (k := 9) (Nat.le_of_ble_eq_true rfl) ⟨rfl, by decide, rfl, rfl, rfl⟩ (ws' := [.inr (5, [.int 12, .int 5, .int 0, .int 0, .int 0, .int 0, .ref 1, .ref 2, .ref 3, .ref 4, .ref 5, .ref 6, .ref 7, .ref 8, .null, .null]), .inl (0, 6, .inl (fun _ => 0)), .inl (0, 6, .inl (fun _ => 0)), .inl (0, 6, .inl (fun _ => 0)), .inl (0, 6, .inl (fun _ => 0)), .inl (1, 6, .inr (.inl (fun _ => 0))), .inl (1, 4, .inr (.inl (fun _ => 0))), .inl (0, 6, .inl (fun _ => 0)), .inl (0, 6, .inl (fun _ => 0)), .inl (0, 6, .inl (fun _ => 0))]) rfl (pc' := 103) rfl ?_
  refine mm_putF mm_RI_ini fF_X5_56 (by intro C T N h; cases h; rfl) dX5_init_103 rfl (Nat.le_of_ble_eq_true rfl) (fun _ => rfl) (fun _ => rfl) (ws' := [.inr (5, [.int 12, .int 5, .int 0, .int 0, .int 0, .int 0, .ref 1, .ref 2, .ref 3, .ref 4, .ref 5, .ref 6, .ref 7, .ref 8, .ref 9, .null]), .inl (0, 6, .inl (fun _ => 0)), .inl (0, 6, .inl (fun _ => 0)), .inl (0, 6, .inl (fun _ => 0)), .inl (0, 6, .inl (fun _ => 0)), .inl (1, 6, .inr (.inl (fun _ => 0))), .inl (1, 4, .inr (.inl (fun _ => 0))), .inl (0, 6, .inl (fun _ => 0)), .inl (0, 6, .inl (fun _ => 0)), .inl (0, 6, .inl (fun _ => 0))]) rfl (pc' := 106) rfl ?_
  refine mm_aload_n 0 dX5_init_106 rfl rfl (pc' := 107) rfl ?_
  refine mm_bipush dX5_init_107 kb_6 (pc' := 109) rfl ?_
  refine mm_newI aC_I dX5_init_109 (by decide) kt_6 (by decide) (Nat.le_of_ble_eq_true rfl) (Nat.le_of_ble_eq_true rfl) mm_RI_St (k := 10) (Nat.le_of_ble_eq_true rfl) ⟨rfl, by decide, rfl, rfl, rfl⟩ (ws' := [.inr (5, [.int 12, .int 5, .int 0, .int 0, .int 0, .int 0, .ref 1, .ref 2, .ref 3, .ref 4, .ref 5, .ref 6, .ref 7, .ref 8, .ref 9, .null]), .inl (0, 6, .inl (fun _ => 0)), .inl (0, 6, .inl (fun _ => 0)), .inl (0, 6, .inl (fun _ => 0)), .inl (0, 6, .inl (fun _ => 0)), .inl (1, 6, .inr (.inl (fun _ => 0))), .inl (1, 4, .inr (.inl (fun _ => 0))), .inl (0, 6, .inl (fun _ => 0)), .inl (0, 6, .inl (fun _ => 0)), .inl (0, 6, .inl (fun _ => 0)), .inl (0, 6, .inl (fun _ => 0))]) rfl (pc' := 111) rfl ?_
  refine mm_putF mm_RI_ini fF_X5_59 (by intro C T N h; cases h; rfl) dX5_init_111 rfl (Nat.le_of_ble_eq_true rfl) (fun _ => rfl) (fun _ => rfl) (ws' := [.inr (5, [.int 12, .int 5, .int 0, .int 0, .int 0, .int 0, .ref 1, .ref 2, .ref 3, .ref 4, .ref 5, .ref 6, .ref 7, .ref 8, .ref 9, .ref 10]), .inl (0, 6, .inl (fun _ => 0)), .inl (0, 6, .inl (fun _ => 0)), .inl (0, 6, .inl (fun _ => 0)), .inl (0, 6, .inl (fun _ => 0)), .inl (1, 6, .inr (.inl (fun _ => 0))), .inl (1, 4, .inr (.inl (fun _ => 0))), .inl (0, 6, .inl (fun _ => 0)), .inl (0, 6, .inl (fun _ => 0)), .inl (0, 6, .inl (fun _ => 0)), .inl (0, 6, .inl (fun _ => 0))]) rfl (pc' := 114) rfl ?_
  exact mm_vretI rfl (Nat.le_of_ble_eq_true rfl) (Nat.le_of_ble_eq_true rfl) dX5_init_114 rfl
set_option maxHeartbeats 4000000 in
set_option maxRecDepth 100000 in
theorem ok_X6_init : mm_OkI mX6_init [.inr (6, [.null, .int 0, .int 0])] (fun w => w = (W_X6 0 0 (fun _ => 0))) 1 3 := by
  refine mm_OkI.of pn_X6 rfl (by decide) ?_
  refine mm_aload_n 0 dX6_init_0 rfl rfl (pc' := 1) rfl ?_
  refine mm_obji oC_X6_3 dX6_init_1 (Nat.le_of_ble_eq_true rfl) (Nat.le_of_ble_eq_true rfl) (pc' := 4) rfl ?_
  refine mm_aload_n 0 dX6_init_4 rfl rfl (pc' := 5) rfl ?_
  refine mm_iconst dX6_init_5 ki_3 (pc' := 6) rfl ?_
  refine mm_newI aC_I dX6_init_6 (by decide) kt_3 (by decide) (Nat.le_of_ble_eq_true rfl) (Nat.le_of_ble_eq_true rfl) mm_RI_St (k := 1) (Nat.le_of_ble_eq_true rfl) ⟨rfl, by decide, rfl, rfl, rfl⟩ (ws' := [.inr (6, [.null, .int 0, .int 0]), .inl (0, 3, .inl (fun _ => 0))]) rfl (pc' := 8) rfl ?_
  refine mm_putF mm_RI_ini fF_X6_9 (by intro C T N h; cases h; rfl) dX6_init_8 rfl (Nat.le_of_ble_eq_true rfl) (fun _ => rfl) (fun _ => rfl) (ws' := [.inr (6, [.ref 1, .int 0, .int 0]), .inl (0, 3, .inl (fun _ => 0))]) rfl (pc' := 11) rfl ?_
  refine mm_aload_n 0 dX6_init_11 rfl rfl (pc' := 12) rfl ?_
  refine mm_iconst dX6_init_12 ki_0 (pc' := 13) rfl ?_
  refine mm_putf fP_X6_15 dX6_init_13 rfl (Nat.le_of_ble_eq_true rfl) (fun _ => rfl) (fun _ => rfl) (ws' := [.inr (6, [.ref 1, .int 0, .int 0]), .inl (0, 3, .inl (fun _ => 0))]) rfl (pc' := 16) rfl ?_
  refine mm_aload_n 0 dX6_init_16 rfl rfl (pc' := 17) rfl ?_
  refine mm_iconst dX6_init_17 ki_0 (pc' := 18) rfl ?_
  refine mm_putf fP_X6_19 dX6_init_18 rfl (Nat.le_of_ble_eq_true rfl) (fun _ => rfl) (fun _ => rfl) (ws' := [.inr (6, [.ref 1, .int 0, .int 0]), .inl (0, 3, .inl (fun _ => 0))]) rfl (pc' := 21) rfl ?_
  exact mm_vretI rfl (Nat.le_of_ble_eq_true rfl) (Nat.le_of_ble_eq_true rfl) dX6_init_21 rfl
set_option maxHeartbeats 4000000 in
set_option maxRecDepth 100000 in
theorem ok_X4_init : mm_OkI mX4_init [.inr (4, [.int 0, .int 0, .null, .null, .null, .int 0, .int 0, .int 0, .int 0])] (fun w => w = (W_X4 0 0 0 3 0 0 (fun _ => 0) (fun _ => 0) (fun _ => 0))) 3 600 := by
  refine mm_OkI.of pn_X4 rfl (by decide) ?_
  refine mm_aload_n 0 dX4_init_0 rfl rfl (pc' := 1) rfl ?_
  refine mm_obji oC_X4_3 dX4_init_1 (Nat.le_of_ble_eq_true rfl) (Nat.le_of_ble_eq_true rfl) (pc' := 4) rfl ?_
  refine mm_aload_n 0 dX4_init_4 rfl rfl (pc' := 5) rfl ?_
  refine mm_iconst dX4_init_5 ki_0 (pc' := 6) rfl ?_
  refine mm_putf fP_X4_9 dX4_init_6 rfl (Nat.le_of_ble_eq_true rfl) (fun _ => rfl) (fun _ => rfl) (ws' := [.inr (4, [.int 0, .int 0, .null, .null, .null, .int 0, .int 0, .int 0, .int 0])]) rfl (pc' := 9) rfl ?_
  refine mm_aload_n 0 dX4_init_9 rfl rfl (pc' := 10) rfl ?_
  refine mm_iconst dX4_init_10 ki_0 (pc' := 11) rfl ?_
  refine mm_putf fP_X4_15 dX4_init_11 rfl (Nat.le_of_ble_eq_true rfl) (fun _ => rfl) (fun _ => rfl) (ws' := [.inr (4, [.int 0, .int 0, .null, .null, .null, .int 0, .int 0, .int 0, .int 0])]) rfl (pc' := 14) rfl ?_
  refine mm_aload_n 0 dX4_init_14 rfl rfl (pc' := 15) rfl ?_
  refine mm_sipush dX4_init_15 ks_200 (pc' := 18) rfl ?_
  refine mm_newI aC_I dX4_init_18 (by decide) kt_200 (by decide) (Nat.le_of_ble_eq_true rfl) (Nat.le_of_ble_eq_true rfl) mm_RI_St (k := 1) (Nat.le_of_ble_eq_true rfl) ⟨rfl, by decide, rfl, rfl, rfl⟩ (ws' := [.inr (4, [.int 0, .int 0, .null, .null, .null, .int 0, .int 0, .int 0, .int 0]), .inl (0, 200, .inl (fun _ => 0))]) rfl (pc' := 20) rfl ?_
  refine mm_putF mm_RI_ini fF_X4_18 (by intro C T N h; cases h; rfl) dX4_init_20 rfl (Nat.le_of_ble_eq_true rfl) (fun _ => rfl) (fun _ => rfl) (ws' := [.inr (4, [.int 0, .int 0, .ref 1, .null, .null, .int 0, .int 0, .int 0, .int 0]), .inl (0, 200, .inl (fun _ => 0))]) rfl (pc' := 23) rfl ?_
  refine mm_aload_n 0 dX4_init_23 rfl rfl (pc' := 24) rfl ?_
  refine mm_bipush dX4_init_24 kb_100 (pc' := 26) rfl ?_
  refine mm_newI aC_I dX4_init_26 (by decide) kt_100 (by decide) (Nat.le_of_ble_eq_true rfl) (Nat.le_of_ble_eq_true rfl) mm_RI_St (k := 2) (Nat.le_of_ble_eq_true rfl) ⟨rfl, by decide, rfl, rfl, rfl⟩ (ws' := [.inr (4, [.int 0, .int 0, .ref 1, .null, .null, .int 0, .int 0, .int 0, .int 0]), .inl (0, 200, .inl (fun _ => 0)), .inl (0, 100, .inl (fun _ => 0))]) rfl (pc' := 28) rfl ?_
  refine mm_putF mm_RI_ini fF_X4_22 (by intro C T N h; cases h; rfl) dX4_init_28 rfl (Nat.le_of_ble_eq_true rfl) (fun _ => rfl) (fun _ => rfl) (ws' := [.inr (4, [.int 0, .int 0, .ref 1, .ref 2, .null, .int 0, .int 0, .int 0, .int 0]), .inl (0, 200, .inl (fun _ => 0)), .inl (0, 100, .inl (fun _ => 0))]) rfl (pc' := 31) rfl ?_
  refine mm_aload_n 0 dX4_init_31 rfl rfl (pc' := 32) rfl ?_
  refine mm_sipush dX4_init_32 ks_300 (pc' := 35) rfl ?_
  refine mm_newI aC_I dX4_init_35 (by decide) kt_300 (by decide) (Nat.le_of_ble_eq_true rfl) (Nat.le_of_ble_eq_true rfl) mm_RI_St (k := 3) (Nat.le_of_ble_eq_true rfl) ⟨rfl, by decide, rfl, rfl, rfl⟩ (ws' := [.inr (4, [.int 0, .int 0, .ref 1, .ref 2, .null, .int 0, .int 0, .int 0, .int 0]), .inl (0, 200, .inl (fun _ => 0)), .inl (0, 100, .inl (fun _ => 0)), .inl (0, 300, .inl (fun _ => 0))]) rfl (pc' := 37) rfl ?_
  refine mm_putF mm_RI_ini fF_X4_25 (by intro C T N h; cases h; rfl) dX4_init_37 rfl (Nat.le_of_ble_eq_true rfl) (fun _ => rfl) (fun _ => rfl) (ws' := [.inr (4, [.int 0, .int 0, .ref 1, .ref 2, .ref 3, .int 0, .int 0, .int 0, .int 0]), .inl (0, 200, .inl (fun _ => 0)), .inl (0, 100, .inl (fun _ => 0)), .inl (0, 300, .inl (fun _ => 0))]) rfl (pc' := 40) rfl ?_
  refine mm_aload_n 0 dX4_init_40 rfl rfl (pc' := 41) rfl ?_
  refine mm_iconst dX4_init_41 ki_0 (pc' := 42) rfl ?_
  refine mm_putf fP_X4_28 dX4_init_42 rfl (Nat.le_of_ble_eq_true rfl) (fun _ => rfl) (fun _ => rfl) (ws' := [.inr (4, [.int 0, .int 0, .ref 1, .ref 2, .ref 3, .int 0, .int 0, .int 0, .int 0]), .inl (0, 200, .inl (fun _ => 0)), .inl (0, 100, .inl (fun _ => 0)), .inl (0, 300, .inl (fun _ => 0))]) rfl (pc' := 45) rfl ?_
  refine mm_aload_n 0 dX4_init_45 rfl rfl (pc' := 46) rfl ?_
  refine mm_iconst dX4_init_46 ki_3 (pc' := 47) rfl ?_
  refine mm_putf fP_X4_31 dX4_init_47 rfl (Nat.le_of_ble_eq_true rfl) (fun _ => rfl) (fun _ => rfl) (ws' := [.inr (4, [.int 0, .int 0, .ref 1, .ref 2, .ref 3, .int 0, .int 3, .int 0, .int 0]), .inl (0, 200, .inl (fun _ => 0)), .inl (0, 100, .inl (fun _ => 0)), .inl (0, 300, .inl (fun _ => 0))]) rfl (pc' := 50) rfl ?_
  refine mm_aload_n 0 dX4_init_50 rfl rfl (pc' := 51) rfl ?_
  refine mm_iconst dX4_init_51 ki_0 (pc' := 52) rfl ?_
  refine mm_putf fP_X4_34 dX4_init_52 rfl (Nat.le_of_ble_eq_true rfl) (fun _ => rfl) (fun _ => rfl) (ws' := [.inr (4, [.int 0, .int 0, .ref 1, .ref 2, .ref 3, .int 0, .int 3, .int 0, .int 0]), .inl (0, 200, .inl (fun _ => 0)), .inl (0, 100, .inl (fun _ => 0)), .inl (0, 300, .inl (fun _ => 0))]) rfl (pc' := 55) rfl ?_
  refine mm_aload_n 0 dX4_init_55 rfl rfl (pc' := 56) rfl ?_
  refine mm_iconst dX4_init_56 ki_0 (pc' := 57) rfl ?_
  refine mm_putf fP_X4_37 dX4_init_57 rfl (Nat.le_of_ble_eq_true rfl) (fun _ => rfl) (fun _ => rfl) (ws' := [.inr (4, [.int 0, .int 0, .ref 1, .ref 2, .ref 3, .int 0, .int 3, .int 0, .int 0]), .inl (0, 200, .inl (fun _ => 0)), .inl (0, 100, .inl (fun _ => 0)), .inl (0, 300, .inl (fun _ => 0))]) rfl (pc' := 60) rfl ?_
  exact mm_vretI rfl (Nat.le_of_ble_eq_true rfl) (Nat.le_of_ble_eq_true rfl) dX4_init_60 rfl
set_option maxHeartbeats 4000000 in
set_option maxRecDepth 100000 in
theorem ok_X2_init : mm_OkI mX2_init [.inr (2, [.null, .int 0, .null])] (fun w => w = (W_X2 0 (fun _ => 0) 0 0 0 0 (fun _ => 0))) 3 50 := by
  refine mm_OkI.of pn_X2 rfl (by decide) ?_
  refine mm_aload_n 0 dX2_init_0 rfl rfl (pc' := 1) rfl ?_
  refine mm_obji oC_X2_3 dX2_init_1 (Nat.le_of_ble_eq_true rfl) (Nat.le_of_ble_eq_true rfl) (pc' := 4) rfl ?_
  refine mm_aload_n 0 dX2_init_4 rfl rfl (pc' := 5) rfl ?_
  refine mm_bipush dX2_init_5 kb_42 (pc' := 7) rfl ?_
  refine mm_newJ aC_J dX2_init_7 (by decide) kt_42 (by decide) (Nat.le_of_ble_eq_true rfl) (Nat.le_of_ble_eq_true rfl) mm_RI_St (k := 1) (Nat.le_of_ble_eq_true rfl) ⟨rfl, by decide, rfl, rfl, rfl⟩ (ws' := [.inr (2, [.null, .int 0, .null]), .inl (1, 42, .inr (.inl (fun _ => 0)))]) rfl (pc' := 9) rfl ?_
  refine mm_putF mm_RI_ini fF_X2_9 (by intro C T N h; cases h; rfl) dX2_init_9 rfl (Nat.le_of_ble_eq_true rfl) (fun _ => rfl) (fun _ => rfl) (ws' := [.inr (2, [.ref 1, .int 0, .null]), .inl (1, 42, .inr (.inl (fun _ => 0)))]) rfl (pc' := 12) rfl ?_
  refine mm_aload_n 0 dX2_init_12 rfl rfl (pc' := 13) rfl ?_
  refine mm_iconst dX2_init_13 ki_0 (pc' := 14) rfl ?_
  refine mm_putf fP_X2_15 dX2_init_14 rfl (Nat.le_of_ble_eq_true rfl) (fun _ => rfl) (fun _ => rfl) (ws' := [.inr (2, [.ref 1, .int 0, .null]), .inl (1, 42, .inr (.inl (fun _ => 0)))]) rfl (pc' := 17) rfl ?_
  refine mm_aload_n 0 dX2_init_17 rfl rfl (pc' := 18) rfl ?_
  refine mm_newo nC_X2_19 dX2_init_18 (Nat.le_of_ble_eq_true rfl) (Nat.le_of_ble_eq_true rfl) mm_RI_St (k := 2) (Nat.le_of_ble_eq_true rfl) ⟨rfl, by decide, rfl, rfl, rfl⟩ (ws' := [.inr (2, [.ref 1, .int 0, .null]), .inl (1, 42, .inr (.inl (fun _ => 0))), .inr (3, [.null, .int 0, .int 0, .int 0, .int 0])]) rfl (pc' := 21) rfl ?_
  refine mm_dup dX2_init_21 rfl (pc' := 22) rfl ?_
  refine mm_callI (pre := [.inr (2, [.ref 1, .int 0, .null]), .inl (1, 42, .inr (.inl (fun _ => 0)))]) iC_X2_21 ok_X3_init ⟨rfl, rfl, (Nat.le_of_ble_eq_true rfl), (Nat.le_of_ble_eq_true rfl)⟩ dX2_init_22 mm_RI_St (fun _ _ _ _ _ _ _ _ _ _ _ _ _ h => h.2.1) (Nat.le_of_ble_eq_true rfl) rfl rfl ⟨rfl, by decide, rfl, rfl, rfl⟩ (fun _ => rfl) (by rintro _ rfl; exact ⟨rfl, (Nat.le_of_ble_eq_true rfl)⟩) (Nat.le_of_ble_eq_true rfl) ⟨(Nat.le_of_ble_eq_true rfl), (Nat.le_of_ble_eq_true rfl)⟩ (pc' := 25) rfl ?_
  rintro w rfl
  rw [sh_X3_2]
  show mm_Wp _ _ _ _ 25 [(0, .ref 0)] [.ref 2, .ref 0] [.inr (2, [.ref 1, .int 0, .null]), .inl (1, 42, .inr (.inl (fun _ => 0))), .inr (3, [.ref 3, .int 0, .int 0, .int 0, .int 0]), .inl (0, 3, .inl (fun _ => 0))]
  refine mm_putF mm_RI_ini fF_X2_22 (by intro C T N h; cases h; rfl) dX2_init_25 rfl (Nat.le_of_ble_eq_true rfl) (fun _ => rfl) (fun _ => rfl) (ws' := [.inr (2, [.ref 1, .int 0, .ref 2]), .inl (1, 42, .inr (.inl (fun _ => 0))), .inr (3, [.ref 3, .int 0, .int 0, .int 0, .int 0]), .inl (0, 3, .inl (fun _ => 0))]) rfl (pc' := 28) rfl ?_
  exact mm_vretI rfl (Nat.le_of_ble_eq_true rfl) (Nat.le_of_ble_eq_true rfl) dX2_init_28 rfl
set_option maxHeartbeats 4000000 in
set_option maxRecDepth 100000 in
theorem ok_X0_init : mm_OkI mX0_init [.inr (0, [.int 0, .int 0, .int 0, .int 0, .null, .null, .null])] (fun w => w = (W_X0 0 0 (-1) (-1) (fun _ => 0) (fun _ => 0) (fun _ => 0))) 3 72 := by
  refine mm_OkI.of pn_X0 rfl (by decide) ?_
  refine mm_aload_n 0 dX0_init_0 rfl rfl (pc' := 1) rfl ?_
  refine mm_obji oC_X0_3 dX0_init_1 (Nat.le_of_ble_eq_true rfl) (Nat.le_of_ble_eq_true rfl) (pc' := 4) rfl ?_
  refine mm_aload_n 0 dX0_init_4 rfl rfl (pc' := 5) rfl ?_
  refine mm_iconst dX0_init_5 ki_0 (pc' := 6) rfl ?_
  refine mm_putf fP_X0_9 dX0_init_6 rfl (Nat.le_of_ble_eq_true rfl) (fun _ => rfl) (fun _ => rfl) (ws' := [.inr (0, [.int 0, .int 0, .int 0, .int 0, .null, .null, .null])]) rfl (pc' := 9) rfl ?_
  refine mm_aload_n 0 dX0_init_9 rfl rfl (pc' := 10) rfl ?_
  refine mm_iconst dX0_init_10 ki_0 (pc' := 11) rfl ?_
  refine mm_putf fP_X0_15 dX0_init_11 rfl (Nat.le_of_ble_eq_true rfl) (fun _ => rfl) (fun _ => rfl) (ws' := [.inr (0, [.int 0, .int 0, .int 0, .int 0, .null, .null, .null])]) rfl (pc' := 14) rfl ?_
  refine mm_aload_n 0 dX0_init_14 rfl rfl (pc' := 15) rfl ?_
  refine mm_iconst dX0_init_15 ki_m1 (pc' := 16) rfl ?_
  refine mm_putf fP_X0_18 dX0_init_16 rfl (Nat.le_of_ble_eq_true rfl) (fun _ => rfl) (fun _ => rfl) (ws' := [.inr (0, [.int 0, .int 0, .int (-1), .int 0, .null, .null, .null])]) rfl (pc' := 19) rfl ?_
  refine mm_aload_n 0 dX0_init_19 rfl rfl (pc' := 20) rfl ?_
  refine mm_iconst dX0_init_20 ki_m1 (pc' := 21) rfl ?_
  refine mm_putf fP_X0_21 dX0_init_21 rfl (Nat.le_of_ble_eq_true rfl) (fun _ => rfl) (fun _ => rfl) (ws' := [.inr (0, [.int 0, .int 0, .int (-1), .int (-1), .null, .null, .null])]) rfl (pc' := 24) rfl ?_
  refine mm_aload_n 0 dX0_init_24 rfl rfl (pc' := 25) rfl ?_
  refine mm_bipush dX0_init_25 kb_60 (pc' := 27) rfl ?_
  refine mm_newI aC_I dX0_init_27 (by decide) kt_60 (by decide) (Nat.le_of_ble_eq_true rfl) (Nat.le_of_ble_eq_true rfl) mm_RI_St (k := 1) (Nat.le_of_ble_eq_true rfl) ⟨rfl, by decide, rfl, rfl, rfl⟩ (ws' := [.inr (0, [.int 0, .int 0, .int (-1), .int (-1), .null, .null, .null]), .inl (0, 60, .inl (fun _ => 0))]) rfl (pc' := 29) rfl ?_
  refine mm_putF mm_RI_ini fF_X0_24 (by intro C T N h; cases h; rfl) dX0_init_29 rfl (Nat.le_of_ble_eq_true rfl) (fun _ => rfl) (fun _ => rfl) (ws' := [.inr (0, [.int 0, .int 0, .int (-1), .int (-1), .ref 1, .null, .null]), .inl (0, 60, .inl (fun _ => 0))]) rfl (pc' := 32) rfl ?_
  refine mm_aload_n 0 dX0_init_32 rfl rfl (pc' := 33) rfl ?_
  refine mm_bipush dX0_init_33 kb_6 (pc' := 35) rfl ?_
  refine mm_newJ aC_J dX0_init_35 (by decide) kt_6 (by decide) (Nat.le_of_ble_eq_true rfl) (Nat.le_of_ble_eq_true rfl) mm_RI_St (k := 2) (Nat.le_of_ble_eq_true rfl) ⟨rfl, by decide, rfl, rfl, rfl⟩ (ws' := [.inr (0, [.int 0, .int 0, .int (-1), .int (-1), .ref 1, .null, .null]), .inl (0, 60, .inl (fun _ => 0)), .inl (1, 6, .inr (.inl (fun _ => 0)))]) rfl (pc' := 37) rfl ?_
  refine mm_putF mm_RI_ini fF_X0_28 (by intro C T N h; cases h; rfl) dX0_init_37 rfl (Nat.le_of_ble_eq_true rfl) (fun _ => rfl) (fun _ => rfl) (ws' := [.inr (0, [.int 0, .int 0, .int (-1), .int (-1), .ref 1, .ref 2, .null]), .inl (0, 60, .inl (fun _ => 0)), .inl (1, 6, .inr (.inl (fun _ => 0)))]) rfl (pc' := 40) rfl ?_
  refine mm_aload_n 0 dX0_init_40 rfl rfl (pc' := 41) rfl ?_
  refine mm_bipush dX0_init_41 kb_6 (pc' := 43) rfl ?_
  refine mm_newZ aC_Z dX0_init_43 (by decide) kt_6 (by decide) (Nat.le_of_ble_eq_true rfl) (Nat.le_of_ble_eq_true rfl) mm_RI_St (k := 3) (Nat.le_of_ble_eq_true rfl) ⟨rfl, by decide, rfl, rfl, rfl⟩ (ws' := [.inr (0, [.int 0, .int 0, .int (-1), .int (-1), .ref 1, .ref 2, .null]), .inl (0, 60, .inl (fun _ => 0)), .inl (1, 6, .inr (.inl (fun _ => 0))), .inl (2, 6, .inl (fun _ => 0))]) rfl (pc' := 45) rfl ?_
  refine mm_putF mm_RI_ini fF_X0_32 (by intro C T N h; cases h; rfl) dX0_init_45 rfl (Nat.le_of_ble_eq_true rfl) (fun _ => rfl) (fun _ => rfl) (ws' := [.inr (0, [.int 0, .int 0, .int (-1), .int (-1), .ref 1, .ref 2, .ref 3]), .inl (0, 60, .inl (fun _ => 0)), .inl (1, 6, .inr (.inl (fun _ => 0))), .inl (2, 6, .inl (fun _ => 0))]) rfl (pc' := 48) rfl ?_
  exact mm_vretI rfl (Nat.le_of_ble_eq_true rfl) (Nat.le_of_ble_eq_true rfl) dX0_init_48 rfl
def X1_init_L90 (fu : Nat) (rec79 : (Nat → Int32) → Int32 → Int32 → Int32 → Option ((Nat → Int32)))  (v3 : Int32) (v4 : Int32) : Nat → (Nat → Int32) → Int32 → Int32 → Option ((Nat → Int32))
  | 0, _, _, _ => none
  | n + 1, q_deviations, v1, v5 => if v4 ≤ v5 then (rec79 q_deviations v1 v4 (v3 + (1 : Int32))) else (mm_rd q_deviations 299 v5 fun x104 => (f_X1_addLarger fu q_deviations x104 v1).bind fun t106 => (X1_init_L90 fu rec79 v3 v4 n) t106.2 t106.1 (v5 + (1 : Int32)))
set_option maxHeartbeats 4000000 in
set_option maxRecDepth 100000 in
theorem s_X1_init_L90 {fu : Nat} {r : (Nat → Int32)} {rec79 : (Nat → Int32) → Int32 → Int32 → Int32 → Option ((Nat → Int32))} {v3 : Int32} {v4 : Int32} (hr79 : ∀ (z_q_deviations : Nat → Int32) (y1 : Int32) (y2 : Int32) (y3 : Int32), rec79 z_q_deviations y1 y2 y3 = some r → mm_Wp mX1_init (mm_RI (fun w => w = (W_X1 (-1) (fun _ => 0) (fun _ => 0) 0 0 0 0 (fun _ => 0) r (fun _ => 0) (fun _ => 0) (fun _ => 0) (fun _ => 0) (fun _ => 0) (fun _ => 0) (fun _ => 0))) 1 14 691) 14 691 79 [(0, .ref 0), (1, .int y1), (2, .int y2), (3, .int y3)] [] (W_X1 (-1) (fun _ => 0) (fun _ => 0) 0 0 0 0 (fun _ => 0) z_q_deviations (fun _ => 0) (fun _ => 0) (fun _ => 0) (fun _ => 0) (fun _ => 0) (fun _ => 0) (fun _ => 0))) : ∀ (n : Nat) (q_deviations : Nat → Int32) (v1 : Int32) (v5 : Int32), X1_init_L90 fu rec79 v3 v4 n q_deviations v1 v5 = some r → mm_Wp mX1_init (mm_RI (fun w => w = (W_X1 (-1) (fun _ => 0) (fun _ => 0) 0 0 0 0 (fun _ => 0) r (fun _ => 0) (fun _ => 0) (fun _ => 0) (fun _ => 0) (fun _ => 0) (fun _ => 0) (fun _ => 0))) 1 14 691) 14 691 90 [(0, .ref 0), (1, .int v1), (3, .int v3), (4, .int v4), (5, .int v5)] [] (W_X1 (-1) (fun _ => 0) (fun _ => 0) 0 0 0 0 (fun _ => 0) q_deviations (fun _ => 0) (fun _ => 0) (fun _ => 0) (fun _ => 0) (fun _ => 0) (fun _ => 0) (fun _ => 0)) := by
  intro n
  induction n with
  | zero =>
    intro q_deviations v1 v5 h
    rw [X1_init_L90] at h
    cases h
  | succ n hr90 =>
    intro q_deviations v1 v5 h
    rw [X1_init_L90] at h
    refine mm_iload 4 dX1_init_90 rfl (pc' := 92) rfl ?_
    refine mm_iload 3 dX1_init_92 rfl (pc' := 94) rfl ?_
    refine mm_icmp_ge (tgt := 116) dX1_init_94 (by decide) (pc' := 97) rfl (fun c => ?_) (fun c => ?_)
    · replace h := mm_it h c
      clear c
      refine mm_iload 3 dX1_init_116 rfl (pc' := 118) rfl ?_
      refine mm_istore_n dX1_init_118 rfl (by decide) (l' := [(2, .int v4), (0, .ref 0), (1, .int v1), (3, .int v3), (4, .int v4), (5, .int v5)]) rfl (pc' := 119) rfl ?_
      refine mm_iinc 3 dX1_init_119 rfl ki_1 (by decide) (l' := [(3, .int (v3 + (1 : Int32))), (2, .int v4), (0, .ref 0), (1, .int v1), (4, .int v4), (5, .int v5)]) rfl (pc' := 122) rfl ?_
      refine mm_goto (tgt := 79) dX1_init_122 (by decide) ?_
      exact mm_sub [2, 3, 1, 0] rfl (hr79 _ _ _ _ h)
    · replace h := mm_if h c
      clear c
      refine mm_aload_n 0 dX1_init_97 rfl rfl (pc' := 98) rfl ?_
      refine mm_aload_n 0 dX1_init_98 rfl rfl (pc' := 99) rfl ?_
      refine mm_getf fG_X1_29 dX1_init_99 rfl rfl (pc' := 102) rfl ?_
      refine mm_iload 4 dX1_init_102 rfl (pc' := 104) rfl ?_
      obtain ⟨x104, c104, e104, h⟩ := mm_rd_of h
      refine mm_iald dX1_init_104 rfl c104 e104 (pc' := 105) rfl ?_
      clear c104 e104
      refine mm_iload_n 1 dX1_init_105 rfl rfl (pc' := 106) rfl ?_
      obtain ⟨t106, h106, h⟩ := mm_bd h
      refine mm_call0 (As := [.int x104, .int v1]) (rest := []) cV_X1_43 (ok_X1_addLarger h106) ⟨rfl, rfl, Nat.le_of_ble_eq_true rfl, Nat.le_of_ble_eq_true rfl⟩ dX1_init_106 rfl rfl rfl rfl (by rintro _ _ ⟨-, rfl⟩; rfl) (Nat.le_of_ble_eq_true rfl) ⟨Nat.le_of_ble_eq_true rfl, Nat.le_of_ble_eq_true rfl⟩ (pc' := 109) rfl ?_
      rintro rv w ⟨rfl, rfl⟩
      show mm_Wp _ _ _ _ 109 [(0, .ref 0), (1, .int v1), (3, .int v3), (4, .int v4), (5, .int v5)] [.int t106.1] (W_X1 (-1) (fun _ => 0) (fun _ => 0) 0 0 0 0 (fun _ => 0) t106.2 (fun _ => 0) (fun _ => 0) (fun _ => 0) (fun _ => 0) (fun _ => 0) (fun _ => 0) (fun _ => 0))
      clear h106
      refine mm_istore_n dX1_init_109 rfl (by decide) (l' := [(1, .int t106.1), (0, .ref 0), (3, .int v3), (4, .int v4), (5, .int v5)]) rfl (pc' := 110) rfl ?_
      refine mm_iinc 4 dX1_init_110 rfl ki_1 (by decide) (l' := [(5, .int (v5 + (1 : Int32))), (1, .int t106.1), (0, .ref 0), (3, .int v3), (4, .int v4)]) rfl (pc' := 113) rfl ?_
      refine mm_goto (tgt := 90) dX1_init_113 (by decide) ?_
      exact mm_sub [2, 1, 3, 4, 0] rfl (hr90 _ _ _ h)
def X1_init_L79 (fu : Nat)    : Nat → (Nat → Int32) → Int32 → Int32 → Int32 → Option ((Nat → Int32))
  | 0, _, _, _, _ => none
  | n + 1, q_deviations, v1, v2, v3 => if (3 : Int32) < v3 then (some (q_deviations)) else (X1_init_L90 fu (X1_init_L79 fu n) v3 v1 fu q_deviations v1 v2)
set_option maxHeartbeats 4000000 in
set_option maxRecDepth 100000 in
theorem s_X1_init_L79 {fu : Nat} {r : (Nat → Int32)} : ∀ (n : Nat) (q_deviations : Nat → Int32) (v1 : Int32) (v2 : Int32) (v3 : Int32), X1_init_L79 fu n q_deviations v1 v2 v3 = some r → mm_Wp mX1_init (mm_RI (fun w => w = (W_X1 (-1) (fun _ => 0) (fun _ => 0) 0 0 0 0 (fun _ => 0) r (fun _ => 0) (fun _ => 0) (fun _ => 0) (fun _ => 0) (fun _ => 0) (fun _ => 0) (fun _ => 0))) 1 14 691) 14 691 79 [(0, .ref 0), (1, .int v1), (2, .int v2), (3, .int v3)] [] (W_X1 (-1) (fun _ => 0) (fun _ => 0) 0 0 0 0 (fun _ => 0) q_deviations (fun _ => 0) (fun _ => 0) (fun _ => 0) (fun _ => 0) (fun _ => 0) (fun _ => 0) (fun _ => 0)) := by
  intro n
  induction n with
  | zero =>
    intro q_deviations v1 v2 v3 h
    rw [X1_init_L79] at h
    cases h
  | succ n hr79 =>
    intro q_deviations v1 v2 v3 h
    rw [X1_init_L79] at h
    refine mm_iload_n 3 dX1_init_79 rfl rfl (pc' := 80) rfl ?_
    refine mm_iconst dX1_init_80 ki_3 (pc' := 81) rfl ?_
    refine mm_icmp_gt (tgt := 125) dX1_init_81 (by decide) (pc' := 84) rfl (fun c => ?_) (fun c => ?_)
    · replace h := mm_it h c
      clear c
      have h9 := Option.some.inj h
      subst h9
      exact mm_vretI rfl (Nat.le_of_ble_eq_true rfl) (Nat.le_of_ble_eq_true rfl) dX1_init_125 rfl
    · replace h := mm_if h c
      clear c
      refine mm_iload_n 1 dX1_init_84 rfl rfl (pc' := 85) rfl ?_
      refine mm_istore dX1_init_85 (by decide) (l' := [(4, .int v1), (0, .ref 0), (1, .int v1), (2, .int v2), (3, .int v3)]) rfl (pc' := 87) rfl ?_
      refine mm_iload_n 3 dX1_init_87 rfl rfl (pc' := 88) rfl ?_
      refine mm_istore dX1_init_88 (by decide) (l' := [(5, .int v2), (4, .int v1), (0, .ref 0), (1, .int v1), (2, .int v2), (3, .int v3)]) rfl (pc' := 90) rfl ?_
      exact mm_sub [2, 3, 5, 1, 0] rfl (s_X1_init_L90 (hr79 := hr79) _ _ _ _ h)
def f_X1_init (fu : Nat) : Option ((Nat → Int32)) := X1_init_L79 fu fu (fun _ => 0) (1 : Int32) (0 : Int32) (1 : Int32)
set_option maxHeartbeats 4000000 in
set_option maxRecDepth 100000 in
theorem ok_X1_init {fu : Nat} {r : (Nat → Int32)} (h : f_X1_init fu = some r) : mm_OkI mX1_init [.inr (1, [.int 0, .null, .null, .null, .null, .null, .null, .null])] (fun w => w = (W_X1 (-1) (fun _ => 0) (fun _ => 0) 0 0 0 0 (fun _ => 0) r (fun _ => 0) (fun _ => 0) (fun _ => 0) (fun _ => 0) (fun _ => 0) (fun _ => 0) (fun _ => 0))) 14 691 := by
  rw [f_X1_init] at h
  refine mm_OkI.of pn_X1 rfl (by decide) ?_
  refine mm_aload_n 0 dX1_init_0 rfl rfl (pc' := 1) rfl ?_
  refine mm_obji oC_X1_3 dX1_init_1 (Nat.le_of_ble_eq_true rfl) (Nat.le_of_ble_eq_true rfl) (pc' := 4) rfl ?_
  refine mm_aload_n 0 dX1_init_4 rfl rfl (pc' := 5) rfl ?_
  refine mm_iconst dX1_init_5 ki_m1 (pc' := 6) rfl ?_
  refine mm_putf fP_X1_9 dX1_init_6 rfl (Nat.le_of_ble_eq_true rfl) (fun _ => rfl) (fun _ => rfl) (ws' := [.inr (1, [.int (-1), .null, .null, .null, .null, .null, .null, .null])]) rfl (pc' := 9) rfl ?_
  refine mm_aload_n 0 dX1_init_9 rfl rfl (pc' := 10) rfl ?_
  refine mm_iconst dX1_init_10 ki_3 (pc' := 11) rfl ?_
  refine mm_newI aC_I dX1_init_11 (by decide) kt_3 (by decide) (Nat.le_of_ble_eq_true rfl) (Nat.le_of_ble_eq_true rfl) mm_RI_St (k := 1) (Nat.le_of_ble_eq_true rfl) ⟨rfl, by decide, rfl, rfl, rfl⟩ (ws' := [.inr (1, [.int (-1), .null, .null, .null, .null, .null, .null, .null]), .inl (0, 3, .inl (fun _ => 0))]) rfl (pc' := 13) rfl ?_
  refine mm_putF mm_RI_ini fF_X1_15 (by intro C T N h; cases h; rfl) dX1_init_13 rfl (Nat.le_of_ble_eq_true rfl) (fun _ => rfl) (fun _ => rfl) (ws' := [.inr (1, [.int (-1), .ref 1, .null, .null, .null, .null, .null, .null]), .inl (0, 3, .inl (fun _ => 0))]) rfl (pc' := 16) rfl ?_
  refine mm_aload_n 0 dX1_init_16 rfl rfl (pc' := 17) rfl ?_
  refine mm_iconst dX1_init_17 ki_3 (pc' := 18) rfl ?_
  refine mm_newI aC_I dX1_init_18 (by decide) kt_3 (by decide) (Nat.le_of_ble_eq_true rfl) (Nat.le_of_ble_eq_true rfl) mm_RI_St (k := 2) (Nat.le_of_ble_eq_true rfl) ⟨rfl, by decide, rfl, rfl, rfl⟩ (ws' := [.inr (1, [.int (-1), .ref 1, .null, .null, .null, .null, .null, .null]), .inl (0, 3, .inl (fun _ => 0)), .inl (0, 3, .inl (fun _ => 0))]) rfl (pc' := 20) rfl ?_
  refine mm_putF mm_RI_ini fF_X1_19 (by intro C T N h; cases h; rfl) dX1_init_20 rfl (Nat.le_of_ble_eq_true rfl) (fun _ => rfl) (fun _ => rfl) (ws' := [.inr (1, [.int (-1), .ref 1, .ref 2, .null, .null, .null, .null, .null]), .inl (0, 3, .inl (fun _ => 0)), .inl (0, 3, .inl (fun _ => 0))]) rfl (pc' := 23) rfl ?_
  refine mm_aload_n 0 dX1_init_23 rfl rfl (pc' := 24) rfl ?_
  refine mm_newo nC_X1_22 dX1_init_24 (Nat.le_of_ble_eq_true rfl) (Nat.le_of_ble_eq_true rfl) mm_RI_St (k := 3) (Nat.le_of_ble_eq_true rfl) ⟨rfl, by decide, rfl, rfl, rfl⟩ (ws' := [.inr (1, [.int (-1), .ref 1, .ref 2, .null, .null, .null, .null, .null]), .inl (0, 3, .inl (fun _ => 0)), .inl (0, 3, .inl (fun _ => 0)), .inr (3, [.null, .int 0, .int 0, .int 0, .int 0])]) rfl (pc' := 27) rfl ?_
  refine mm_dup dX1_init_27 rfl (pc' := 28) rfl ?_
  refine mm_callI (pre := [.inr (1, [.int (-1), .ref 1, .ref 2, .null, .null, .null, .null, .null]), .inl (0, 3, .inl (fun _ => 0)), .inl (0, 3, .inl (fun _ => 0))]) iC_X1_24 ok_X3_init ⟨rfl, rfl, (Nat.le_of_ble_eq_true rfl), (Nat.le_of_ble_eq_true rfl)⟩ dX1_init_28 mm_RI_St (fun _ _ _ _ _ _ _ _ _ _ _ _ _ h => h.2.1) (Nat.le_of_ble_eq_true rfl) rfl rfl ⟨rfl, by decide, rfl, rfl, rfl⟩ (fun _ => rfl) (by rintro _ rfl; exact ⟨rfl, (Nat.le_of_ble_eq_true rfl)⟩) (Nat.le_of_ble_eq_true rfl) ⟨(Nat.le_of_ble_eq_true rfl), (Nat.le_of_ble_eq_true rfl)⟩ (pc' := 31) rfl ?_
  rintro w rfl
  rw [sh_X3_3]
  show mm_Wp _ _ _ _ 31 [(0, .ref 0)] [.ref 3, .ref 0] [.inr (1, [.int (-1), .ref 1, .ref 2, .null, .null, .null, .null, .null]), .inl (0, 3, .inl (fun _ => 0)), .inl (0, 3, .inl (fun _ => 0)), .inr (3, [.ref 4, .int 0, .int 0, .int 0, .int 0]), .inl (0, 3, .inl (fun _ => 0))]
  refine mm_putF mm_RI_ini fF_X1_25 (by intro C T N h; cases h; rfl) dX1_init_31 rfl (Nat.le_of_ble_eq_true rfl) (fun _ => rfl) (fun _ => rfl) (ws' := [.inr (1, [.int (-1), .ref 1, .ref 2, .ref 3, .null, .null, .null, .null]), .inl (0, 3, .inl (fun _ => 0)), .inl (0, 3, .inl (fun _ => 0)), .inr (3, [.ref 4, .int 0, .int 0, .int 0, .int 0]), .inl (0, 3, .inl (fun _ => 0))]) rfl (pc' := 34) rfl ?_
  refine mm_aload_n 0 dX1_init_34 rfl rfl (pc' := 35) rfl ?_
  refine mm_sipush dX1_init_35 ks_299 (pc' := 38) rfl ?_
  refine mm_newI aC_I dX1_init_38 (by decide) kt_299 (by decide) (Nat.le_of_ble_eq_true rfl) (Nat.le_of_ble_eq_true rfl) mm_RI_St (k := 5) (Nat.le_of_ble_eq_true rfl) ⟨rfl, by decide, rfl, rfl, rfl⟩ (ws' := [.inr (1, [.int (-1), .ref 1, .ref 2, .ref 3, .null, .null, .null, .null]), .inl (0, 3, .inl (fun _ => 0)), .inl (0, 3, .inl (fun _ => 0)), .inr (3, [.ref 4, .int 0, .int 0, .int 0, .int 0]), .inl (0, 3, .inl (fun _ => 0)), .inl (0, 299, .inl (fun _ => 0))]) rfl (pc' := 40) rfl ?_
  refine mm_putF mm_RI_ini fF_X1_29 (by intro C T N h; cases h; rfl) dX1_init_40 rfl (Nat.le_of_ble_eq_true rfl) (fun _ => rfl) (fun _ => rfl) (ws' := [.inr (1, [.int (-1), .ref 1, .ref 2, .ref 3, .ref 5, .null, .null, .null]), .inl (0, 3, .inl (fun _ => 0)), .inl (0, 3, .inl (fun _ => 0)), .inr (3, [.ref 4, .int 0, .int 0, .int 0, .int 0]), .inl (0, 3, .inl (fun _ => 0)), .inl (0, 299, .inl (fun _ => 0))]) rfl (pc' := 43) rfl ?_
  refine mm_aload_n 0 dX1_init_43 rfl rfl (pc' := 44) rfl ?_
  refine mm_bipush dX1_init_44 kb_12 (pc' := 46) rfl ?_
  refine mm_newI aC_I dX1_init_46 (by decide) kt_12 (by decide) (Nat.le_of_ble_eq_true rfl) (Nat.le_of_ble_eq_true rfl) mm_RI_St (k := 6) (Nat.le_of_ble_eq_true rfl) ⟨rfl, by decide, rfl, rfl, rfl⟩ (ws' := [.inr (1, [.int (-1), .ref 1, .ref 2, .ref 3, .ref 5, .null, .null, .null]), .inl (0, 3, .inl (fun _ => 0)), .inl (0, 3, .inl (fun _ => 0)), .inr (3, [.ref 4, .int 0, .int 0, .int 0, .int 0]), .inl (0, 3, .inl (fun _ => 0)), .inl (0, 299, .inl (fun _ => 0)), .inl (0, 12, .inl (fun _ => 0))]) rfl (pc' := 48) rfl ?_
  refine mm_putF mm_RI_ini fF_X1_32 (by intro C T N h; cases h; rfl) dX1_init_48 rfl (Nat.le_of_ble_eq_true rfl) (fun _ => rfl) (fun _ => rfl) (ws' := [.inr (1, [.int (-1), .ref 1, .ref 2, .ref 3, .ref 5, .ref 6, .null, .null]), .inl (0, 3, .inl (fun _ => 0)), .inl (0, 3, .inl (fun _ => 0)), .inr (3, [.ref 4, .int 0, .int 0, .int 0, .int 0]), .inl (0, 3, .inl (fun _ => 0)), .inl (0, 299, .inl (fun _ => 0)), .inl (0, 12, .inl (fun _ => 0))]) rfl (pc' := 51) rfl ?_
  refine mm_aload_n 0 dX1_init_51 rfl rfl (pc' := 52) rfl ?_
  refine mm_iconst dX1_init_52 ki_3 (pc' := 53) rfl ?_
  refine mm_bipush dX1_init_53 kb_60 (pc' := 55) rfl ?_
  refine mm_multi mC_X1_35 aC_I dX1_init_55 (Nat.le_of_ble_eq_true rfl) (Nat.le_of_ble_eq_true rfl) mm_RI_St (fun _ _ _ _ _ _ _ _ _ _ _ _ _ h => h.2.1) (k := 7) (Nat.le_of_ble_eq_true rfl) ⟨rfl, by decide, rfl, rfl, rfl⟩ (ws' := [.inr (1, [.int (-1), .ref 1, .ref 2, .ref 3, .ref 5, .ref 6, .null, .null]), .inl (0, 3, .inl (fun _ => 0)), .inl (0, 3, .inl (fun _ => 0)), .inr (3, [.ref 4, .int 0, .int 0, .int 0, .int 0]), .inl (0, 3, .inl (fun _ => 0)), .inl (0, 299, .inl (fun _ => 0)), .inl (0, 12, .inl (fun _ => 0)), .inl (3, 3, .inr (.inr (.inr (.inr (fun j => some (8 + j)))))), .inl (0, 60, .inl (fun _ => 0)), .inl (0, 60, .inl (fun _ => 0)), .inl (0, 60, .inl (fun _ => 0))]) rfl (pc' := 59) rfl ?_
  refine mm_putF mm_RI_ini fF_X1_37 (by intro C T N h; cases h; rfl) dX1_init_59 rfl (Nat.le_of_ble_eq_true rfl) (fun _ => rfl) (fun _ => rfl) (ws' := [.inr (1, [.int (-1), .ref 1, .ref 2, .ref 3, .ref 5, .ref 6, .ref 7, .null]), .inl (0, 3, .inl (fun _ => 0)), .inl (0, 3, .inl (fun _ => 0)), .inr (3, [.ref 4, .int 0, .int 0, .int 0, .int 0]), .inl (0, 3, .inl (fun _ => 0)), .inl (0, 299, .inl (fun _ => 0)), .inl (0, 12, .inl (fun _ => 0)), .inl (3, 3, .inr (.inr (.inr (.inr (fun j => some (8 + j)))))), .inl (0, 60, .inl (fun _ => 0)), .inl (0, 60, .inl (fun _ => 0)), .inl (0, 60, .inl (fun _ => 0))]) rfl (pc' := 62) rfl ?_
  refine mm_aload_n 0 dX1_init_62 rfl rfl (pc' := 63) rfl ?_
  refine mm_iconst dX1_init_63 ki_3 (pc' := 64) rfl ?_
  refine mm_bipush dX1_init_64 kb_60 (pc' := 66) rfl ?_
  refine mm_multi mC_X1_35 aC_I dX1_init_66 (Nat.le_of_ble_eq_true rfl) (Nat.le_of_ble_eq_true rfl) mm_RI_St (fun _ _ _ _ _ _ _ _ _ _ _ _ _ h => h.2.1) (k := 11) (Nat.le_of_ble_eq_true rfl) ⟨rfl, by decide, rfl, rfl, rfl⟩ (ws' := [.inr (1, [.int (-1), .ref 1, .ref 2, .ref 3, .ref 5, .ref 6, .ref 7, .null]), .inl (0, 3, .inl (fun _ => 0)), .inl (0, 3, .inl (fun _ => 0)), .inr (3, [.ref 4, .int 0, .int 0, .int 0, .int 0]), .inl (0, 3, .inl (fun _ => 0)), .inl (0, 299, .inl (fun _ => 0)), .inl (0, 12, .inl (fun _ => 0)), .inl (3, 3, .inr (.inr (.inr (.inr (fun j => some (8 + j)))))), .inl (0, 60, .inl (fun _ => 0)), .inl (0, 60, .inl (fun _ => 0)), .inl (0, 60, .inl (fun _ => 0)), .inl (3, 3, .inr (.inr (.inr (.inr (fun j => some (12 + j)))))), .inl (0, 60, .inl (fun _ => 0)), .inl (0, 60, .inl (fun _ => 0)), .inl (0, 60, .inl (fun _ => 0))]) rfl (pc' := 70) rfl ?_
  refine mm_putF mm_RI_ini fF_X1_40 (by intro C T N h; cases h; rfl) dX1_init_70 rfl (Nat.le_of_ble_eq_true rfl) (fun _ => rfl) (fun _ => rfl) (ws' := [.inr (1, [.int (-1), .ref 1, .ref 2, .ref 3, .ref 5, .ref 6, .ref 7, .ref 11]), .inl (0, 3, .inl (fun _ => 0)), .inl (0, 3, .inl (fun _ => 0)), .inr (3, [.ref 4, .int 0, .int 0, .int 0, .int 0]), .inl (0, 3, .inl (fun _ => 0)), .inl (0, 299, .inl (fun _ => 0)), .inl (0, 12, .inl (fun _ => 0)), .inl (3, 3, .inr (.inr (.inr (.inr (fun j => some (8 + j)))))), .inl (0, 60, .inl (fun _ => 0)), .inl (0, 60, .inl (fun _ => 0)), .inl (0, 60, .inl (fun _ => 0)), .inl (3, 3, .inr (.inr (.inr (.inr (fun j => some (12 + j)))))), .inl (0, 60, .inl (fun _ => 0)), .inl (0, 60, .inl (fun _ => 0)), .inl (0, 60, .inl (fun _ => 0))]) rfl (pc' := 73) rfl ?_
  show mm_Wp _ _ _ _ 73 [(0, .ref 0)] [] (W_X1 (-1) (fun _ => 0) (fun _ => 0) 0 0 0 0 (fun _ => 0) (fun _ => 0) (fun _ => 0) (fun _ => 0) (fun _ => 0) (fun _ => 0) (fun _ => 0) (fun _ => 0) (fun _ => 0))
  refine mm_iconst dX1_init_73 ki_1 (pc' := 74) rfl ?_
  refine mm_istore_n dX1_init_74 rfl (by decide) (l' := [(1, .int (1 : Int32)), (0, .ref 0)]) rfl (pc' := 75) rfl ?_
  refine mm_iconst dX1_init_75 ki_0 (pc' := 76) rfl ?_
  refine mm_istore_n dX1_init_76 rfl (by decide) (l' := [(2, .int (0 : Int32)), (1, .int (1 : Int32)), (0, .ref 0)]) rfl (pc' := 77) rfl ?_
  refine mm_iconst dX1_init_77 ki_1 (pc' := 78) rfl ?_
  refine mm_istore_n dX1_init_78 rfl (by decide) (l' := [(3, .int (1 : Int32)), (2, .int (0 : Int32)), (1, .int (1 : Int32)), (0, .ref 0)]) rfl (pc' := 79) rfl ?_
  exact mm_sub [3, 2, 1, 0] rfl (s_X1_init_L79  _ _ _ _ _ h)
def X8_init_L152 (fu : Nat)  (q_st : Nat → Int32)  : Nat → (Nat → Int32) → Int32 → Option ((Nat → Int32) × (Nat → Int32))
  | 0, _, _ => none
  | n + 1, q_ones, v1 => if (4096 : Int32) ≤ v1 then ((f_X8_anew fu q_st (12 : Int32) (5 : Int32)).bind fun t187 => some (t187, q_ones)) else (mm_rd q_ones 4096 (v1 / (2 : Int32)) fun x171 => mm_ck 4096 v1 ((X8_init_L152 fu q_st n) (upd q_ones v1.toNatClampNeg (x171 + (v1 - v1 / (2 : Int32) * (2 : Int32)))) (v1 + (1 : Int32))))
set_option maxHeartbeats 4000000 in
set_option maxRecDepth 100000 in
theorem s_X8_init_L152 {fu : Nat} {q_st : Nat → Int32} {r : (Nat → Int32) × (Nat → Int32)} : ∀ (n : Nat) (q_ones : Nat → Int32) (v1 : Int32), X8_init_L152 fu q_st n q_ones v1 = some r → mm_Wp mX8_init (mm_RI (fun w => w = (W_X8 0 0 0 0 0 0 0 0 0 0 0 0 0 0 r.1 (fun _ => 0) (fun _ => 0) (fun _ => 0) (fun _ => 0) (fun _ => 0) r.2 (fun _ => 0) (fun _ => 0) (fun _ => 0) (fun _ => 0) (fun _ => 0) (fun _ => 0) (fun _ => 0) (fun _ => 0) (fun _ => 0) (fun _ => 0) (fun _ => 0))) 1 18 14800) 18 14800 152 [(0, .ref 0), (1, .int v1)] [] (W_X8 0 0 0 0 0 0 0 0 0 0 0 0 0 0 q_st (fun _ => 0) (fun _ => 0) (fun _ => 0) (fun _ => 0) (fun _ => 0) q_ones (fun _ => 0) (fun _ => 0) (fun _ => 0) (fun _ => 0) (fun _ => 0) (fun _ => 0) (fun _ => 0) (fun _ => 0) (fun _ => 0) (fun _ => 0) (fun _ => 0)) := by
  intro n
  induction n with
  | zero =>
    intro q_ones v1 h
    rw [X8_init_L152] at h
    cases h
  | succ n hr152 =>
    intro q_ones v1 h
    rw [X8_init_L152] at h
    refine mm_iload_n 1 dX8_init_152 rfl rfl (pc' := 153) rfl ?_
    refine mm_sipush dX8_init_153 ks_4096 (pc' := 156) rfl ?_
    refine mm_icmp_ge (tgt := 183) dX8_init_156 (by decide) (pc' := 159) rfl (fun c => ?_) (fun c => ?_)
    · replace h := mm_it h c
      clear c
      refine mm_aload_n 0 dX8_init_183 rfl rfl (pc' := 184) rfl ?_
      refine mm_bipush dX8_init_184 kb_12 (pc' := 186) rfl ?_
      refine mm_iconst dX8_init_186 ki_5 (pc' := 187) rfl ?_
      obtain ⟨t187, h187, h⟩ := mm_bd h
      refine mm_call0 (As := [.int (12 : Int32), .int (5 : Int32)]) (rest := []) cV_X8_66 (ok_X8_anew h187) ⟨rfl, rfl, Nat.le_of_ble_eq_true rfl, Nat.le_of_ble_eq_true rfl⟩ dX8_init_187 rfl rfl rfl rfl (by rintro _ _ ⟨-, rfl⟩; rfl) (Nat.le_of_ble_eq_true rfl) ⟨Nat.le_of_ble_eq_true rfl, Nat.le_of_ble_eq_true rfl⟩ (pc' := 190) rfl ?_
      rintro rv w ⟨rfl, rfl⟩
      show mm_Wp _ _ _ _ 190 [(0, .ref 0), (1, .int v1)] [] (W_X8 0 0 0 0 0 0 0 0 0 0 0 0 0 0 t187 (fun _ => 0) (fun _ => 0) (fun _ => 0) (fun _ => 0) (fun _ => 0) q_ones (fun _ => 0) (fun _ => 0) (fun _ => 0) (fun _ => 0) (fun _ => 0) (fun _ => 0) (fun _ => 0) (fun _ => 0) (fun _ => 0) (fun _ => 0) (fun _ => 0))
      clear h187
      have h9 := Option.some.inj h
      subst h9
      exact mm_vretI rfl (Nat.le_of_ble_eq_true rfl) (Nat.le_of_ble_eq_true rfl) dX8_init_190 rfl
    · replace h := mm_if h c
      clear c
      refine mm_aload_n 0 dX8_init_159 rfl rfl (pc' := 160) rfl ?_
      refine mm_getf fG_X8_29 dX8_init_160 rfl rfl (pc' := 163) rfl ?_
      refine mm_iload_n 1 dX8_init_163 rfl rfl (pc' := 164) rfl ?_
      refine mm_aload_n 0 dX8_init_164 rfl rfl (pc' := 165) rfl ?_
      refine mm_getf fG_X8_29 dX8_init_165 rfl rfl (pc' := 168) rfl ?_
      refine mm_iload_n 1 dX8_init_168 rfl rfl (pc' := 169) rfl ?_
      refine mm_iconst dX8_init_169 ki_2 (pc' := 170) rfl ?_
      refine mm_idiv dX8_init_170 (by decide) (pc' := 171) rfl ?_
      obtain ⟨x171, c171, e171, h⟩ := mm_rd_of h
      refine mm_iald dX8_init_171 rfl c171 e171 (pc' := 172) rfl ?_
      clear c171 e171
      refine mm_iload_n 1 dX8_init_172 rfl rfl (pc' := 173) rfl ?_
      refine mm_iconst dX8_init_173 ki_2 (pc' := 174) rfl ?_
      refine mm_irem dX8_init_174 (by decide) (pc' := 175) rfl ?_
      refine mm_iadd dX8_init_175 (pc' := 176) rfl ?_
      obtain ⟨c176, h⟩ := mm_ck_of h
      refine mm_iast dX8_init_176 rfl c176 rfl (ws' := (W_X8 0 0 0 0 0 0 0 0 0 0 0 0 0 0 q_st (fun _ => 0) (fun _ => 0) (fun _ => 0) (fun _ => 0) (fun _ => 0) (upd q_ones v1.toNatClampNeg (x171 + (v1 - v1 / (2 : Int32) * (2 : Int32)))) (fun _ => 0) (fun _ => 0) (fun _ => 0) (fun _ => 0) (fun _ => 0) (fun _ => 0) (fun _ => 0) (fun _ => 0) (fun _ => 0) (fun _ => 0) (fun _ => 0))) rfl (pc' := 177) rfl ?_
      clear c176
      refine mm_iinc 1 dX8_init_177 rfl ki_1 (by decide) (l' := [(1, .int (v1 + (1 : Int32))), (0, .ref 0)]) rfl (pc' := 180) rfl ?_
      refine mm_goto (tgt := 152) dX8_init_180 (by decide) ?_
      exact mm_sub [1, 0] rfl (hr152 _ _ h)
def f_X8_init (fu : Nat) : Option ((Nat → Int32) × (Nat → Int32)) := X8_init_L152 fu (fun _ => 0) fu (fun _ => 0) (1 : Int32)
set_option maxHeartbeats 4000000 in
set_option maxRecDepth 100000 in
theorem ok_X8_init {fu : Nat} {r : (Nat → Int32) × (Nat → Int32)} (h : f_X8_init fu = some r) : mm_OkI mX8_init [.inr (8, [.null, .null, .null, .null, .null, .null, .int 0, .null, .int 0, .int 0, .int 0, .int 0, .long 0, .int 0, .null, .null, .null, .null, .null, .null, .int 0, .null, .int 0, .int 0, .null, .null, .null, .int 0, .int 0, .int 0, .int 0, .null])] (fun w => w = (W_X8 0 0 0 0 0 0 0 0 0 0 0 0 0 0 r.1 (fun _ => 0) (fun _ => 0) (fun _ => 0) (fun _ => 0) (fun _ => 0) r.2 (fun _ => 0) (fun _ => 0) (fun _ => 0) (fun _ => 0) (fun _ => 0) (fun _ => 0) (fun _ => 0) (fun _ => 0) (fun _ => 0) (fun _ => 0) (fun _ => 0))) 18 14800 := by
  rw [f_X8_init] at h
  refine mm_OkI.of pn_X8 rfl (by decide) ?_
  refine mm_aload_n 0 dX8_init_0 rfl rfl (pc' := 1) rfl ?_
  refine mm_obji oC_X8_1 dX8_init_1 (Nat.le_of_ble_eq_true rfl) (Nat.le_of_ble_eq_true rfl) (pc' := 4) rfl ?_
  refine mm_aload_n 0 dX8_init_4 rfl rfl (pc' := 5) rfl ?_
  refine mm_sipush dX8_init_5 ks_354 (pc' := 8) rfl ?_
  refine mm_newI aC_I dX8_init_8 (by decide) kt_354 (by decide) (Nat.le_of_ble_eq_true rfl) (Nat.le_of_ble_eq_true rfl) mm_RI_St (k := 1) (Nat.le_of_ble_eq_true rfl) ⟨rfl, by decide, rfl, rfl, rfl⟩ (ws' := [.inr (8, [.null, .null, .null, .null, .null, .null, .int 0, .null, .int 0, .int 0, .int 0, .int 0, .long 0, .int 0, .null, .null, .null, .null, .null, .null, .int 0, .null, .int 0, .int 0, .null, .null, .null, .int 0, .int 0, .int 0, .int 0, .null]), .inl (0, 354, .inl (fun _ => 0))]) rfl (pc' := 10) rfl ?_
  refine mm_putF mm_RI_ini fF_X8_7 (by intro C T N h; cases h; rfl) dX8_init_10 rfl (Nat.le_of_ble_eq_true rfl) (fun _ => rfl) (fun _ => rfl) (ws' := [.inr (8, [.ref 1, .null, .null, .null, .null, .null, .int 0, .null, .int 0, .int 0, .int 0, .int 0, .long 0, .int 0, .null, .null, .null, .null, .null, .null, .int 0, .null, .int 0, .int 0, .null, .null, .null, .int 0, .int 0, .int 0, .int 0, .null]), .inl (0, 354, .inl (fun _ => 0))]) rfl (pc' := 13) rfl ?_
  refine mm_aload_n 0 dX8_init_13 rfl rfl (pc' := 14) rfl ?_
  refine mm_sipush dX8_init_14 ks_354 (pc' := 17) rfl ?_
  refine mm_newI aC_I dX8_init_17 (by decide) kt_354 (by decide) (Nat.le_of_ble_eq_true rfl) (Nat.le_of_ble_eq_true rfl) mm_RI_St (k := 2) (Nat.le_of_ble_eq_true rfl) ⟨rfl, by decide, rfl, rfl, rfl⟩ (ws' := [.inr (8, [.ref 1, .null, .null, .null, .null, .null, .int 0, .null, .int 0, .int 0, .int 0, .int 0, .long 0, .int 0, .null, .null, .null, .null, .null, .null, .int 0, .null, .int 0, .int 0, .null, .null, .null, .int 0, .int 0, .int 0, .int 0, .null]), .inl (0, 354, .inl (fun _ => 0)), .inl (0, 354, .inl (fun _ => 0))]) rfl (pc' := 19) rfl ?_
  refine mm_putF mm_RI_ini fF_X8_13 (by intro C T N h; cases h; rfl) dX8_init_19 rfl (Nat.le_of_ble_eq_true rfl) (fun _ => rfl) (fun _ => rfl) (ws' := [.inr (8, [.ref 1, .ref 2, .null, .null, .null, .null, .int 0, .null, .int 0, .int 0, .int 0, .int 0, .long 0, .int 0, .null, .null, .null, .null, .null, .null, .int 0, .null, .int 0, .int 0, .null, .null, .null, .int 0, .int 0, .int 0, .int 0, .null]), .inl (0, 354, .inl (fun _ => 0)), .inl (0, 354, .inl (fun _ => 0))]) rfl (pc' := 22) rfl ?_
  refine mm_aload_n 0 dX8_init_22 rfl rfl (pc' := 23) rfl ?_
  refine mm_sipush dX8_init_23 ks_708 (pc' := 26) rfl ?_
  refine mm_newI aC_I dX8_init_26 (by decide) kt_708 (by decide) (Nat.le_of_ble_eq_true rfl) (Nat.le_of_ble_eq_true rfl) mm_RI_St (k := 3) (Nat.le_of_ble_eq_true rfl) ⟨rfl, by decide, rfl, rfl, rfl⟩ (ws' := [.inr (8, [.ref 1, .ref 2, .null, .null, .null, .null, .int 0, .null, .int 0, .int 0, .int 0, .int 0, .long 0, .int 0, .null, .null, .null, .null, .null, .null, .int 0, .null, .int 0, .int 0, .null, .null, .null, .int 0, .int 0, .int 0, .int 0, .null]), .inl (0, 354, .inl (fun _ => 0)), .inl (0, 354, .inl (fun _ => 0)), .inl (0, 708, .inl (fun _ => 0))]) rfl (pc' := 28) rfl ?_
  refine mm_putF mm_RI_ini fF_X8_16 (by intro C T N h; cases h; rfl) dX8_init_28 rfl (Nat.le_of_ble_eq_true rfl) (fun _ => rfl) (fun _ => rfl) (ws' := [.inr (8, [.ref 1, .ref 2, .ref 3, .null, .null, .null, .int 0, .null, .int 0, .int 0, .int 0, .int 0, .long 0, .int 0, .null, .null, .null, .null, .null, .null, .int 0, .null, .int 0, .int 0, .null, .null, .null, .int 0, .int 0, .int 0, .int 0, .null]), .inl (0, 354, .inl (fun _ => 0)), .inl (0, 354, .inl (fun _ => 0)), .inl (0, 708, .inl (fun _ => 0))]) rfl (pc' := 31) rfl ?_
  refine mm_aload_n 0 dX8_init_31 rfl rfl (pc' := 32) rfl ?_
  refine mm_iconst dX8_init_32 ki_2 (pc' := 33) rfl ?_
  refine mm_newZ aC_Z dX8_init_33 (by decide) kt_2 (by decide) (Nat.le_of_ble_eq_true rfl) (Nat.le_of_ble_eq_true rfl) mm_RI_St (k := 4) (Nat.le_of_ble_eq_true rfl) ⟨rfl, by decide, rfl, rfl, rfl⟩ (ws' := [.inr (8, [.ref 1, .ref 2, .ref 3, .null, .null, .null, .int 0, .null, .int 0, .int 0, .int 0, .int 0, .long 0, .int 0, .null, .null, .null, .null, .null, .null, .int 0, .null, .int 0, .int 0, .null, .null, .null, .int 0, .int 0, .int 0, .int 0, .null]), .inl (0, 354, .inl (fun _ => 0)), .inl (0, 354, .inl (fun _ => 0)), .inl (0, 708, .inl (fun _ => 0)), .inl (2, 2, .inl (fun _ => 0))]) rfl (pc' := 35) rfl ?_
  refine mm_putF mm_RI_ini fF_X8_19 (by intro C T N h; cases h; rfl) dX8_init_35 rfl (Nat.le_of_ble_eq_true rfl) (fun _ => rfl) (fun _ => rfl) (ws' := [.inr (8, [.ref 1, .ref 2, .ref 3, .ref 4, .null, .null, .int 0, .null, .int 0, .int 0, .int 0, .int 0, .long 0, .int 0, .null, .null, .null, .null, .null, .null, .int 0, .null, .int 0, .int 0, .null, .null, .null, .int 0, .int 0, .int 0, .int 0, .null]), .inl (0, 354, .inl (fun _ => 0)), .inl (0, 354, .inl (fun _ => 0)), .inl (0, 708, .inl (fun _ => 0)), .inl (2, 2, .inl (fun _ => 0))]) rfl (pc' := 38) rfl ?_
  refine mm_aload_n 0 dX8_init_38 rfl rfl (pc' := 39) rfl ?_
  refine mm_iconst dX8_init_39 ki_3 (pc' := 40) rfl ?_
  refine mm_newI aC_I dX8_init_40 (by decide) kt_3 (by decide) (Nat.le_of_ble_eq_true rfl) (Nat.le_of_ble_eq_true rfl) mm_RI_St (k := 5) (Nat.le_of_ble_eq_true rfl) ⟨rfl, by decide, rfl, rfl, rfl⟩ (ws' := [.inr (8, [.ref 1, .ref 2, .ref 3, .ref 4, .null, .null, .int 0, .null, .int 0, .int 0, .int 0, .int 0, .long 0, .int 0, .null, .null, .null, .null, .null, .null, .int 0, .null, .int 0, .int 0, .null, .null, .null, .int 0, .int 0, .int 0, .int 0, .null]), .inl (0, 354, .inl (fun _ => 0)), .inl (0, 354, .inl (fun _ => 0)), .inl (0, 708, .inl (fun _ => 0)), .inl (2, 2, .inl (fun _ => 0)), .inl (0, 3, .inl (fun _ => 0))]) rfl (pc' := 42) rfl ?_
  refine mm_putF mm_RI_ini fF_X8_23 (by intro C T N h; cases h; rfl) dX8_init_42 rfl (Nat.le_of_ble_eq_true rfl) (fun _ => rfl) (fun _ => rfl) (ws' := [.inr (8, [.ref 1, .ref 2, .ref 3, .ref 4, .ref 5, .null, .int 0, .null, .int 0, .int 0, .int 0, .int 0, .long 0, .int 0, .null, .null, .null, .null, .null, .null, .int 0, .null, .int 0, .int 0, .null, .null, .null, .int 0, .int 0, .int 0, .int 0, .null]), .inl (0, 354, .inl (fun _ => 0)), .inl (0, 354, .inl (fun _ => 0)), .inl (0, 708, .inl (fun _ => 0)), .inl (2, 2, .inl (fun _ => 0)), .inl (0, 3, .inl (fun _ => 0))]) rfl (pc' := 45) rfl ?_
  refine mm_aload_n 0 dX8_init_45 rfl rfl (pc' := 46) rfl ?_
  refine mm_sipush dX8_init_46 ks_200 (pc' := 49) rfl ?_
  refine mm_newI aC_I dX8_init_49 (by decide) kt_200 (by decide) (Nat.le_of_ble_eq_true rfl) (Nat.le_of_ble_eq_true rfl) mm_RI_St (k := 6) (Nat.le_of_ble_eq_true rfl) ⟨rfl, by decide, rfl, rfl, rfl⟩ (ws' := [.inr (8, [.ref 1, .ref 2, .ref 3, .ref 4, .ref 5, .null, .int 0, .null, .int 0, .int 0, .int 0, .int 0, .long 0, .int 0, .null, .null, .null, .null, .null, .null, .int 0, .null, .int 0, .int 0, .null, .null, .null, .int 0, .int 0, .int 0, .int 0, .null]), .inl (0, 354, .inl (fun _ => 0)), .inl (0, 354, .inl (fun _ => 0)), .inl (0, 708, .inl (fun _ => 0)), .inl (2, 2, .inl (fun _ => 0)), .inl (0, 3, .inl (fun _ => 0)), .inl (0, 200, .inl (fun _ => 0))]) rfl (pc' := 51) rfl ?_
  refine mm_putF mm_RI_ini fF_X8_26 (by intro C T N h; cases h; rfl) dX8_init_51 rfl (Nat.le_of_ble_eq_true rfl) (fun _ => rfl) (fun _ => rfl) (ws' := [.inr (8, [.ref 1, .ref 2, .ref 3, .ref 4, .ref 5, .ref 6, .int 0, .null, .int 0, .int 0, .int 0, .int 0, .long 0, .int 0, .null, .null, .null, .null, .null, .null, .int 0, .null, .int 0, .int 0, .null, .null, .null, .int 0, .int 0, .int 0, .int 0, .null]), .inl (0, 354, .inl (fun _ => 0)), .inl (0, 354, .inl (fun _ => 0)), .inl (0, 708, .inl (fun _ => 0)), .inl (2, 2, .inl (fun _ => 0)), .inl (0, 3, .inl (fun _ => 0)), .inl (0, 200, .inl (fun _ => 0))]) rfl (pc' := 54) rfl ?_
  refine mm_aload_n 0 dX8_init_54 rfl rfl (pc' := 55) rfl ?_
  refine mm_sipush dX8_init_55 ks_4096 (pc' := 58) rfl ?_
  refine mm_newI aC_I dX8_init_58 (by decide) kt_4096 (by decide) (Nat.le_of_ble_eq_true rfl) (Nat.le_of_ble_eq_true rfl) mm_RI_St (k := 7) (Nat.le_of_ble_eq_true rfl) ⟨rfl, by decide, rfl, rfl, rfl⟩ (ws' := [.inr (8, [.ref 1, .ref 2, .ref 3, .ref 4, .ref 5, .ref 6, .int 0, .null, .int 0, .int 0, .int 0, .int 0, .long 0, .int 0, .null, .null, .null, .null, .null, .null, .int 0, .null, .int 0, .int 0, .null, .null, .null, .int 0, .int 0, .int 0, .int 0, .null]), .inl (0, 354, .inl (fun _ => 0)), .inl (0, 354, .inl (fun _ => 0)), .inl (0, 708, .inl (fun _ => 0)), .inl (2, 2, .inl (fun _ => 0)), .inl (0, 3, .inl (fun _ => 0)), .inl (0, 200, .inl (fun _ => 0)), .inl (0, 4096, .inl (fun _ => 0))]) rfl (pc' := 60) rfl ?_
  refine mm_putF mm_RI_ini fF_X8_29 (by intro C T N h; cases h; rfl) dX8_init_60 rfl (Nat.le_of_ble_eq_true rfl) (fun _ => rfl) (fun _ => rfl) (ws' := [.inr (8, [.ref 1, .ref 2, .ref 3, .ref 4, .ref 5, .ref 6, .int 0, .ref 7, .int 0, .int 0, .int 0, .int 0, .long 0, .int 0, .null, .null, .null, .null, .null, .null, .int 0, .null, .int 0, .int 0, .null, .null, .null, .int 0, .int 0, .int 0, .int 0, .null]), .inl (0, 354, .inl (fun _ => 0)), .inl (0, 354, .inl (fun _ => 0)), .inl (0, 708, .inl (fun _ => 0)), .inl (2, 2, .inl (fun _ => 0)), .inl (0, 3, .inl (fun _ => 0)), .inl (0, 200, .inl (fun _ => 0)), .inl (0, 4096, .inl (fun _ => 0))]) rfl (pc' := 63) rfl ?_
  refine mm_aload_n 0 dX8_init_63 rfl rfl (pc' := 64) rfl ?_
  refine mm_iconst dX8_init_64 ki_3 (pc' := 65) rfl ?_
  refine mm_newI aC_I dX8_init_65 (by decide) kt_3 (by decide) (Nat.le_of_ble_eq_true rfl) (Nat.le_of_ble_eq_true rfl) mm_RI_St (k := 8) (Nat.le_of_ble_eq_true rfl) ⟨rfl, by decide, rfl, rfl, rfl⟩ (ws' := [.inr (8, [.ref 1, .ref 2, .ref 3, .ref 4, .ref 5, .ref 6, .int 0, .ref 7, .int 0, .int 0, .int 0, .int 0, .long 0, .int 0, .null, .null, .null, .null, .null, .null, .int 0, .null, .int 0, .int 0, .null, .null, .null, .int 0, .int 0, .int 0, .int 0, .null]), .inl (0, 354, .inl (fun _ => 0)), .inl (0, 354, .inl (fun _ => 0)), .inl (0, 708, .inl (fun _ => 0)), .inl (2, 2, .inl (fun _ => 0)), .inl (0, 3, .inl (fun _ => 0)), .inl (0, 200, .inl (fun _ => 0)), .inl (0, 4096, .inl (fun _ => 0)), .inl (0, 3, .inl (fun _ => 0))]) rfl (pc' := 67) rfl ?_
  refine mm_putF mm_RI_ini fF_X8_32 (by intro C T N h; cases h; rfl) dX8_init_67 rfl (Nat.le_of_ble_eq_true rfl) (fun _ => rfl) (fun _ => rfl) (ws' := [.inr (8, [.ref 1, .ref 2, .ref 3, .ref 4, .ref 5, .ref 6, .int 0, .ref 7, .int 0, .int 0, .int 0, .int 0, .long 0, .int 0, .ref 8, .null, .null, .null, .null, .null, .int 0, .null, .int 0, .int 0, .null, .null, .null, .int 0, .int 0, .int 0, .int 0, .null]), .inl (0, 354, .inl (fun _ => 0)), .inl (0, 354, .inl (fun _ => 0)), .inl (0, 708, .inl (fun _ => 0)), .inl (2, 2, .inl (fun _ => 0)), .inl (0, 3, .inl (fun _ => 0)), .inl (0, 200, .inl (fun _ => 0)), .inl (0, 4096, .inl (fun _ => 0)), .inl (0, 3, .inl (fun _ => 0))]) rfl (pc' := 70) rfl ?_
  refine mm_aload_n 0 dX8_init_70 rfl rfl (pc' := 71) rfl ?_
  refine mm_sipush dX8_init_71 ks_4096 (pc' := 74) rfl ?_
  refine mm_newI aC_I dX8_init_74 (by decide) kt_4096 (by decide) (Nat.le_of_ble_eq_true rfl) (Nat.le_of_ble_eq_true rfl) mm_RI_St (k := 9) (Nat.le_of_ble_eq_true rfl) ⟨rfl, by decide, rfl, rfl, rfl⟩ (ws' := [.inr (8, [.ref 1, .ref 2, .ref 3, .ref 4, .ref 5, .ref 6, .int 0, .ref 7, .int 0, .int 0, .int 0, .int 0, .long 0, .int 0, .ref 8, .null, .null, .null, .null, .null, .int 0, .null, .int 0, .int 0, .null, .null, .null, .int 0, .int 0, .int 0, .int 0, .null]), .inl (0, 354, .inl (fun _ => 0)), .inl (0, 354, .inl (fun _ => 0)), .inl (0, 708, .inl (fun _ => 0)), .inl (2, 2, .inl (fun _ => 0)), .inl (0, 3, .inl (fun _ => 0)), .inl (0, 200, .inl (fun _ => 0)), .inl (0, 4096, .inl (fun _ => 0)), .inl (0, 3, .inl (fun _ => 0)), .inl (0, 4096, .inl (fun _ => 0))]) rfl (pc' := 76) rfl ?_
  refine mm_putF mm_RI_ini fF_X8_35 (by intro C T N h; cases h; rfl) dX8_init_76 rfl (Nat.le_of_ble_eq_true rfl) (fun _ => rfl) (fun _ => rfl) (ws' := [.inr (8, [.ref 1, .ref 2, .ref 3, .ref 4, .ref 5, .ref 6, .int 0, .ref 7, .int 0, .int 0, .int 0, .int 0, .long 0, .int 0, .ref 8, .ref 9, .null, .null, .null, .null, .int 0, .null, .int 0, .int 0, .null, .null, .null, .int 0, .int 0, .int 0, .int 0, .null]), .inl (0, 354, .inl (fun _ => 0)), .inl (0, 354, .inl (fun _ => 0)), .inl (0, 708, .inl (fun _ => 0)), .inl (2, 2, .inl (fun _ => 0)), .inl (0, 3, .inl (fun _ => 0)), .inl (0, 200, .inl (fun _ => 0)), .inl (0, 4096, .inl (fun _ => 0)), .inl (0, 3, .inl (fun _ => 0)), .inl (0, 4096, .inl (fun _ => 0))]) rfl (pc' := 79) rfl ?_
  refine mm_aload_n 0 dX8_init_79 rfl rfl (pc' := 80) rfl ?_
  refine mm_bipush dX8_init_80 kb_72 (pc' := 82) rfl ?_
  refine mm_newI aC_I dX8_init_82 (by decide) kt_72 (by decide) (Nat.le_of_ble_eq_true rfl) (Nat.le_of_ble_eq_true rfl) mm_RI_St (k := 10) (Nat.le_of_ble_eq_true rfl) ⟨rfl, by decide, rfl, rfl, rfl⟩ (ws' := [.inr (8, [.ref 1, .ref 2, .ref 3, .ref 4, .ref 5, .ref 6, .int 0, .ref 7, .int 0, .int 0, .int 0, .int 0, .long 0, .int 0, .ref 8, .ref 9, .null, .null, .null, .null, .int 0, .null, .int 0, .int 0, .null, .null, .null, .int 0, .int 0, .int 0, .int 0, .null]), .inl (0, 354, .inl (fun _ => 0)), .inl (0, 354, .inl (fun _ => 0)), .inl (0, 708, .inl (fun _ => 0)), .inl (2, 2, .inl (fun _ => 0)), .inl (0, 3, .inl (fun _ => 0)), .inl (0, 200, .inl (fun _ => 0)), .inl (0, 4096, .inl (fun _ => 0)), .inl (0, 3, .inl (fun _ => 0)), .inl (0, 4096, .inl (fun _ => 0)), .inl (0, 72, .inl (fun _ => 0))]) rfl (pc' := 84) rfl ?_
  refine mm_putF mm_RI_ini fF_X8_38 (by intro C T N h; cases h; rfl) dX8_init_84 rfl (Nat.le_of_ble_eq_true rfl) (fun _ => rfl) (fun _ => rfl) (ws' := [.inr (8, [.ref 1, .ref 2, .ref 3, .ref 4, .ref 5, .ref 6, .int 0, .ref 7, .int 0, .int 0, .int 0, .int 0, .long 0, .int 0, .ref 8, .ref 9, .ref 10, .null, .null, .null, .int 0, .null, .int 0, .int 0, .null, .null, .null, .int 0, .int 0, .int 0, .int 0, .null]), .inl (0, 354, .inl (fun _ => 0)), .inl (0, 354, .inl (fun _ => 0)), .inl (0, 708, .inl (fun _ => 0)), .inl (2, 2, .inl (fun _ => 0)), .inl (0, 3, .inl (fun _ => 0)), .inl (0, 200, .inl (fun _ => 0)), .inl (0, 4096, .inl (fun _ => 0)), .inl (0, 3, .inl (fun _ => 0)), .inl (0, 4096, .inl (fun _ => 0)), .inl (0, 72, .inl (fun _ => 0))]) rfl (pc' := 87) rfl ?_
  refine mm_aload_n 0 dX8_init_87 rfl rfl (pc' := 88) rfl ?_
  refine mm_bipush dX8_init_88 kb_72 (pc' := 90) rfl ?_
  refine mm_newI aC_I dX8_init_90 (by decide) kt_72 (by decide) (Nat.le_of_ble_eq_true rfl) (Nat.le_of_ble_eq_true rfl) mm_RI_St (k := 11) (Nat.le_of_ble_eq_true rfl) ⟨rfl, by decide, rfl, rfl, rfl⟩ (ws' := [.inr (8, [.ref 1, .ref 2, .ref 3, .ref 4, .ref 5, .ref 6, .int 0, .ref 7, .int 0, .int 0, .int 0, .int 0, .long 0, .int 0, .ref 8, .ref 9, .ref 10, .null, .null, .null, .int 0, .null, .int 0, .int 0, .null, .null, .null, .int 0, .int 0, .int 0, .int 0, .null]), .inl (0, 354, .inl (fun _ => 0)), .inl (0, 354, .inl (fun _ => 0)), .inl (0, 708, .inl (fun _ => 0)), .inl (2, 2, .inl (fun _ => 0)), .inl (0, 3, .inl (fun _ => 0)), .inl (0, 200, .inl (fun _ => 0)), .inl (0, 4096, .inl (fun _ => 0)), .inl (0, 3, .inl (fun _ => 0)), .inl (0, 4096, .inl (fun _ => 0)), .inl (0, 72, .inl (fun _ => 0)), .inl (0, 72, .inl (fun _ => 0))]) rfl (pc' := 92) rfl ?_
  refine mm_putF mm_RI_ini fF_X8_41 (by intro C T N h; cases h; rfl) dX8_init_92 rfl (Nat.le_of_ble_eq_true rfl) (fun _ => rfl) (fun _ => rfl) (ws' := [.inr (8, [.ref 1, .ref 2, .ref 3, .ref 4, .ref 5, .ref 6, .int 0, .ref 7, .int 0, .int 0, .int 0, .int 0, .long 0, .int 0, .ref 8, .ref 9, .ref 10, .ref 11, .null, .null, .int 0, .null, .int 0, .int 0, .null, .null, .null, .int 0, .int 0, .int 0, .int 0, .null]), .inl (0, 354, .inl (fun _ => 0)), .inl (0, 354, .inl (fun _ => 0)), .inl (0, 708, .inl (fun _ => 0)), .inl (2, 2, .inl (fun _ => 0)), .inl (0, 3, .inl (fun _ => 0)), .inl (0, 200, .inl (fun _ => 0)), .inl (0, 4096, .inl (fun _ => 0)), .inl (0, 3, .inl (fun _ => 0)), .inl (0, 4096, .inl (fun _ => 0)), .inl (0, 72, .inl (fun _ => 0)), .inl (0, 72, .inl (fun _ => 0))]) rfl (pc' := 95) rfl ?_
  refine mm_aload_n 0 dX8_init_95 rfl rfl (pc' := 96) rfl ?_
  refine mm_sipush dX8_init_96 ks_4608 (pc' := 99) rfl ?_
  refine mm_newZ aC_Z dX8_init_99 (by decide) kt_4608 (by decide) (Nat.le_of_ble_eq_true rfl) (Nat.le_of_ble_eq_true rfl) mm_RI_St (k := 12) (Nat.le_of_ble_eq_true rfl) ⟨rfl, by decide, rfl, rfl, rfl⟩ (ws' := [.inr (8, [.ref 1, .ref 2, .ref 3, .ref 4, .ref 5, .ref 6, .int 0, .ref 7, .int 0, .int 0, .int 0, .int 0, .long 0, .int 0, .ref 8, .ref 9, .ref 10, .ref 11, .null, .null, .int 0, .null, .int 0, .int 0, .null, .null, .null, .int 0, .int 0, .int 0, .int 0, .null]), .inl (0, 354, .inl (fun _ => 0)), .inl (0, 354, .inl (fun _ => 0)), .inl (0, 708, .inl (fun _ => 0)), .inl (2, 2, .inl (fun _ => 0)), .inl (0, 3, .inl (fun _ => 0)), .inl (0, 200, .inl (fun _ => 0)), .inl (0, 4096, .inl (fun _ => 0)), .inl (0, 3, .inl (fun _ => 0)), .inl (0, 4096, .inl (fun _ => 0)), .inl (0, 72, .inl (fun _ => 0)), .inl (0, 72, .inl (fun _ => 0)), .inl (2, 4608, .inl (fun _ => 0))]) rfl (pc' := 101) rfl ?_
  refine mm_putF mm_RI_ini fF_X8_44 (by intro C T N h; cases h; rfl) dX8_init_101 rfl (Nat.le_of_ble_eq_true rfl) (fun _ => rfl) (fun _ => rfl) (ws' := [.inr (8, [.ref 1, .ref 2, .ref 3, .ref 4, .ref 5, .ref 6, .int 0, .ref 7, .int 0, .int 0, .int 0, .int 0, .long 0, .int 0, .ref 8, .ref 9, .ref 10, .ref 11, .ref 12, .null, .int 0, .null, .int 0, .int 0, .null, .null, .null, .int 0, .int 0, .int 0, .int 0, .null]), .inl (0, 354, .inl (fun _ => 0)), .inl (0, 354, .inl (fun _ => 0)), .inl (0, 708, .inl (fun _ => 0)), .inl (2, 2, .inl (fun _ => 0)), .inl (0, 3, .inl (fun _ => 0)), .inl (0, 200, .inl (fun _ => 0)), .inl (0, 4096, .inl (fun _ => 0)), .inl (0, 3, .inl (fun _ => 0)), .inl (0, 4096, .inl (fun _ => 0)), .inl (0, 72, .inl (fun _ => 0)), .inl (0, 72, .inl (fun _ => 0)), .inl (2, 4608, .inl (fun _ => 0))]) rfl (pc' := 104) rfl ?_
  refine mm_aload_n 0 dX8_init_104 rfl rfl (pc' := 105) rfl ?_
  refine mm_bipush dX8_init_105 kb_64 (pc' := 107) rfl ?_
  refine mm_newZ aC_Z dX8_init_107 (by decide) kt_64 (by decide) (Nat.le_of_ble_eq_true rfl) (Nat.le_of_ble_eq_true rfl) mm_RI_St (k := 13) (Nat.le_of_ble_eq_true rfl) ⟨rfl, by decide, rfl, rfl, rfl⟩ (ws' := [.inr (8, [.ref 1, .ref 2, .ref 3, .ref 4, .ref 5, .ref 6, .int 0, .ref 7, .int 0, .int 0, .int 0, .int 0, .long 0, .int 0, .ref 8, .ref 9, .ref 10, .ref 11, .ref 12, .null, .int 0, .null, .int 0, .int 0, .null, .null, .null, .int 0, .int 0, .int 0, .int 0, .null]), .inl (0, 354, .inl (fun _ => 0)), .inl (0, 354, .inl (fun _ => 0)), .inl (0, 708, .inl (fun _ => 0)), .inl (2, 2, .inl (fun _ => 0)), .inl (0, 3, .inl (fun _ => 0)), .inl (0, 200, .inl (fun _ => 0)), .inl (0, 4096, .inl (fun _ => 0)), .inl (0, 3, .inl (fun _ => 0)), .inl (0, 4096, .inl (fun _ => 0)), .inl (0, 72, .inl (fun _ => 0)), .inl (0, 72, .inl (fun _ => 0)), .inl (2, 4608, .inl (fun _ => 0)), .inl (2, 64, .inl (fun _ => 0))]) rfl (pc' := 109) rfl ?_
  refine mm_putF mm_RI_ini fF_X8_47 (by intro C T N h; cases h; rfl) dX8_init_109 rfl (Nat.le_of_ble_eq_true rfl) (fun _ => rfl) (fun _ => rfl) (ws' := [.inr (8, [.ref 1, .ref 2, .ref 3, .ref 4, .ref 5, .ref 6, .int 0, .ref 7, .int 0, .int 0, .int 0, .int 0, .long 0, .int 0, .ref 8, .ref 9, .ref 10, .ref 11, .ref 12, .ref 13, .int 0, .null, .int 0, .int 0, .null, .null, .null, .int 0, .int 0, .int 0, .int 0, .null]), .inl (0, 354, .inl (fun _ => 0)), .inl (0, 354, .inl (fun _ => 0)), .inl (0, 708, .inl (fun _ => 0)), .inl (2, 2, .inl (fun _ => 0)), .inl (0, 3, .inl (fun _ => 0)), .inl (0, 200, .inl (fun _ => 0)), .inl (0, 4096, .inl (fun _ => 0)), .inl (0, 3, .inl (fun _ => 0)), .inl (0, 4096, .inl (fun _ => 0)), .inl (0, 72, .inl (fun _ => 0)), .inl (0, 72, .inl (fun _ => 0)), .inl (2, 4608, .inl (fun _ => 0)), .inl (2, 64, .inl (fun _ => 0))]) rfl (pc' := 112) rfl ?_
  refine mm_aload_n 0 dX8_init_112 rfl rfl (pc' := 113) rfl ?_
  refine mm_iconst dX8_init_113 ki_3 (pc' := 114) rfl ?_
  refine mm_newI aC_I dX8_init_114 (by decide) kt_3 (by decide) (Nat.le_of_ble_eq_true rfl) (Nat.le_of_ble_eq_true rfl) mm_RI_St (k := 14) (Nat.le_of_ble_eq_true rfl) ⟨rfl, by decide, rfl, rfl, rfl⟩ (ws' := [.inr (8, [.ref 1, .ref 2, .ref 3, .ref 4, .ref 5, .ref 6, .int 0, .ref 7, .int 0, .int 0, .int 0, .int 0, .long 0, .int 0, .ref 8, .ref 9, .ref 10, .ref 11, .ref 12, .ref 13, .int 0, .null, .int 0, .int 0, .null, .null, .null, .int 0, .int 0, .int 0, .int 0, .null]), .inl (0, 354, .inl (fun _ => 0)), .inl (0, 354, .inl (fun _ => 0)), .inl (0, 708, .inl (fun _ => 0)), .inl (2, 2, .inl (fun _ => 0)), .inl (0, 3, .inl (fun _ => 0)), .inl (0, 200, .inl (fun _ => 0)), .inl (0, 4096, .inl (fun _ => 0)), .inl (0, 3, .inl (fun _ => 0)), .inl (0, 4096, .inl (fun _ => 0)), .inl (0, 72, .inl (fun _ => 0)), .inl (0, 72, .inl (fun _ => 0)), .inl (2, 4608, .inl (fun _ => 0)), .inl (2, 64, .inl (fun _ => 0)), .inl (0, 3, .inl (fun _ => 0))]) rfl (pc' := 116) rfl ?_
  refine mm_putF mm_RI_ini fF_X8_50 (by intro C T N h; cases h; rfl) dX8_init_116 rfl (Nat.le_of_ble_eq_true rfl) (fun _ => rfl) (fun _ => rfl) (ws' := [.inr (8, [.ref 1, .ref 2, .ref 3, .ref 4, .ref 5, .ref 6, .int 0, .ref 7, .int 0, .int 0, .int 0, .int 0, .long 0, .int 0, .ref 8, .ref 9, .ref 10, .ref 11, .ref 12, .ref 13, .int 0, .ref 14, .int 0, .int 0, .null, .null, .null, .int 0, .int 0, .int 0, .int 0, .null]), .inl (0, 354, .inl (fun _ => 0)), .inl (0, 354, .inl (fun _ => 0)), .inl (0, 708, .inl (fun _ => 0)), .inl (2, 2, .inl (fun _ => 0)), .inl (0, 3, .inl (fun _ => 0)), .inl (0, 200, .inl (fun _ => 0)), .inl (0, 4096, .inl (fun _ => 0)), .inl (0, 3, .inl (fun _ => 0)), .inl (0, 4096, .inl (fun _ => 0)), .inl (0, 72, .inl (fun _ => 0)), .inl (0, 72, .inl (fun _ => 0)), .inl (2, 4608, .inl (fun _ => 0)), .inl (2, 64, .inl (fun _ => 0)), .inl (0, 3, .inl (fun _ => 0))]) rfl (pc' := 119) rfl ?_
  refine mm_aload_n 0 dX8_init_119 rfl rfl (pc' := 120) rfl ?_
  refine mm_iconst dX8_init_120 ki_3 (pc' := 121) rfl ?_
  refine mm_newI aC_I dX8_init_121 (by decide) kt_3 (by decide) (Nat.le_of_ble_eq_true rfl) (Nat.le_of_ble_eq_true rfl) mm_RI_St (k := 15) (Nat.le_of_ble_eq_true rfl) ⟨rfl, by decide, rfl, rfl, rfl⟩ (ws' := [.inr (8, [.ref 1, .ref 2, .ref 3, .ref 4, .ref 5, .ref 6, .int 0, .ref 7, .int 0, .int 0, .int 0, .int 0, .long 0, .int 0, .ref 8, .ref 9, .ref 10, .ref 11, .ref 12, .ref 13, .int 0, .ref 14, .int 0, .int 0, .null, .null, .null, .int 0, .int 0, .int 0, .int 0, .null]), .inl (0, 354, .inl (fun _ => 0)), .inl (0, 354, .inl (fun _ => 0)), .inl (0, 708, .inl (fun _ => 0)), .inl (2, 2, .inl (fun _ => 0)), .inl (0, 3, .inl (fun _ => 0)), .inl (0, 200, .inl (fun _ => 0)), .inl (0, 4096, .inl (fun _ => 0)), .inl (0, 3, .inl (fun _ => 0)), .inl (0, 4096, .inl (fun _ => 0)), .inl (0, 72, .inl (fun _ => 0)), .inl (0, 72, .inl (fun _ => 0)), .inl (2, 4608, .inl (fun _ => 0)), .inl (2, 64, .inl (fun _ => 0)), .inl (0, 3, .inl (fun _ => 0)), .inl (0, 3, .inl (fun _ => 0))]) rfl (pc' := 123) rfl ?_
  refine mm_putF mm_RI_ini fF_X8_53 (by intro C T N h; cases h; rfl) dX8_init_123 rfl (Nat.le_of_ble_eq_true rfl) (fun _ => rfl) (fun _ => rfl) (ws' := [.inr (8, [.ref 1, .ref 2, .ref 3, .ref 4, .ref 5, .ref 6, .int 0, .ref 7, .int 0, .int 0, .int 0, .int 0, .long 0, .int 0, .ref 8, .ref 9, .ref 10, .ref 11, .ref 12, .ref 13, .int 0, .ref 14, .int 0, .int 0, .ref 15, .null, .null, .int 0, .int 0, .int 0, .int 0, .null]), .inl (0, 354, .inl (fun _ => 0)), .inl (0, 354, .inl (fun _ => 0)), .inl (0, 708, .inl (fun _ => 0)), .inl (2, 2, .inl (fun _ => 0)), .inl (0, 3, .inl (fun _ => 0)), .inl (0, 200, .inl (fun _ => 0)), .inl (0, 4096, .inl (fun _ => 0)), .inl (0, 3, .inl (fun _ => 0)), .inl (0, 4096, .inl (fun _ => 0)), .inl (0, 72, .inl (fun _ => 0)), .inl (0, 72, .inl (fun _ => 0)), .inl (2, 4608, .inl (fun _ => 0)), .inl (2, 64, .inl (fun _ => 0)), .inl (0, 3, .inl (fun _ => 0)), .inl (0, 3, .inl (fun _ => 0))]) rfl (pc' := 126) rfl ?_
  refine mm_aload_n 0 dX8_init_126 rfl rfl (pc' := 127) rfl ?_
  refine mm_sipush dX8_init_127 ks_128 (pc' := 130) rfl ?_
  refine mm_newJ aC_J dX8_init_130 (by decide) kt_128 (by decide) (Nat.le_of_ble_eq_true rfl) (Nat.le_of_ble_eq_true rfl) mm_RI_St (k := 16) (Nat.le_of_ble_eq_true rfl) ⟨rfl, by decide, rfl, rfl, rfl⟩ (ws' := [.inr (8, [.ref 1, .ref 2, .ref 3, .ref 4, .ref 5, .ref 6, .int 0, .ref 7, .int 0, .int 0, .int 0, .int 0, .long 0, .int 0, .ref 8, .ref 9, .ref 10, .ref 11, .ref 12, .ref 13, .int 0, .ref 14, .int 0, .int 0, .ref 15, .null, .null, .int 0, .int 0, .int 0, .int 0, .null]), .inl (0, 354, .inl (fun _ => 0)), .inl (0, 354, .inl (fun _ => 0)), .inl (0, 708, .inl (fun _ => 0)), .inl (2, 2, .inl (fun _ => 0)), .inl (0, 3, .inl (fun _ => 0)), .inl (0, 200, .inl (fun _ => 0)), .inl (0, 4096, .inl (fun _ => 0)), .inl (0, 3, .inl (fun _ => 0)), .inl (0, 4096, .inl (fun _ => 0)), .inl (0, 72, .inl (fun _ => 0)), .inl (0, 72, .inl (fun _ => 0)), .inl (2, 4608, .inl (fun _ => 0)), .inl (2, 64, .inl (fun _ => 0)), .inl (0, 3, .inl (fun _ => 0)), .inl (0, 3, .inl (fun _ => 0)), .inl (1, 128, .inr (.inl (fun _ => 0)))]) rfl (pc' := 132) rfl ?_
  refine mm_putF mm_RI_ini fF_X8_56 (by intro C T N h; cases h; rfl) dX8_init_132 rfl (Nat.le_of_ble_eq_true rfl) (fun _ => rfl) (fun _ => rfl) (ws' := [.inr (8, [.ref 1, .ref 2, .ref 3, .ref 4, .ref 5, .ref 6, .int 0, .ref 7, .int 0, .int 0, .int 0, .int 0, .long 0, .int 0, .ref 8, .ref 9, .ref 10, .ref 11, .ref 12, .ref 13, .int 0, .ref 14, .int 0, .int 0, .ref 15, .ref 16, .null, .int 0, .int 0, .int 0, .int 0, .null]), .inl (0, 354, .inl (fun _ => 0)), .inl (0, 354, .inl (fun _ => 0)), .inl (0, 708, .inl (fun _ => 0)), .inl (2, 2, .inl (fun _ => 0)), .inl (0, 3, .inl (fun _ => 0)), .inl (0, 200, .inl (fun _ => 0)), .inl (0, 4096, .inl (fun _ => 0)), .inl (0, 3, .inl (fun _ => 0)), .inl (0, 4096, .inl (fun _ => 0)), .inl (0, 72, .inl (fun _ => 0)), .inl (0, 72, .inl (fun _ => 0)), .inl (2, 4608, .inl (fun _ => 0)), .inl (2, 64, .inl (fun _ => 0)), .inl (0, 3, .inl (fun _ => 0)), .inl (0, 3, .inl (fun _ => 0)), .inl (1, 128, .inr (.inl (fun _ => 0)))]) rfl (pc' := 135) rfl ?_
  refine mm_aload_n 0 dX8_init_135 rfl rfl (pc' := 136) rfl ?_
  refine mm_iconst dX8_init_136 ki_2 (pc' := 137) rfl ?_
  refine mm_newI aC_I dX8_init_137 (by decide) kt_2 (by decide) (Nat.le_of_ble_eq_true rfl) (Nat.le_of_ble_eq_true rfl) mm_RI_St (k := 17) (Nat.le_of_ble_eq_true rfl) ⟨rfl, by decide, rfl, rfl, rfl⟩ (ws' := [.inr (8, [.ref 1, .ref 2, .ref 3, .ref 4, .ref 5, .ref 6, .int 0, .ref 7, .int 0, .int 0, .int 0, .int 0, .long 0, .int 0, .ref 8, .ref 9, .ref 10, .ref 11, .ref 12, .ref 13, .int 0, .ref 14, .int 0, .int 0, .ref 15, .ref 16, .null, .int 0, .int 0, .int 0, .int 0, .null]), .inl (0, 354, .inl (fun _ => 0)), .inl (0, 354, .inl (fun _ => 0)), .inl (0, 708, .inl (fun _ => 0)), .inl (2, 2, .inl (fun _ => 0)), .inl (0, 3, .inl (fun _ => 0)), .inl (0, 200, .inl (fun _ => 0)), .inl (0, 4096, .inl (fun _ => 0)), .inl (0, 3, .inl (fun _ => 0)), .inl (0, 4096, .inl (fun _ => 0)), .inl (0, 72, .inl (fun _ => 0)), .inl (0, 72, .inl (fun _ => 0)), .inl (2, 4608, .inl (fun _ => 0)), .inl (2, 64, .inl (fun _ => 0)), .inl (0, 3, .inl (fun _ => 0)), .inl (0, 3, .inl (fun _ => 0)), .inl (1, 128, .inr (.inl (fun _ => 0))), .inl (0, 2, .inl (fun _ => 0))]) rfl (pc' := 139) rfl ?_
  refine mm_putF mm_RI_ini fF_X8_60 (by intro C T N h; cases h; rfl) dX8_init_139 rfl (Nat.le_of_ble_eq_true rfl) (fun _ => rfl) (fun _ => rfl) (ws' := [.inr (8, [.ref 1, .ref 2, .ref 3, .ref 4, .ref 5, .ref 6, .int 0, .ref 7, .int 0, .int 0, .int 0, .int 0, .long 0, .int 0, .ref 8, .ref 9, .ref 10, .ref 11, .ref 12, .ref 13, .int 0, .ref 14, .int 0, .int 0, .ref 15, .ref 16, .ref 17, .int 0, .int 0, .int 0, .int 0, .null]), .inl (0, 354, .inl (fun _ => 0)), .inl (0, 354, .inl (fun _ => 0)), .inl (0, 708, .inl (fun _ => 0)), .inl (2, 2, .inl (fun _ => 0)), .inl (0, 3, .inl (fun _ => 0)), .inl (0, 200, .inl (fun _ => 0)), .inl (0, 4096, .inl (fun _ => 0)), .inl (0, 3, .inl (fun _ => 0)), .inl (0, 4096, .inl (fun _ => 0)), .inl (0, 72, .inl (fun _ => 0)), .inl (0, 72, .inl (fun _ => 0)), .inl (2, 4608, .inl (fun _ => 0)), .inl (2, 64, .inl (fun _ => 0)), .inl (0, 3, .inl (fun _ => 0)), .inl (0, 3, .inl (fun _ => 0)), .inl (1, 128, .inr (.inl (fun _ => 0))), .inl (0, 2, .inl (fun _ => 0))]) rfl (pc' := 142) rfl ?_
  refine mm_aload_n 0 dX8_init_142 rfl rfl (pc' := 143) rfl ?_
  refine mm_bipush dX8_init_143 kb_32 (pc' := 145) rfl ?_
  refine mm_newI aC_I dX8_init_145 (by decide) kt_32 (by decide) (Nat.le_of_ble_eq_true rfl) (Nat.le_of_ble_eq_true rfl) mm_RI_St (k := 18) (Nat.le_of_ble_eq_true rfl) ⟨rfl, by decide, rfl, rfl, rfl⟩ (ws' := [.inr (8, [.ref 1, .ref 2, .ref 3, .ref 4, .ref 5, .ref 6, .int 0, .ref 7, .int 0, .int 0, .int 0, .int 0, .long 0, .int 0, .ref 8, .ref 9, .ref 10, .ref 11, .ref 12, .ref 13, .int 0, .ref 14, .int 0, .int 0, .ref 15, .ref 16, .ref 17, .int 0, .int 0, .int 0, .int 0, .null]), .inl (0, 354, .inl (fun _ => 0)), .inl (0, 354, .inl (fun _ => 0)), .inl (0, 708, .inl (fun _ => 0)), .inl (2, 2, .inl (fun _ => 0)), .inl (0, 3, .inl (fun _ => 0)), .inl (0, 200, .inl (fun _ => 0)), .inl (0, 4096, .inl (fun _ => 0)), .inl (0, 3, .inl (fun _ => 0)), .inl (0, 4096, .inl (fun _ => 0)), .inl (0, 72, .inl (fun _ => 0)), .inl (0, 72, .inl (fun _ => 0)), .inl (2, 4608, .inl (fun _ => 0)), .inl (2, 64, .inl (fun _ => 0)), .inl (0, 3, .inl (fun _ => 0)), .inl (0, 3, .inl (fun _ => 0)), .inl (1, 128, .inr (.inl (fun _ => 0))), .inl (0, 2, .inl (fun _ => 0)), .inl (0, 32, .inl (fun _ => 0))]) rfl (pc' := 147) rfl ?_
  refine mm_putF mm_RI_ini fF_X8_63 (by intro C T N h; cases h; rfl) dX8_init_147 rfl (Nat.le_of_ble_eq_true rfl) (fun _ => rfl) (fun _ => rfl) (ws' := [.inr (8, [.ref 1, .ref 2, .ref 3, .ref 4, .ref 5, .ref 6, .int 0, .ref 7, .int 0, .int 0, .int 0, .int 0, .long 0, .int 0, .ref 8, .ref 9, .ref 10, .ref 11, .ref 12, .ref 13, .int 0, .ref 14, .int 0, .int 0, .ref 15, .ref 16, .ref 17, .int 0, .int 0, .int 0, .int 0, .ref 18]), .inl (0, 354, .inl (fun _ => 0)), .inl (0, 354, .inl (fun _ => 0)), .inl (0, 708, .inl (fun _ => 0)), .inl (2, 2, .inl (fun _ => 0)), .inl (0, 3, .inl (fun _ => 0)), .inl (0, 200, .inl (fun _ => 0)), .inl (0, 4096, .inl (fun _ => 0)), .inl (0, 3, .inl (fun _ => 0)), .inl (0, 4096, .inl (fun _ => 0)), .inl (0, 72, .inl (fun _ => 0)), .inl (0, 72, .inl (fun _ => 0)), .inl (2, 4608, .inl (fun _ => 0)), .inl (2, 64, .inl (fun _ => 0)), .inl (0, 3, .inl (fun _ => 0)), .inl (0, 3, .inl (fun _ => 0)), .inl (1, 128, .inr (.inl (fun _ => 0))), .inl (0, 2, .inl (fun _ => 0)), .inl (0, 32, .inl (fun _ => 0))]) rfl (pc' := 150) rfl ?_
  show mm_Wp _ _ _ _ 150 [(0, .ref 0)] [] (W_X8 0 0 0 0 0 0 0 0 0 0 0 0 0 0 (fun _ => 0) (fun _ => 0) (fun _ => 0) (fun _ => 0) (fun _ => 0) (fun _ => 0) (fun _ => 0) (fun _ => 0) (fun _ => 0) (fun _ => 0) (fun _ => 0) (fun _ => 0) (fun _ => 0) (fun _ => 0) (fun _ => 0) (fun _ => 0) (fun _ => 0) (fun _ => 0))
  refine mm_iconst dX8_init_150 ki_1 (pc' := 151) rfl ?_
  refine mm_istore_n dX8_init_151 rfl (by decide) (l' := [(1, .int (1 : Int32)), (0, .ref 0)]) rfl (pc' := 152) rfl ?_
  exact mm_sub [1, 0] rfl (s_X8_init_L152  _ _ _ h)
