def P_J6_bitCount_0f7a4  (r : Int32) : Option Value → mm_W → Prop := fun rv w => rv = some (.int r) ∧ w = []
def f_J6_bitCount_0f7a4 (fu : Nat) (v0 : Int32) : Option (Int32) := mm_let (v0 - (((v0.toUInt32 >>> ((1 : Int32).toUInt32 &&& Int32.toUInt32 31)).toInt32) &&& (1431655765 : Int32))) fun y9 => mm_let ((y9 &&& (858993459 : Int32)) + (((y9.toUInt32 >>> ((2 : Int32).toUInt32 &&& Int32.toUInt32 31)).toInt32) &&& (858993459 : Int32))) fun y23 => mm_let ((y23 + ((y23.toUInt32 >>> ((4 : Int32).toUInt32 &&& Int32.toUInt32 31)).toInt32)) &&& (252645135 : Int32)) fun y33 => mm_let (y33 + ((y33.toUInt32 >>> ((8 : Int32).toUInt32 &&& Int32.toUInt32 31)).toInt32)) fun y40 => mm_let (y40 + ((y40.toUInt32 >>> ((16 : Int32).toUInt32 &&& Int32.toUInt32 31)).toInt32)) fun y47 => some ((y47 &&& (63 : Int32)))
set_option maxHeartbeats 4000000 in
set_option maxRecDepth 100000 in
theorem ok_J6_bitCount_0f7a4 {fu : Nat} {r : Int32} {v0 : Int32} (h : f_J6_bitCount_0f7a4 fu v0 = some r) : mm_Ok mJ6_bitCount_0f7a4 [.int v0] [] (P_J6_bitCount_0f7a4 r) := by
  rw [f_J6_bitCount_0f7a4] at h
  refine mm_Ok.of pn_J6 (l := [(0, .int v0)]) rfl (Nat.le_of_ble_eq_true rfl) ?_
  refine mm_iload_n 0 dJ6_bitCount_0f7a4_0 rfl rfl (pc' := 1) rfl ?_
  refine mm_iload_n 0 dJ6_bitCount_0f7a4_1 rfl rfl (pc' := 2) rfl ?_
  refine mm_iconst dJ6_bitCount_0f7a4_2 ki_1 (pc' := 3) rfl ?_
  refine mm_iushr dJ6_bitCount_0f7a4_3 (pc' := 4) rfl ?_
  refine mm_ldcw kC_J6_265 dJ6_bitCount_0f7a4_4 (pc' := 7) rfl ?_
  refine mm_iand dJ6_bitCount_0f7a4_7 (pc' := 8) rfl ?_
  refine mm_isub dJ6_bitCount_0f7a4_8 (pc' := 9) rfl ?_
  refine mm_topi (fun y9 e => ?_)
  replace h := mm_let_of h y9 e
  clear e
  refine mm_istore_n dJ6_bitCount_0f7a4_9 rfl (by decide) (l' := [(0, .int y9)]) rfl (pc' := 10) rfl ?_
  refine mm_iload_n 0 dJ6_bitCount_0f7a4_10 rfl rfl (pc' := 11) rfl ?_
  refine mm_ldcw kC_J6_266 dJ6_bitCount_0f7a4_11 (pc' := 14) rfl ?_
  refine mm_iand dJ6_bitCount_0f7a4_14 (pc' := 15) rfl ?_
  refine mm_iload_n 0 dJ6_bitCount_0f7a4_15 rfl rfl (pc' := 16) rfl ?_
  refine mm_iconst dJ6_bitCount_0f7a4_16 ki_2 (pc' := 17) rfl ?_
  refine mm_iushr dJ6_bitCount_0f7a4_17 (pc' := 18) rfl ?_
  refine mm_ldcw kC_J6_266 dJ6_bitCount_0f7a4_18 (pc' := 21) rfl ?_
  refine mm_iand dJ6_bitCount_0f7a4_21 (pc' := 22) rfl ?_
  refine mm_iadd dJ6_bitCount_0f7a4_22 (pc' := 23) rfl ?_
  refine mm_topi (fun y23 e => ?_)
  replace h := mm_let_of h y23 e
  clear e
  refine mm_istore_n dJ6_bitCount_0f7a4_23 rfl (by decide) (l' := [(0, .int y23)]) rfl (pc' := 24) rfl ?_
  refine mm_iload_n 0 dJ6_bitCount_0f7a4_24 rfl rfl (pc' := 25) rfl ?_
  refine mm_iload_n 0 dJ6_bitCount_0f7a4_25 rfl rfl (pc' := 26) rfl ?_
  refine mm_iconst dJ6_bitCount_0f7a4_26 ki_4 (pc' := 27) rfl ?_
  refine mm_iushr dJ6_bitCount_0f7a4_27 (pc' := 28) rfl ?_
  refine mm_iadd dJ6_bitCount_0f7a4_28 (pc' := 29) rfl ?_
  refine mm_ldcw kC_J6_267 dJ6_bitCount_0f7a4_29 (pc' := 32) rfl ?_
  refine mm_iand dJ6_bitCount_0f7a4_32 (pc' := 33) rfl ?_
  refine mm_topi (fun y33 e => ?_)
  replace h := mm_let_of h y33 e
  clear e
  refine mm_istore_n dJ6_bitCount_0f7a4_33 rfl (by decide) (l' := [(0, .int y33)]) rfl (pc' := 34) rfl ?_
  refine mm_iload_n 0 dJ6_bitCount_0f7a4_34 rfl rfl (pc' := 35) rfl ?_
  refine mm_iload_n 0 dJ6_bitCount_0f7a4_35 rfl rfl (pc' := 36) rfl ?_
  refine mm_bipush dJ6_bitCount_0f7a4_36 kb_8 (pc' := 38) rfl ?_
  refine mm_iushr dJ6_bitCount_0f7a4_38 (pc' := 39) rfl ?_
  refine mm_iadd dJ6_bitCount_0f7a4_39 (pc' := 40) rfl ?_
  refine mm_topi (fun y40 e => ?_)
  replace h := mm_let_of h y40 e
  clear e
  refine mm_istore_n dJ6_bitCount_0f7a4_40 rfl (by decide) (l' := [(0, .int y40)]) rfl (pc' := 41) rfl ?_
  refine mm_iload_n 0 dJ6_bitCount_0f7a4_41 rfl rfl (pc' := 42) rfl ?_
  refine mm_iload_n 0 dJ6_bitCount_0f7a4_42 rfl rfl (pc' := 43) rfl ?_
  refine mm_bipush dJ6_bitCount_0f7a4_43 kb_16 (pc' := 45) rfl ?_
  refine mm_iushr dJ6_bitCount_0f7a4_45 (pc' := 46) rfl ?_
  refine mm_iadd dJ6_bitCount_0f7a4_46 (pc' := 47) rfl ?_
  refine mm_topi (fun y47 e => ?_)
  replace h := mm_let_of h y47 e
  clear e
  refine mm_istore_n dJ6_bitCount_0f7a4_47 rfl (by decide) (l' := [(0, .int y47)]) rfl (pc' := 48) rfl ?_
  refine mm_iload_n 0 dJ6_bitCount_0f7a4_48 rfl rfl (pc' := 49) rfl ?_
  refine mm_bipush dJ6_bitCount_0f7a4_49 kb_63 (pc' := 51) rfl ?_
  refine mm_iand dJ6_bitCount_0f7a4_51 (pc' := 52) rfl ?_
  cases h
  exact mm_iret rfl dJ6_bitCount_0f7a4_52 ⟨rfl, rfl⟩

def P_X5_readAs (q_wide : Int32) (q_high : Int32) (q_slackNow : Int32) (q_tenants : Int32) (q_letters : Int32) (q_readings : Int32) (q_kinds : Nat → Int32) (q_painOf : Nat → Int32) (q_payFor : Nat → Int32) (q_refused : Nat → Int32) (q_owned : Nat → Int64) (q_litIn : Nat → Int64) (q_shapes : Nat → Int32) (q_readAt : Nat → Int32) (q_meant : Nat → Int32) (q_readSo : Nat → Int32) (r : Int32) : Option Value → mm_W → Prop := fun rv w => rv = some (.int r) ∧ w = (W_X5 q_wide q_high q_slackNow q_tenants q_letters q_readings q_kinds q_painOf q_payFor q_refused q_owned q_litIn q_shapes q_readAt q_meant q_readSo)
def X5_readAs_J58 (fu : Nat) (rec12 : Int32 → Int32 → Int32 → Option (Int32)) (q_slackNow : Int32) (q_letters : Int32) (q_shapes : Nat → Int32) (v1 : Int32) (v2 : Int32) (v3 : Int32) (v4 : Int32)  : Option (Int32) := rec12 v2 v3 (v4 + (1 : Int32))
set_option maxHeartbeats 4000000 in
set_option maxRecDepth 100000 in
theorem s_X5_readAs_J58 {fu : Nat} {q_wide : Int32} {q_high : Int32} {q_slackNow : Int32} {q_tenants : Int32} {q_letters : Int32} {q_readings : Int32} {q_kinds : Nat → Int32} {q_painOf : Nat → Int32} {q_payFor : Nat → Int32} {q_refused : Nat → Int32} {q_owned : Nat → Int64} {q_litIn : Nat → Int64} {q_shapes : Nat → Int32} {q_readAt : Nat → Int32} {q_meant : Nat → Int32} {q_readSo : Nat → Int32} {r : Int32} {rec12 : Int32 → Int32 → Int32 → Option (Int32)} {v1 : Int32} {v2 : Int32} {v3 : Int32} {v4 : Int32} (hr12 : ∀ (y2 : Int32) (y3 : Int32) (y4 : Int32), rec12 y2 y3 y4 = some r → mm_Wp mX5_readAs (mm_R (P_X5_readAs q_wide q_high q_slackNow q_tenants q_letters q_readings q_kinds q_painOf q_payFor q_refused q_owned q_litIn q_shapes q_readAt q_meant q_readSo r)) 0 0 12 [(0, .ref 0), (1, .int v1), (2, .int y2), (3, .int y3), (4, .int y4)] [] (W_X5 q_wide q_high q_slackNow q_tenants q_letters q_readings q_kinds q_painOf q_payFor q_refused q_owned q_litIn q_shapes q_readAt q_meant q_readSo)) (h : X5_readAs_J58 fu rec12 q_slackNow q_letters q_shapes v1 v2 v3 v4 = some r) : mm_Wp mX5_readAs (mm_R (P_X5_readAs q_wide q_high q_slackNow q_tenants q_letters q_readings q_kinds q_painOf q_payFor q_refused q_owned q_litIn q_shapes q_readAt q_meant q_readSo r)) 0 0 58 [(0, .ref 0), (1, .int v1), (2, .int v2), (3, .int v3), (4, .int v4)] [] (W_X5 q_wide q_high q_slackNow q_tenants q_letters q_readings q_kinds q_painOf q_payFor q_refused q_owned q_litIn q_shapes q_readAt q_meant q_readSo) := by
  rw [X5_readAs_J58] at h
  refine mm_iinc 4 dX5_readAs_58 rfl ki_1 (by decide) (l' := [(4, .int (v4 + (1 : Int32))), (0, .ref 0), (1, .int v1), (2, .int v2), (3, .int v3)]) rfl (pc' := 61) rfl ?_
  refine mm_goto (tgt := 12) dX5_readAs_61 (by decide) ?_
  exact mm_sub [1, 2, 3, 4, 0] rfl (hr12 _ _ _ h)
def X5_readAs_L12 (fu : Nat)  (q_slackNow : Int32) (q_letters : Int32) (q_shapes : Nat → Int32) (v1 : Int32) : Nat → Int32 → Int32 → Int32 → Option (Int32)
  | 0, _, _, _ => none
  | n + 1, v2, v3, v4 => if q_letters ≤ v4 then (some (v3)) else (mm_rd q_shapes 6 v4 fun x28 => (f_J6_bitCount_0f7a4 fu (v1 ^^^ x28)).bind fun t30 => if v2 ≤ t30 then (if t30 = v2 then (X5_readAs_J58 fu (X5_readAs_L12 fu q_slackNow q_letters q_shapes v1 n) q_slackNow q_letters q_shapes v1 v2 (-1 : Int32) v4) else (X5_readAs_J58 fu (X5_readAs_L12 fu q_slackNow q_letters q_shapes v1 n) q_slackNow q_letters q_shapes v1 v2 v3 v4)) else (X5_readAs_J58 fu (X5_readAs_L12 fu q_slackNow q_letters q_shapes v1 n) q_slackNow q_letters q_shapes v1 t30 v4 v4))
set_option maxHeartbeats 4000000 in
set_option maxRecDepth 100000 in
theorem s_X5_readAs_L12 {fu : Nat} {q_wide : Int32} {q_high : Int32} {q_slackNow : Int32} {q_tenants : Int32} {q_letters : Int32} {q_readings : Int32} {q_kinds : Nat → Int32} {q_painOf : Nat → Int32} {q_payFor : Nat → Int32} {q_refused : Nat → Int32} {q_owned : Nat → Int64} {q_litIn : Nat → Int64} {q_shapes : Nat → Int32} {q_readAt : Nat → Int32} {q_meant : Nat → Int32} {q_readSo : Nat → Int32} {r : Int32} {v1 : Int32} : ∀ (n : Nat) (v2 : Int32) (v3 : Int32) (v4 : Int32), X5_readAs_L12 fu q_slackNow q_letters q_shapes v1 n v2 v3 v4 = some r → mm_Wp mX5_readAs (mm_R (P_X5_readAs q_wide q_high q_slackNow q_tenants q_letters q_readings q_kinds q_painOf q_payFor q_refused q_owned q_litIn q_shapes q_readAt q_meant q_readSo r)) 0 0 12 [(0, .ref 0), (1, .int v1), (2, .int v2), (3, .int v3), (4, .int v4)] [] (W_X5 q_wide q_high q_slackNow q_tenants q_letters q_readings q_kinds q_painOf q_payFor q_refused q_owned q_litIn q_shapes q_readAt q_meant q_readSo) := by
  intro n
  induction n with
  | zero =>
    intro v2 v3 v4 h
    rw [X5_readAs_L12] at h
    cases h
  | succ n hr12 =>
    intro v2 v3 v4 h
    rw [X5_readAs_L12] at h
    refine mm_iload 4 dX5_readAs_12 rfl (pc' := 14) rfl ?_
    refine mm_aload_n 0 dX5_readAs_14 rfl rfl (pc' := 15) rfl ?_
    refine mm_getf fG_X5_24 dX5_readAs_15 rfl rfl (pc' := 18) rfl ?_
    refine mm_icmp_ge (tgt := 64) dX5_readAs_18 (by decide) (pc' := 21) rfl (fun c => ?_) (fun c => ?_)
    · replace h := mm_it h c
      clear c
      refine mm_iload_n 3 dX5_readAs_64 rfl rfl (pc' := 65) rfl ?_
      cases h
      exact mm_iret rfl dX5_readAs_65 ⟨rfl, rfl⟩
    · replace h := mm_if h c
      clear c
      refine mm_iload_n 1 dX5_readAs_21 rfl rfl (pc' := 22) rfl ?_
      refine mm_aload_n 0 dX5_readAs_22 rfl rfl (pc' := 23) rfl ?_
      refine mm_getf fG_X5_50 dX5_readAs_23 rfl rfl (pc' := 26) rfl ?_
      refine mm_iload 4 dX5_readAs_26 rfl (pc' := 28) rfl ?_
      obtain ⟨x28, c28, e28, h⟩ := mm_rd_of h
      refine mm_iald dX5_readAs_28 rfl c28 e28 (pc' := 29) rfl ?_
      clear c28 e28
      refine mm_ixor dX5_readAs_29 (pc' := 30) rfl ?_
      obtain ⟨t30, h30, h⟩ := mm_bd h
      refine mm_callS (As := [.int (v1 ^^^ x28)]) (rest := []) (av := [.int (v1 ^^^ x28)]) (wc := []) (is := []) cS_X5_107 (ok_J6_bitCount_0f7a4 h30) ⟨rfl, rfl, Nat.le_of_ble_eq_true rfl, Nat.le_of_ble_eq_true rfl⟩ dX5_readAs_30 rfl rfl rfl ⟨rfl, by decide, by decide⟩ (by rintro _ _ ⟨-, rfl⟩; rfl) (by decide) ⟨Nat.zero_le _, Nat.zero_le _⟩ (pc' := 33) rfl ?_
      rintro rv w ⟨rfl, rfl⟩
      show mm_Wp _ _ _ _ 33 [(0, .ref 0), (1, .int v1), (2, .int v2), (3, .int v3), (4, .int v4)] [.int t30] (W_X5 q_wide q_high q_slackNow q_tenants q_letters q_readings q_kinds q_painOf q_payFor q_refused q_owned q_litIn q_shapes q_readAt q_meant q_readSo)
      clear h30
      refine mm_istore dX5_readAs_33 (by decide) (l' := [(5, .int t30), (0, .ref 0), (1, .int v1), (2, .int v2), (3, .int v3), (4, .int v4)]) rfl (pc' := 35) rfl ?_
      refine mm_iload 0 dX5_readAs_35 rfl (pc' := 37) rfl ?_
      refine mm_iload_n 3 dX5_readAs_37 rfl rfl (pc' := 38) rfl ?_
      refine mm_icmp_ge (tgt := 50) dX5_readAs_38 (by decide) (pc' := 41) rfl (fun c => ?_) (fun c => ?_)
      · replace h := mm_it h c
        clear c
        refine mm_iload 0 dX5_readAs_50 rfl (pc' := 52) rfl ?_
        refine mm_iload_n 3 dX5_readAs_52 rfl rfl (pc' := 53) rfl ?_
        refine mm_icmp_ne (tgt := 58) dX5_readAs_53 (by decide) (pc' := 56) rfl (fun c => ?_) (fun c => ?_)
        · replace h := mm_if h c
          clear c
          exact mm_sub [1, 2, 3, 4, 5] rfl (s_X5_readAs_J58 (hr12 := hr12) h)
        · replace h := mm_it h c
          clear c
          refine mm_iconst dX5_readAs_56 ki_m1 (pc' := 57) rfl ?_
          refine mm_istore_n dX5_readAs_57 rfl (by decide) (l' := [(3, .int (-1 : Int32)), (5, .int t30), (0, .ref 0), (1, .int v1), (2, .int v2), (4, .int v4)]) rfl (pc' := 58) rfl ?_
          exact mm_sub [2, 3, 4, 0, 5] rfl (s_X5_readAs_J58 (hr12 := hr12) h)
      · replace h := mm_if h c
        clear c
        refine mm_iload 0 dX5_readAs_41 rfl (pc' := 43) rfl ?_
        refine mm_istore_n dX5_readAs_43 rfl (by decide) (l' := [(2, .int t30), (5, .int t30), (0, .ref 0), (1, .int v1), (3, .int v3), (4, .int v4)]) rfl (pc' := 44) rfl ?_
        refine mm_iload 5 dX5_readAs_44 rfl (pc' := 46) rfl ?_
        refine mm_istore_n dX5_readAs_46 rfl (by decide) (l' := [(3, .int v4), (2, .int t30), (5, .int t30), (0, .ref 0), (1, .int v1), (4, .int v4)]) rfl (pc' := 47) rfl ?_
        refine mm_goto (tgt := 58) dX5_readAs_47 (by decide) ?_
        exact mm_sub [3, 4, 1, 0, 5] rfl (s_X5_readAs_J58 (hr12 := hr12) h)
def f_X5_readAs (fu : Nat) (q_slackNow : Int32) (q_letters : Int32) (q_shapes : Nat → Int32) (v1 : Int32) : Option (Int32) := X5_readAs_L12 fu q_slackNow q_letters q_shapes v1 fu (q_slackNow + (1 : Int32)) (-1 : Int32) (0 : Int32)
set_option maxHeartbeats 4000000 in
set_option maxRecDepth 100000 in
theorem ok_X5_readAs {fu : Nat} {q_wide : Int32} {q_high : Int32} {q_slackNow : Int32} {q_tenants : Int32} {q_letters : Int32} {q_readings : Int32} {q_kinds : Nat → Int32} {q_painOf : Nat → Int32} {q_payFor : Nat → Int32} {q_refused : Nat → Int32} {q_owned : Nat → Int64} {q_litIn : Nat → Int64} {q_shapes : Nat → Int32} {q_readAt : Nat → Int32} {q_meant : Nat → Int32} {q_readSo : Nat → Int32} {r : Int32} {v1 : Int32} (h : f_X5_readAs fu q_slackNow q_letters q_shapes v1 = some r) : mm_Ok mX5_readAs [.ref 0, .int v1] (W_X5 q_wide q_high q_slackNow q_tenants q_letters q_readings q_kinds q_painOf q_payFor q_refused q_owned q_litIn q_shapes q_readAt q_meant q_readSo) (P_X5_readAs q_wide q_high q_slackNow q_tenants q_letters q_readings q_kinds q_painOf q_payFor q_refused q_owned q_litIn q_shapes q_readAt q_meant q_readSo r) := by
  rw [f_X5_readAs] at h
  refine mm_Ok.of pn_X5 (l := [(0, .ref 0), (1, .int v1)]) rfl (Nat.le_of_ble_eq_true rfl) ?_
  refine mm_aload_n 0 dX5_readAs_0 rfl rfl (pc' := 1) rfl ?_
  refine mm_getf fG_X5_18 dX5_readAs_1 rfl rfl (pc' := 4) rfl ?_
  refine mm_iconst dX5_readAs_4 ki_1 (pc' := 5) rfl ?_
  refine mm_iadd dX5_readAs_5 (pc' := 6) rfl ?_
  refine mm_istore_n dX5_readAs_6 rfl (by decide) (l' := [(2, .int (q_slackNow + (1 : Int32))), (0, .ref 0), (1, .int v1)]) rfl (pc' := 7) rfl ?_
  refine mm_iconst dX5_readAs_7 ki_m1 (pc' := 8) rfl ?_
  refine mm_istore_n dX5_readAs_8 rfl (by decide) (l' := [(3, .int (-1 : Int32)), (2, .int (q_slackNow + (1 : Int32))), (0, .ref 0), (1, .int v1)]) rfl (pc' := 9) rfl ?_
  refine mm_iconst dX5_readAs_9 ki_0 (pc' := 10) rfl ?_
  refine mm_istore dX5_readAs_10 (by decide) (l' := [(4, .int (0 : Int32)), (3, .int (-1 : Int32)), (2, .int (q_slackNow + (1 : Int32))), (0, .ref 0), (1, .int v1)]) rfl (pc' := 12) rfl ?_
  exact mm_sub [3, 4, 2, 1, 0] rfl (s_X5_readAs_L12  _ _ _ _ h)

def P_X5_isWindowAt (q_wide : Int32) (q_high : Int32) (q_slackNow : Int32) (q_tenants : Int32) (q_letters : Int32) (q_readings : Int32) (q_kinds : Nat → Int32) (q_painOf : Nat → Int32) (q_payFor : Nat → Int32) (q_refused : Nat → Int32) (q_owned : Nat → Int64) (q_litIn : Nat → Int64) (q_shapes : Nat → Int32) (q_readAt : Nat → Int32) (q_meant : Nat → Int32) (q_readSo : Nat → Int32) (r : Int32) : Option Value → mm_W → Prop := fun rv w => rv = some (.int r) ∧ w = (W_X5 q_wide q_high q_slackNow q_tenants q_letters q_readings q_kinds q_painOf q_payFor q_refused q_owned q_litIn q_shapes q_readAt q_meant q_readSo)
def X5_isWindowAt_J28 (fu : Nat)  (q_wide : Int32) (q_high : Int32)   : Option (Int32) := some ((0 : Int32))
set_option maxHeartbeats 4000000 in
set_option maxRecDepth 100000 in
theorem s_X5_isWindowAt_J28 {fu : Nat} {q_wide : Int32} {q_high : Int32} {q_slackNow : Int32} {q_tenants : Int32} {q_letters : Int32} {q_readings : Int32} {q_kinds : Nat → Int32} {q_painOf : Nat → Int32} {q_payFor : Nat → Int32} {q_refused : Nat → Int32} {q_owned : Nat → Int64} {q_litIn : Nat → Int64} {q_shapes : Nat → Int32} {q_readAt : Nat → Int32} {q_meant : Nat → Int32} {q_readSo : Nat → Int32} {r : Int32} (h : X5_isWindowAt_J28 fu q_wide q_high = some r) : mm_Wp mX5_isWindowAt (mm_R (P_X5_isWindowAt q_wide q_high q_slackNow q_tenants q_letters q_readings q_kinds q_painOf q_payFor q_refused q_owned q_litIn q_shapes q_readAt q_meant q_readSo r)) 0 0 28 [] [] (W_X5 q_wide q_high q_slackNow q_tenants q_letters q_readings q_kinds q_painOf q_payFor q_refused q_owned q_litIn q_shapes q_readAt q_meant q_readSo) := by
  rw [X5_isWindowAt_J28] at h
  refine mm_iconst dX5_isWindowAt_28 ki_0 (pc' := 29) rfl ?_
  cases h
  exact mm_zret rfl (by decide) dX5_isWindowAt_29 ⟨rfl, rfl⟩
def f_X5_isWindowAt (fu : Nat) (q_wide : Int32) (q_high : Int32) (v1 : Int32) (v2 : Int32) : Option (Int32) := if v1 < 0 then (X5_isWindowAt_J28 fu q_wide q_high) else (if q_wide ≤ v1 then (X5_isWindowAt_J28 fu q_wide q_high) else (if v2 < 0 then (X5_isWindowAt_J28 fu q_wide q_high) else (if q_high ≤ v2 then (X5_isWindowAt_J28 fu q_wide q_high) else (some ((1 : Int32))))))
set_option maxHeartbeats 4000000 in
set_option maxRecDepth 100000 in
theorem ok_X5_isWindowAt {fu : Nat} {q_wide : Int32} {q_high : Int32} {q_slackNow : Int32} {q_tenants : Int32} {q_letters : Int32} {q_readings : Int32} {q_kinds : Nat → Int32} {q_painOf : Nat → Int32} {q_payFor : Nat → Int32} {q_refused : Nat → Int32} {q_owned : Nat → Int64} {q_litIn : Nat → Int64} {q_shapes : Nat → Int32} {q_readAt : Nat → Int32} {q_meant : Nat → Int32} {q_readSo : Nat → Int32} {r : Int32} {v1 : Int32} {v2 : Int32} (h : f_X5_isWindowAt fu q_wide q_high v1 v2 = some r) : mm_Ok mX5_isWindowAt [.ref 0, .int v1, .int v2] (W_X5 q_wide q_high q_slackNow q_tenants q_letters q_readings q_kinds q_painOf q_payFor q_refused q_owned q_litIn q_shapes q_readAt q_meant q_readSo) (P_X5_isWindowAt q_wide q_high q_slackNow q_tenants q_letters q_readings q_kinds q_painOf q_payFor q_refused q_owned q_litIn q_shapes q_readAt q_meant q_readSo r) := by
  rw [f_X5_isWindowAt] at h
  refine mm_Ok.of pn_X5 (l := [(0, .ref 0), (1, .int v1), (2, .int v2)]) rfl (Nat.le_of_ble_eq_true rfl) ?_
  refine mm_iload_n 1 dX5_isWindowAt_0 rfl rfl (pc' := 1) rfl ?_
  refine mm_if_lt (tgt := 28) dX5_isWindowAt_1 (by decide) (pc' := 4) rfl (fun c => ?_) (fun c => ?_)
  · replace h := mm_it h c
    clear c
    exact mm_sub [] rfl (s_X5_isWindowAt_J28  h)
  · replace h := mm_if h c
    clear c
    refine mm_iload_n 1 dX5_isWindowAt_4 rfl rfl (pc' := 5) rfl ?_
    refine mm_aload_n 0 dX5_isWindowAt_5 rfl rfl (pc' := 6) rfl ?_
    refine mm_getf fG_X5_9 dX5_isWindowAt_6 rfl rfl (pc' := 9) rfl ?_
    refine mm_icmp_ge (tgt := 28) dX5_isWindowAt_9 (by decide) (pc' := 12) rfl (fun c => ?_) (fun c => ?_)
    · replace h := mm_it h c
      clear c
      exact mm_sub [] rfl (s_X5_isWindowAt_J28  h)
    · replace h := mm_if h c
      clear c
      refine mm_iload_n 2 dX5_isWindowAt_12 rfl rfl (pc' := 13) rfl ?_
      refine mm_if_lt (tgt := 28) dX5_isWindowAt_13 (by decide) (pc' := 16) rfl (fun c => ?_) (fun c => ?_)
      · replace h := mm_it h c
        clear c
        exact mm_sub [] rfl (s_X5_isWindowAt_J28  h)
      · replace h := mm_if h c
        clear c
        refine mm_iload_n 2 dX5_isWindowAt_16 rfl rfl (pc' := 17) rfl ?_
        refine mm_aload_n 0 dX5_isWindowAt_17 rfl rfl (pc' := 18) rfl ?_
        refine mm_getf fG_X5_15 dX5_isWindowAt_18 rfl rfl (pc' := 21) rfl ?_
        refine mm_icmp_ge (tgt := 28) dX5_isWindowAt_21 (by decide) (pc' := 24) rfl (fun c => ?_) (fun c => ?_)
        · replace h := mm_it h c
          clear c
          exact mm_sub [] rfl (s_X5_isWindowAt_J28  h)
        · replace h := mm_if h c
          clear c
          refine mm_iconst dX5_isWindowAt_24 ki_1 (pc' := 25) rfl ?_
          refine mm_goto (tgt := 29) dX5_isWindowAt_25 (by decide) ?_
          cases h
          exact mm_zret rfl (by decide) dX5_isWindowAt_29 ⟨rfl, rfl⟩

def P_X5_isWindow (q_wide : Int32) (q_high : Int32) (q_slackNow : Int32) (q_tenants : Int32) (q_letters : Int32) (q_readings : Int32) (q_kinds : Nat → Int32) (q_painOf : Nat → Int32) (q_payFor : Nat → Int32) (q_refused : Nat → Int32) (q_owned : Nat → Int64) (q_litIn : Nat → Int64) (q_shapes : Nat → Int32) (q_readAt : Nat → Int32) (q_meant : Nat → Int32) (q_readSo : Nat → Int32) (r : Int32) : Option Value → mm_W → Prop := fun rv w => rv = some (.int r) ∧ w = (W_X5 q_wide q_high q_slackNow q_tenants q_letters q_readings q_kinds q_painOf q_payFor q_refused q_owned q_litIn q_shapes q_readAt q_meant q_readSo)
def X5_isWindow_J29 (fu : Nat)  (q_wide : Int32) (q_high : Int32)   : Option (Int32) := some ((0 : Int32))
set_option maxHeartbeats 4000000 in
set_option maxRecDepth 100000 in
theorem s_X5_isWindow_J29 {fu : Nat} {q_wide : Int32} {q_high : Int32} {q_slackNow : Int32} {q_tenants : Int32} {q_letters : Int32} {q_readings : Int32} {q_kinds : Nat → Int32} {q_painOf : Nat → Int32} {q_payFor : Nat → Int32} {q_refused : Nat → Int32} {q_owned : Nat → Int64} {q_litIn : Nat → Int64} {q_shapes : Nat → Int32} {q_readAt : Nat → Int32} {q_meant : Nat → Int32} {q_readSo : Nat → Int32} {r : Int32} (h : X5_isWindow_J29 fu q_wide q_high = some r) : mm_Wp mX5_isWindow (mm_R (P_X5_isWindow q_wide q_high q_slackNow q_tenants q_letters q_readings q_kinds q_painOf q_payFor q_refused q_owned q_litIn q_shapes q_readAt q_meant q_readSo r)) 0 0 29 [] [] (W_X5 q_wide q_high q_slackNow q_tenants q_letters q_readings q_kinds q_painOf q_payFor q_refused q_owned q_litIn q_shapes q_readAt q_meant q_readSo) := by
  rw [X5_isWindow_J29] at h
  refine mm_iconst dX5_isWindow_29 ki_0 (pc' := 30) rfl ?_
  cases h
  exact mm_zret rfl (by decide) dX5_isWindow_30 ⟨rfl, rfl⟩
def f_X5_isWindow (fu : Nat) (q_wide : Int32) (q_high : Int32) (v1 : Int32) : Option (Int32) := if v1 < 0 then (X5_isWindow_J29 fu q_wide q_high) else (if (60 : Int32) ≤ v1 then (X5_isWindow_J29 fu q_wide q_high) else ((f_X5_isWindowAt fu q_wide q_high (v1 - v1 / (12 : Int32) * (12 : Int32)) (v1 / (12 : Int32))).bind fun t19 => if t19 = 0 then (X5_isWindow_J29 fu q_wide q_high) else (some ((1 : Int32)))))
set_option maxHeartbeats 4000000 in
set_option maxRecDepth 100000 in
theorem ok_X5_isWindow {fu : Nat} {q_wide : Int32} {q_high : Int32} {q_slackNow : Int32} {q_tenants : Int32} {q_letters : Int32} {q_readings : Int32} {q_kinds : Nat → Int32} {q_painOf : Nat → Int32} {q_payFor : Nat → Int32} {q_refused : Nat → Int32} {q_owned : Nat → Int64} {q_litIn : Nat → Int64} {q_shapes : Nat → Int32} {q_readAt : Nat → Int32} {q_meant : Nat → Int32} {q_readSo : Nat → Int32} {r : Int32} {v1 : Int32} (h : f_X5_isWindow fu q_wide q_high v1 = some r) : mm_Ok mX5_isWindow [.ref 0, .int v1] (W_X5 q_wide q_high q_slackNow q_tenants q_letters q_readings q_kinds q_painOf q_payFor q_refused q_owned q_litIn q_shapes q_readAt q_meant q_readSo) (P_X5_isWindow q_wide q_high q_slackNow q_tenants q_letters q_readings q_kinds q_painOf q_payFor q_refused q_owned q_litIn q_shapes q_readAt q_meant q_readSo r) := by
  rw [f_X5_isWindow] at h
  refine mm_Ok.of pn_X5 (l := [(0, .ref 0), (1, .int v1)]) rfl (Nat.le_of_ble_eq_true rfl) ?_
  refine mm_iload_n 1 dX5_isWindow_0 rfl rfl (pc' := 1) rfl ?_
  refine mm_if_lt (tgt := 29) dX5_isWindow_1 (by decide) (pc' := 4) rfl (fun c => ?_) (fun c => ?_)
  · replace h := mm_it h c
    clear c
    exact mm_sub [] rfl (s_X5_isWindow_J29  h)
  · replace h := mm_if h c
    clear c
    refine mm_iload_n 1 dX5_isWindow_4 rfl rfl (pc' := 5) rfl ?_
    refine mm_bipush dX5_isWindow_5 kb_60 (pc' := 7) rfl ?_
    refine mm_icmp_ge (tgt := 29) dX5_isWindow_7 (by decide) (pc' := 10) rfl (fun c => ?_) (fun c => ?_)
    · replace h := mm_it h c
      clear c
      exact mm_sub [] rfl (s_X5_isWindow_J29  h)
    · replace h := mm_if h c
      clear c
      refine mm_aload_n 0 dX5_isWindow_10 rfl rfl (pc' := 11) rfl ?_
      refine mm_iload_n 1 dX5_isWindow_11 rfl rfl (pc' := 12) rfl ?_
      refine mm_bipush dX5_isWindow_12 kb_12 (pc' := 14) rfl ?_
      refine mm_irem dX5_isWindow_14 (by decide) (pc' := 15) rfl ?_
      refine mm_iload_n 1 dX5_isWindow_15 rfl rfl (pc' := 16) rfl ?_
      refine mm_bipush dX5_isWindow_16 kb_12 (pc' := 18) rfl ?_
      refine mm_idiv dX5_isWindow_18 (by decide) (pc' := 19) rfl ?_
      obtain ⟨t19, h19, h⟩ := mm_bd h
      refine mm_call0 (As := [.int (v1 - v1 / (12 : Int32) * (12 : Int32)), .int (v1 / (12 : Int32))]) (rest := []) cV_X5_68 (ok_X5_isWindowAt h19) ⟨rfl, rfl, Nat.le_of_ble_eq_true rfl, Nat.le_of_ble_eq_true rfl⟩ dX5_isWindow_19 rfl rfl rfl rfl (by rintro _ _ ⟨-, rfl⟩; rfl) (by decide) ⟨Nat.zero_le _, Nat.zero_le _⟩ (pc' := 22) rfl ?_
      rintro rv w ⟨rfl, rfl⟩
      show mm_Wp _ _ _ _ 22 [(0, .ref 0), (1, .int v1)] [.int t19] (W_X5 q_wide q_high q_slackNow q_tenants q_letters q_readings q_kinds q_painOf q_payFor q_refused q_owned q_litIn q_shapes q_readAt q_meant q_readSo)
      clear h19
      refine mm_if_eq (tgt := 29) dX5_isWindow_22 (by decide) (pc' := 25) rfl (fun c => ?_) (fun c => ?_)
      · replace h := mm_it h c
        clear c
        exact mm_sub [] rfl (s_X5_isWindow_J29  h)
      · replace h := mm_if h c
        clear c
        refine mm_iconst dX5_isWindow_25 ki_1 (pc' := 26) rfl ?_
        refine mm_goto (tgt := 30) dX5_isWindow_26 (by decide) ?_
        cases h
        exact mm_zret rfl (by decide) dX5_isWindow_30 ⟨rfl, rfl⟩

def P_X5_isTop (q_wide : Int32) (q_high : Int32) (q_slackNow : Int32) (q_tenants : Int32) (q_letters : Int32) (q_readings : Int32) (q_kinds : Nat → Int32) (q_painOf : Nat → Int32) (q_payFor : Nat → Int32) (q_refused : Nat → Int32) (q_owned : Nat → Int64) (q_litIn : Nat → Int64) (q_shapes : Nat → Int32) (q_readAt : Nat → Int32) (q_meant : Nat → Int32) (q_readSo : Nat → Int32) (r : Int32) : Option Value → mm_W → Prop := fun rv w => rv = some (.int r) ∧ w = (W_X5 q_wide q_high q_slackNow q_tenants q_letters q_readings q_kinds q_painOf q_payFor q_refused q_owned q_litIn q_shapes q_readAt q_meant q_readSo)
def X5_isTop_J18 (fu : Nat)  (q_high : Int32)   : Option (Int32) := some ((0 : Int32))
set_option maxHeartbeats 4000000 in
set_option maxRecDepth 100000 in
theorem s_X5_isTop_J18 {fu : Nat} {q_wide : Int32} {q_high : Int32} {q_slackNow : Int32} {q_tenants : Int32} {q_letters : Int32} {q_readings : Int32} {q_kinds : Nat → Int32} {q_painOf : Nat → Int32} {q_payFor : Nat → Int32} {q_refused : Nat → Int32} {q_owned : Nat → Int64} {q_litIn : Nat → Int64} {q_shapes : Nat → Int32} {q_readAt : Nat → Int32} {q_meant : Nat → Int32} {q_readSo : Nat → Int32} {r : Int32} (h : X5_isTop_J18 fu q_high = some r) : mm_Wp mX5_isTop (mm_R (P_X5_isTop q_wide q_high q_slackNow q_tenants q_letters q_readings q_kinds q_painOf q_payFor q_refused q_owned q_litIn q_shapes q_readAt q_meant q_readSo r)) 0 0 18 [] [] (W_X5 q_wide q_high q_slackNow q_tenants q_letters q_readings q_kinds q_painOf q_payFor q_refused q_owned q_litIn q_shapes q_readAt q_meant q_readSo) := by
  rw [X5_isTop_J18] at h
  refine mm_iconst dX5_isTop_18 ki_0 (pc' := 19) rfl ?_
  cases h
  exact mm_zret rfl (by decide) dX5_isTop_19 ⟨rfl, rfl⟩
def f_X5_isTop (fu : Nat) (q_high : Int32) (v1 : Int32) : Option (Int32) := if v1 < 0 then (X5_isTop_J18 fu q_high) else (if (q_high - (4 : Int32)) < v1 then (X5_isTop_J18 fu q_high) else (some ((1 : Int32))))
set_option maxHeartbeats 4000000 in
set_option maxRecDepth 100000 in
theorem ok_X5_isTop {fu : Nat} {q_wide : Int32} {q_high : Int32} {q_slackNow : Int32} {q_tenants : Int32} {q_letters : Int32} {q_readings : Int32} {q_kinds : Nat → Int32} {q_painOf : Nat → Int32} {q_payFor : Nat → Int32} {q_refused : Nat → Int32} {q_owned : Nat → Int64} {q_litIn : Nat → Int64} {q_shapes : Nat → Int32} {q_readAt : Nat → Int32} {q_meant : Nat → Int32} {q_readSo : Nat → Int32} {r : Int32} {v1 : Int32} (h : f_X5_isTop fu q_high v1 = some r) : mm_Ok mX5_isTop [.ref 0, .int v1] (W_X5 q_wide q_high q_slackNow q_tenants q_letters q_readings q_kinds q_painOf q_payFor q_refused q_owned q_litIn q_shapes q_readAt q_meant q_readSo) (P_X5_isTop q_wide q_high q_slackNow q_tenants q_letters q_readings q_kinds q_painOf q_payFor q_refused q_owned q_litIn q_shapes q_readAt q_meant q_readSo r) := by
  rw [f_X5_isTop] at h
  refine mm_Ok.of pn_X5 (l := [(0, .ref 0), (1, .int v1)]) rfl (Nat.le_of_ble_eq_true rfl) ?_
  refine mm_iload_n 1 dX5_isTop_0 rfl rfl (pc' := 1) rfl ?_
  refine mm_if_lt (tgt := 18) dX5_isTop_1 (by decide) (pc' := 4) rfl (fun c => ?_) (fun c => ?_)
  · replace h := mm_it h c
    clear c
    exact mm_sub [] rfl (s_X5_isTop_J18  h)
  · replace h := mm_if h c
    clear c
    refine mm_iload_n 1 dX5_isTop_4 rfl rfl (pc' := 5) rfl ?_
    refine mm_aload_n 0 dX5_isTop_5 rfl rfl (pc' := 6) rfl ?_
    refine mm_getf fG_X5_15 dX5_isTop_6 rfl rfl (pc' := 9) rfl ?_
    refine mm_iconst dX5_isTop_9 ki_4 (pc' := 10) rfl ?_
    refine mm_isub dX5_isTop_10 (pc' := 11) rfl ?_
    refine mm_icmp_gt (tgt := 18) dX5_isTop_11 (by decide) (pc' := 14) rfl (fun c => ?_) (fun c => ?_)
    · replace h := mm_it h c
      clear c
      exact mm_sub [] rfl (s_X5_isTop_J18  h)
    · replace h := mm_if h c
      clear c
      refine mm_iconst dX5_isTop_14 ki_1 (pc' := 15) rfl ?_
      refine mm_goto (tgt := 19) dX5_isTop_15 (by decide) ?_
      cases h
      exact mm_zret rfl (by decide) dX5_isTop_19 ⟨rfl, rfl⟩

def P_X5_isBox (q_wide : Int32) (q_high : Int32) (q_slackNow : Int32) (q_tenants : Int32) (q_letters : Int32) (q_readings : Int32) (q_kinds : Nat → Int32) (q_painOf : Nat → Int32) (q_payFor : Nat → Int32) (q_refused : Nat → Int32) (q_owned : Nat → Int64) (q_litIn : Nat → Int64) (q_shapes : Nat → Int32) (q_readAt : Nat → Int32) (q_meant : Nat → Int32) (q_readSo : Nat → Int32) (r : Int32) : Option Value → mm_W → Prop := fun rv w => rv = some (.int r) ∧ w = (W_X5 q_wide q_high q_slackNow q_tenants q_letters q_readings q_kinds q_painOf q_payFor q_refused q_owned q_litIn q_shapes q_readAt q_meant q_readSo)
def X5_isBox_J36 (fu : Nat)  (q_wide : Int32) (q_high : Int32)   : Option (Int32) := some ((0 : Int32))
set_option maxHeartbeats 4000000 in
set_option maxRecDepth 100000 in
theorem s_X5_isBox_J36 {fu : Nat} {q_wide : Int32} {q_high : Int32} {q_slackNow : Int32} {q_tenants : Int32} {q_letters : Int32} {q_readings : Int32} {q_kinds : Nat → Int32} {q_painOf : Nat → Int32} {q_payFor : Nat → Int32} {q_refused : Nat → Int32} {q_owned : Nat → Int64} {q_litIn : Nat → Int64} {q_shapes : Nat → Int32} {q_readAt : Nat → Int32} {q_meant : Nat → Int32} {q_readSo : Nat → Int32} {r : Int32} (h : X5_isBox_J36 fu q_wide q_high = some r) : mm_Wp mX5_isBox (mm_R (P_X5_isBox q_wide q_high q_slackNow q_tenants q_letters q_readings q_kinds q_painOf q_payFor q_refused q_owned q_litIn q_shapes q_readAt q_meant q_readSo r)) 0 0 36 [] [] (W_X5 q_wide q_high q_slackNow q_tenants q_letters q_readings q_kinds q_painOf q_payFor q_refused q_owned q_litIn q_shapes q_readAt q_meant q_readSo) := by
  rw [X5_isBox_J36] at h
  refine mm_iconst dX5_isBox_36 ki_0 (pc' := 37) rfl ?_
  cases h
  exact mm_zret rfl (by decide) dX5_isBox_37 ⟨rfl, rfl⟩
def f_X5_isBox (fu : Nat) (q_wide : Int32) (q_high : Int32) (v1 : Int32) : Option (Int32) := (f_X5_isWindow fu q_wide q_high v1).bind fun t2 => if t2 = 0 then (X5_isBox_J36 fu q_wide q_high) else (if (q_wide - (3 : Int32)) < (v1 - v1 / (12 : Int32) * (12 : Int32)) then (X5_isBox_J36 fu q_wide q_high) else ((f_X5_isTop fu q_high (v1 / (12 : Int32))).bind fun t26 => if t26 = 0 then (X5_isBox_J36 fu q_wide q_high) else (some ((1 : Int32)))))
set_option maxHeartbeats 4000000 in
set_option maxRecDepth 100000 in
theorem ok_X5_isBox {fu : Nat} {q_wide : Int32} {q_high : Int32} {q_slackNow : Int32} {q_tenants : Int32} {q_letters : Int32} {q_readings : Int32} {q_kinds : Nat → Int32} {q_painOf : Nat → Int32} {q_payFor : Nat → Int32} {q_refused : Nat → Int32} {q_owned : Nat → Int64} {q_litIn : Nat → Int64} {q_shapes : Nat → Int32} {q_readAt : Nat → Int32} {q_meant : Nat → Int32} {q_readSo : Nat → Int32} {r : Int32} {v1 : Int32} (h : f_X5_isBox fu q_wide q_high v1 = some r) : mm_Ok mX5_isBox [.ref 0, .int v1] (W_X5 q_wide q_high q_slackNow q_tenants q_letters q_readings q_kinds q_painOf q_payFor q_refused q_owned q_litIn q_shapes q_readAt q_meant q_readSo) (P_X5_isBox q_wide q_high q_slackNow q_tenants q_letters q_readings q_kinds q_painOf q_payFor q_refused q_owned q_litIn q_shapes q_readAt q_meant q_readSo r) := by
  rw [f_X5_isBox] at h
  refine mm_Ok.of pn_X5 (l := [(0, .ref 0), (1, .int v1)]) rfl (Nat.le_of_ble_eq_true rfl) ?_
  refine mm_aload_n 0 dX5_isBox_0 rfl rfl (pc' := 1) rfl ?_
  refine mm_iload_n 1 dX5_isBox_1 rfl rfl (pc' := 2) rfl ?_
  obtain ⟨t2, h2, h⟩ := mm_bd h
  refine mm_call0 (As := [.int v1]) (rest := []) cV_X5_72 (ok_X5_isWindow h2) ⟨rfl, rfl, Nat.le_of_ble_eq_true rfl, Nat.le_of_ble_eq_true rfl⟩ dX5_isBox_2 rfl rfl rfl rfl (by rintro _ _ ⟨-, rfl⟩; rfl) (by decide) ⟨Nat.zero_le _, Nat.zero_le _⟩ (pc' := 5) rfl ?_
  rintro rv w ⟨rfl, rfl⟩
  show mm_Wp _ _ _ _ 5 [(0, .ref 0), (1, .int v1)] [.int t2] (W_X5 q_wide q_high q_slackNow q_tenants q_letters q_readings q_kinds q_painOf q_payFor q_refused q_owned q_litIn q_shapes q_readAt q_meant q_readSo)
  clear h2
  refine mm_if_eq (tgt := 36) dX5_isBox_5 (by decide) (pc' := 8) rfl (fun c => ?_) (fun c => ?_)
  · replace h := mm_it h c
    clear c
    exact mm_sub [] rfl (s_X5_isBox_J36  h)
  · replace h := mm_if h c
    clear c
    refine mm_iload_n 1 dX5_isBox_8 rfl rfl (pc' := 9) rfl ?_
    refine mm_bipush dX5_isBox_9 kb_12 (pc' := 11) rfl ?_
    refine mm_irem dX5_isBox_11 (by decide) (pc' := 12) rfl ?_
    refine mm_aload_n 0 dX5_isBox_12 rfl rfl (pc' := 13) rfl ?_
    refine mm_getf fG_X5_9 dX5_isBox_13 rfl rfl (pc' := 16) rfl ?_
    refine mm_iconst dX5_isBox_16 ki_3 (pc' := 17) rfl ?_
    refine mm_isub dX5_isBox_17 (pc' := 18) rfl ?_
    refine mm_icmp_gt (tgt := 36) dX5_isBox_18 (by decide) (pc' := 21) rfl (fun c => ?_) (fun c => ?_)
    · replace h := mm_it h c
      clear c
      exact mm_sub [] rfl (s_X5_isBox_J36  h)
    · replace h := mm_if h c
      clear c
      refine mm_aload_n 0 dX5_isBox_21 rfl rfl (pc' := 22) rfl ?_
      refine mm_iload_n 1 dX5_isBox_22 rfl rfl (pc' := 23) rfl ?_
      refine mm_bipush dX5_isBox_23 kb_12 (pc' := 25) rfl ?_
      refine mm_idiv dX5_isBox_25 (by decide) (pc' := 26) rfl ?_
      obtain ⟨t26, h26, h⟩ := mm_bd h
      refine mm_call0 (As := [.int (v1 / (12 : Int32))]) (rest := []) cV_X5_76 (ok_X5_isTop h26) ⟨rfl, rfl, Nat.le_of_ble_eq_true rfl, Nat.le_of_ble_eq_true rfl⟩ dX5_isBox_26 rfl rfl rfl rfl (by rintro _ _ ⟨-, rfl⟩; rfl) (by decide) ⟨Nat.zero_le _, Nat.zero_le _⟩ (pc' := 29) rfl ?_
      rintro rv w ⟨rfl, rfl⟩
      show mm_Wp _ _ _ _ 29 [(0, .ref 0), (1, .int v1)] [.int t26] (W_X5 q_wide q_high q_slackNow q_tenants q_letters q_readings q_kinds q_painOf q_payFor q_refused q_owned q_litIn q_shapes q_readAt q_meant q_readSo)
      clear h26
      refine mm_if_eq (tgt := 36) dX5_isBox_29 (by decide) (pc' := 32) rfl (fun c => ?_) (fun c => ?_)
      · replace h := mm_it h c
        clear c
        exact mm_sub [] rfl (s_X5_isBox_J36  h)
      · replace h := mm_if h c
        clear c
        refine mm_iconst dX5_isBox_32 ki_1 (pc' := 33) rfl ?_
        refine mm_goto (tgt := 37) dX5_isBox_33 (by decide) ?_
        cases h
        exact mm_zret rfl (by decide) dX5_isBox_37 ⟨rfl, rfl⟩

def P_X7_shapeIn  (r : Int32) : Option Value → mm_W → Prop := fun rv w => rv = some (.int r) ∧ w = []
def X7_shapeIn_L5 (fu : Nat)   (v0 : Int64) (v2 : Int32) : Nat → Int32 → Int32 → Option (Int32)
  | 0, _, _ => none
  | n + 1, v3, v4 => if (4 : Int32) ≤ v4 then (some (v3)) else (mm_let (v3 ||| (((((v0.toUInt64 >>> ((v2 + ((12 : Int32) * v4)).toInt64.toUInt64 &&& Int64.toUInt64 63)).toInt64) &&& (7 : Int64)).toInt32) <<< (((3 : Int32) * v4) &&& 31))) fun y32 => (X7_shapeIn_L5 fu v0 v2 n) y32 (v4 + (1 : Int32)))
set_option maxHeartbeats 4000000 in
set_option maxRecDepth 100000 in
theorem s_X7_shapeIn_L5 {fu : Nat} {r : Int32} {v0 : Int64} {v2 : Int32} : ∀ (n : Nat) (v3 : Int32) (v4 : Int32), X7_shapeIn_L5 fu v0 v2 n v3 v4 = some r → mm_Wp mX7_shapeIn (mm_R (P_X7_shapeIn r)) 0 0 5 [(0, .long v0), (2, .int v2), (3, .int v3), (4, .int v4)] [] [] := by
  intro n
  induction n with
  | zero =>
    intro v3 v4 h
    rw [X7_shapeIn_L5] at h
    cases h
  | succ n hr5 =>
    intro v3 v4 h
    rw [X7_shapeIn_L5] at h
    refine mm_iload 3 dX7_shapeIn_5 rfl (pc' := 7) rfl ?_
    refine mm_iconst dX7_shapeIn_7 ki_4 (pc' := 8) rfl ?_
    refine mm_icmp_ge (tgt := 39) dX7_shapeIn_8 (by decide) (pc' := 11) rfl (fun c => ?_) (fun c => ?_)
    · replace h := mm_it h c
      clear c
      refine mm_iload_n 2 dX7_shapeIn_39 rfl rfl (pc' := 40) rfl ?_
      cases h
      exact mm_iret rfl dX7_shapeIn_40 ⟨rfl, rfl⟩
    · replace h := mm_if h c
      clear c
      refine mm_iload_n 2 dX7_shapeIn_11 rfl rfl (pc' := 12) rfl ?_
      refine mm_lload_n 0 dX7_shapeIn_12 rfl rfl (pc' := 13) rfl ?_
      refine mm_iload_n 1 dX7_shapeIn_13 rfl rfl (pc' := 14) rfl ?_
      refine mm_bipush dX7_shapeIn_14 kb_12 (pc' := 16) rfl ?_
      refine mm_iload 3 dX7_shapeIn_16 rfl (pc' := 18) rfl ?_
      refine mm_imul dX7_shapeIn_18 (pc' := 19) rfl ?_
      refine mm_iadd dX7_shapeIn_19 (pc' := 20) rfl ?_
      refine mm_lushr dX7_shapeIn_20 (pc' := 21) rfl ?_
      refine mm_ldc2 kC_X7_275 dX7_shapeIn_21 (pc' := 24) rfl ?_
      refine mm_land dX7_shapeIn_24 (pc' := 25) rfl ?_
      refine mm_l2i dX7_shapeIn_25 (pc' := 26) rfl ?_
      refine mm_iconst dX7_shapeIn_26 ki_3 (pc' := 27) rfl ?_
      refine mm_iload 3 dX7_shapeIn_27 rfl (pc' := 29) rfl ?_
      refine mm_imul dX7_shapeIn_29 (pc' := 30) rfl ?_
      refine mm_ishl dX7_shapeIn_30 (pc' := 31) rfl ?_
      refine mm_ior dX7_shapeIn_31 (pc' := 32) rfl ?_
      refine mm_topi (fun y32 e => ?_)
      replace h := mm_let_of h y32 e
      clear e
      refine mm_istore_n dX7_shapeIn_32 rfl (by decide) (l' := [(3, .int y32), (0, .long v0), (2, .int v2), (4, .int v4)]) rfl (pc' := 33) rfl ?_
      refine mm_iinc 3 dX7_shapeIn_33 rfl ki_1 (by decide) (l' := [(4, .int (v4 + (1 : Int32))), (3, .int y32), (0, .long v0), (2, .int v2)]) rfl (pc' := 36) rfl ?_
      refine mm_goto (tgt := 5) dX7_shapeIn_36 (by decide) ?_
      exact mm_sub [2, 3, 1, 0] rfl (hr5 _ _ h)
def f_X7_shapeIn (fu : Nat) (v0 : Int64) (v2 : Int32) : Option (Int32) := X7_shapeIn_L5 fu v0 v2 fu (0 : Int32) (0 : Int32)
set_option maxHeartbeats 4000000 in
set_option maxRecDepth 100000 in
theorem ok_X7_shapeIn {fu : Nat} {r : Int32} {v0 : Int64} {v2 : Int32} (h : f_X7_shapeIn fu v0 v2 = some r) : mm_Ok mX7_shapeIn [.long v0, .int v2] [] (P_X7_shapeIn r) := by
  rw [f_X7_shapeIn] at h
  refine mm_Ok.of pn_X7 (l := [(0, .long v0), (2, .int v2)]) rfl (Nat.le_of_ble_eq_true rfl) ?_
  refine mm_iconst dX7_shapeIn_0 ki_0 (pc' := 1) rfl ?_
  refine mm_istore_n dX7_shapeIn_1 rfl (by decide) (l' := [(3, .int (0 : Int32)), (0, .long v0), (2, .int v2)]) rfl (pc' := 2) rfl ?_
  refine mm_iconst dX7_shapeIn_2 ki_0 (pc' := 3) rfl ?_
  refine mm_istore dX7_shapeIn_3 (by decide) (l' := [(4, .int (0 : Int32)), (3, .int (0 : Int32)), (0, .long v0), (2, .int v2)]) rfl (pc' := 5) rfl ?_
  exact mm_sub [2, 3, 1, 0] rfl (s_X7_shapeIn_L5  _ _ _ h)

def P_X5_changeable (q_wide : Int32) (q_high : Int32) (q_slackNow : Int32) (q_tenants : Int32) (q_letters : Int32) (q_readings : Int32) (q_kinds : Nat → Int32) (q_painOf : Nat → Int32) (q_payFor : Nat → Int32) (q_refused : Nat → Int32) (q_owned : Nat → Int64) (q_litIn : Nat → Int64) (q_shapes : Nat → Int32) (q_readAt : Nat → Int32) (q_meant : Nat → Int32) (q_readSo : Nat → Int32) (r : Int64) : Option Value → mm_W → Prop := fun rv w => rv = some (.long r) ∧ w = (W_X5 q_wide q_high q_slackNow q_tenants q_letters q_readings q_kinds q_painOf q_payFor q_refused q_owned q_litIn q_shapes q_readAt q_meant q_readSo)
def X5_changeable_J104 (fu : Nat) (rec6 : Int64 → Int32 → Option (Int64)) (q_tenants : Int32) (q_kinds : Nat → Int32) (q_refused : Nat → Int32) (q_owned : Nat → Int64) (q_litIn : Nat → Int64) (v1 : Int32) (v2 : Int32) (v3 : Int32) (v4 : Int64) (v6 : Int32)  : Option (Int64) := rec6 v4 (v6 + (1 : Int32))
set_option maxHeartbeats 4000000 in
set_option maxRecDepth 100000 in
theorem s_X5_changeable_J104 {fu : Nat} {q_wide : Int32} {q_high : Int32} {q_slackNow : Int32} {q_tenants : Int32} {q_letters : Int32} {q_readings : Int32} {q_kinds : Nat → Int32} {q_painOf : Nat → Int32} {q_payFor : Nat → Int32} {q_refused : Nat → Int32} {q_owned : Nat → Int64} {q_litIn : Nat → Int64} {q_shapes : Nat → Int32} {q_readAt : Nat → Int32} {q_meant : Nat → Int32} {q_readSo : Nat → Int32} {r : Int64} {rec6 : Int64 → Int32 → Option (Int64)} {v1 : Int32} {v2 : Int32} {v3 : Int32} {v4 : Int64} {v6 : Int32} (hr6 : ∀ (y4 : Int64) (y6 : Int32), rec6 y4 y6 = some r → mm_Wp mX5_changeable (mm_R (P_X5_changeable q_wide q_high q_slackNow q_tenants q_letters q_readings q_kinds q_painOf q_payFor q_refused q_owned q_litIn q_shapes q_readAt q_meant q_readSo r)) 0 0 6 [(0, .ref 0), (1, .int v1), (2, .int v2), (3, .int v3), (4, .long y4), (6, .int y6)] [] (W_X5 q_wide q_high q_slackNow q_tenants q_letters q_readings q_kinds q_painOf q_payFor q_refused q_owned q_litIn q_shapes q_readAt q_meant q_readSo)) (h : X5_changeable_J104 fu rec6 q_tenants q_kinds q_refused q_owned q_litIn v1 v2 v3 v4 v6 = some r) : mm_Wp mX5_changeable (mm_R (P_X5_changeable q_wide q_high q_slackNow q_tenants q_letters q_readings q_kinds q_painOf q_payFor q_refused q_owned q_litIn q_shapes q_readAt q_meant q_readSo r)) 0 0 104 [(0, .ref 0), (1, .int v1), (2, .int v2), (3, .int v3), (4, .long v4), (6, .int v6)] [] (W_X5 q_wide q_high q_slackNow q_tenants q_letters q_readings q_kinds q_painOf q_payFor q_refused q_owned q_litIn q_shapes q_readAt q_meant q_readSo) := by
  rw [X5_changeable_J104] at h
  refine mm_iinc 5 dX5_changeable_104 rfl ki_1 (by decide) (l' := [(6, .int (v6 + (1 : Int32))), (0, .ref 0), (1, .int v1), (2, .int v2), (3, .int v3), (4, .long v4)]) rfl (pc' := 107) rfl ?_
  refine mm_goto (tgt := 6) dX5_changeable_107 (by decide) ?_
  exact mm_sub [1, 2, 3, 4, 5, 0] rfl (hr6 _ _ h)
def X5_changeable_J101 (fu : Nat) (rec6 : Int64 → Int32 → Option (Int64)) (q_tenants : Int32) (q_kinds : Nat → Int32) (q_refused : Nat → Int32) (q_owned : Nat → Int64) (q_litIn : Nat → Int64) (v1 : Int32) (v2 : Int32) (v3 : Int32) (v6 : Int32) (s0 : Int64) (s1 : Int64) : Option (Int64) := X5_changeable_J104 fu rec6 q_tenants q_kinds q_refused q_owned q_litIn v1 v2 v3 (s1 ||| s0) v6
set_option maxHeartbeats 4000000 in
set_option maxRecDepth 100000 in
theorem s_X5_changeable_J101 {fu : Nat} {q_wide : Int32} {q_high : Int32} {q_slackNow : Int32} {q_tenants : Int32} {q_letters : Int32} {q_readings : Int32} {q_kinds : Nat → Int32} {q_painOf : Nat → Int32} {q_payFor : Nat → Int32} {q_refused : Nat → Int32} {q_owned : Nat → Int64} {q_litIn : Nat → Int64} {q_shapes : Nat → Int32} {q_readAt : Nat → Int32} {q_meant : Nat → Int32} {q_readSo : Nat → Int32} {r : Int64} {rec6 : Int64 → Int32 → Option (Int64)} {v1 : Int32} {v2 : Int32} {v3 : Int32} {v6 : Int32} {s0 : Int64} {s1 : Int64} (hr6 : ∀ (y4 : Int64) (y6 : Int32), rec6 y4 y6 = some r → mm_Wp mX5_changeable (mm_R (P_X5_changeable q_wide q_high q_slackNow q_tenants q_letters q_readings q_kinds q_painOf q_payFor q_refused q_owned q_litIn q_shapes q_readAt q_meant q_readSo r)) 0 0 6 [(0, .ref 0), (1, .int v1), (2, .int v2), (3, .int v3), (4, .long y4), (6, .int y6)] [] (W_X5 q_wide q_high q_slackNow q_tenants q_letters q_readings q_kinds q_painOf q_payFor q_refused q_owned q_litIn q_shapes q_readAt q_meant q_readSo)) (h : X5_changeable_J101 fu rec6 q_tenants q_kinds q_refused q_owned q_litIn v1 v2 v3 v6 s0 s1 = some r) : mm_Wp mX5_changeable (mm_R (P_X5_changeable q_wide q_high q_slackNow q_tenants q_letters q_readings q_kinds q_painOf q_payFor q_refused q_owned q_litIn q_shapes q_readAt q_meant q_readSo r)) 0 0 101 [(0, .ref 0), (1, .int v1), (2, .int v2), (3, .int v3), (6, .int v6)] [.long s0, .long s1] (W_X5 q_wide q_high q_slackNow q_tenants q_letters q_readings q_kinds q_painOf q_payFor q_refused q_owned q_litIn q_shapes q_readAt q_meant q_readSo) := by
  rw [X5_changeable_J101] at h
  refine mm_lor dX5_changeable_101 (pc' := 102) rfl ?_
  refine mm_lstore dX5_changeable_102 (by decide) (l' := [(4, .long (s1 ||| s0)), (0, .ref 0), (1, .int v1), (2, .int v2), (3, .int v3), (6, .int v6)]) rfl (pc' := 104) rfl ?_
  exact mm_sub [1, 2, 3, 4, 0, 5] rfl (s_X5_changeable_J104 (hr6 := hr6) h)
def X5_changeable_J45 (fu : Nat) (rec6 : Int64 → Int32 → Option (Int64)) (q_tenants : Int32) (q_kinds : Nat → Int32) (q_refused : Nat → Int32) (q_owned : Nat → Int64) (q_litIn : Nat → Int64) (v1 : Int32) (v2 : Int32) (v3 : Int32) (v4 : Int64) (v6 : Int32) (s0 : Int32) : Option (Int64) := if ((v3 >>> (v6 &&& 31)) &&& (1 : Int32)) = 0 then (X5_changeable_J104 fu rec6 q_tenants q_kinds q_refused q_owned q_litIn v1 v2 v3 v4 v6) else (if s0 = 0 then (X5_changeable_J104 fu rec6 q_tenants q_kinds q_refused q_owned q_litIn v1 v2 v3 v4 v6) else (mm_rd q_kinds 6 v6 fun x72 => if x72 = (4 : Int32) then (mm_rd q_owned 6 v6 fun x83 => mm_rd q_litIn 4 v1 fun x89 => X5_changeable_J101 fu rec6 q_tenants q_kinds q_refused q_owned q_litIn v1 v2 v3 v6 (x83 &&& x89) v4) else (mm_rd q_owned 6 v6 fun x100 => X5_changeable_J101 fu rec6 q_tenants q_kinds q_refused q_owned q_litIn v1 v2 v3 v6 x100 v4)))
set_option maxHeartbeats 4000000 in
set_option maxRecDepth 100000 in
theorem s_X5_changeable_J45 {fu : Nat} {q_wide : Int32} {q_high : Int32} {q_slackNow : Int32} {q_tenants : Int32} {q_letters : Int32} {q_readings : Int32} {q_kinds : Nat → Int32} {q_painOf : Nat → Int32} {q_payFor : Nat → Int32} {q_refused : Nat → Int32} {q_owned : Nat → Int64} {q_litIn : Nat → Int64} {q_shapes : Nat → Int32} {q_readAt : Nat → Int32} {q_meant : Nat → Int32} {q_readSo : Nat → Int32} {r : Int64} {rec6 : Int64 → Int32 → Option (Int64)} {v1 : Int32} {v2 : Int32} {v3 : Int32} {v4 : Int64} {v6 : Int32} {s0 : Int32} (hr6 : ∀ (y4 : Int64) (y6 : Int32), rec6 y4 y6 = some r → mm_Wp mX5_changeable (mm_R (P_X5_changeable q_wide q_high q_slackNow q_tenants q_letters q_readings q_kinds q_painOf q_payFor q_refused q_owned q_litIn q_shapes q_readAt q_meant q_readSo r)) 0 0 6 [(0, .ref 0), (1, .int v1), (2, .int v2), (3, .int v3), (4, .long y4), (6, .int y6)] [] (W_X5 q_wide q_high q_slackNow q_tenants q_letters q_readings q_kinds q_painOf q_payFor q_refused q_owned q_litIn q_shapes q_readAt q_meant q_readSo)) (h : X5_changeable_J45 fu rec6 q_tenants q_kinds q_refused q_owned q_litIn v1 v2 v3 v4 v6 s0 = some r) : mm_Wp mX5_changeable (mm_R (P_X5_changeable q_wide q_high q_slackNow q_tenants q_letters q_readings q_kinds q_painOf q_payFor q_refused q_owned q_litIn q_shapes q_readAt q_meant q_readSo r)) 0 0 45 [(0, .ref 0), (1, .int v1), (2, .int v2), (3, .int v3), (4, .long v4), (6, .int v6)] [.int s0] (W_X5 q_wide q_high q_slackNow q_tenants q_letters q_readings q_kinds q_painOf q_payFor q_refused q_owned q_litIn q_shapes q_readAt q_meant q_readSo) := by
  rw [X5_changeable_J45] at h
  refine mm_istore dX5_changeable_45 (by decide) (l' := [(7, .int s0), (0, .ref 0), (1, .int v1), (2, .int v2), (3, .int v3), (4, .long v4), (6, .int v6)]) rfl (pc' := 47) rfl ?_
  refine mm_iload_n 4 dX5_changeable_47 rfl rfl (pc' := 48) rfl ?_
  refine mm_iload 6 dX5_changeable_48 rfl (pc' := 50) rfl ?_
  refine mm_ishr dX5_changeable_50 (pc' := 51) rfl ?_
  refine mm_iconst dX5_changeable_51 ki_1 (pc' := 52) rfl ?_
  refine mm_iand dX5_changeable_52 (pc' := 53) rfl ?_
  refine mm_if_eq (tgt := 104) dX5_changeable_53 (by decide) (pc' := 56) rfl (fun c => ?_) (fun c => ?_)
  · replace h := mm_it h c
    clear c
    exact mm_sub [1, 2, 3, 4, 5, 6] rfl (s_X5_changeable_J104 (hr6 := hr6) h)
  · replace h := mm_if h c
    clear c
    refine mm_iload 0 dX5_changeable_56 rfl (pc' := 58) rfl ?_
    refine mm_if_ne (tgt := 64) dX5_changeable_58 (by decide) (pc' := 61) rfl (fun c => ?_) (fun c => ?_)
    · replace h := mm_if h c
      clear c
      refine mm_lload 5 dX5_changeable_64 rfl (pc' := 66) rfl ?_
      refine mm_aload_n 1 dX5_changeable_66 rfl rfl (pc' := 67) rfl ?_
      refine mm_getf fG_X5_30 dX5_changeable_67 rfl rfl (pc' := 70) rfl ?_
      refine mm_iload 6 dX5_changeable_70 rfl (pc' := 72) rfl ?_
      obtain ⟨x72, c72, e72, h⟩ := mm_rd_of h
      refine mm_iald dX5_changeable_72 rfl c72 e72 (pc' := 73) rfl ?_
      clear c72 e72
      refine mm_iconst dX5_changeable_73 ki_4 (pc' := 74) rfl ?_
      refine mm_icmp_ne (tgt := 94) dX5_changeable_74 (by decide) (pc' := 77) rfl (fun c => ?_) (fun c => ?_)
      · replace h := mm_if h c
        clear c
        refine mm_aload_n 1 dX5_changeable_94 rfl rfl (pc' := 95) rfl ?_
        refine mm_getf fG_X5_43 dX5_changeable_95 rfl rfl (pc' := 98) rfl ?_
        refine mm_iload 6 dX5_changeable_98 rfl (pc' := 100) rfl ?_
        obtain ⟨x100, c100, e100, h⟩ := mm_rd_of h
        refine mm_lald dX5_changeable_100 rfl c100 e100 (pc' := 101) rfl ?_
        clear c100 e100
        exact mm_sub [1, 2, 3, 4, 6] rfl (s_X5_changeable_J101 (hr6 := hr6) h)
      · replace h := mm_it h c
        clear c
        refine mm_aload_n 1 dX5_changeable_77 rfl rfl (pc' := 78) rfl ?_
        refine mm_getf fG_X5_43 dX5_changeable_78 rfl rfl (pc' := 81) rfl ?_
        refine mm_iload 6 dX5_changeable_81 rfl (pc' := 83) rfl ?_
        obtain ⟨x83, c83, e83, h⟩ := mm_rd_of h
        refine mm_lald dX5_changeable_83 rfl c83 e83 (pc' := 84) rfl ?_
        clear c83 e83
        refine mm_aload_n 1 dX5_changeable_84 rfl rfl (pc' := 85) rfl ?_
        refine mm_getf fG_X5_47 dX5_changeable_85 rfl rfl (pc' := 88) rfl ?_
        refine mm_iload_n 2 dX5_changeable_88 rfl rfl (pc' := 89) rfl ?_
        obtain ⟨x89, c89, e89, h⟩ := mm_rd_of h
        refine mm_lald dX5_changeable_89 rfl c89 e89 (pc' := 90) rfl ?_
        clear c89 e89
        refine mm_land dX5_changeable_90 (pc' := 91) rfl ?_
        refine mm_goto (tgt := 101) dX5_changeable_91 (by decide) ?_
        exact mm_sub [1, 2, 3, 4, 6] rfl (s_X5_changeable_J101 (hr6 := hr6) h)
    · replace h := mm_it h c
      clear c
      refine mm_goto (tgt := 104) dX5_changeable_61 (by decide) ?_
      exact mm_sub [1, 2, 3, 4, 5, 6] rfl (s_X5_changeable_J104 (hr6 := hr6) h)
def X5_changeable_J40 (fu : Nat) (rec6 : Int64 → Int32 → Option (Int64)) (q_tenants : Int32) (q_kinds : Nat → Int32) (q_refused : Nat → Int32) (q_owned : Nat → Int64) (q_litIn : Nat → Int64) (v1 : Int32) (v2 : Int32) (v3 : Int32) (v4 : Int64) (v6 : Int32)  : Option (Int64) := X5_changeable_J45 fu rec6 q_tenants q_kinds q_refused q_owned q_litIn v1 v2 v3 v4 v6 (1 : Int32)
set_option maxHeartbeats 4000000 in
set_option maxRecDepth 100000 in
theorem s_X5_changeable_J40 {fu : Nat} {q_wide : Int32} {q_high : Int32} {q_slackNow : Int32} {q_tenants : Int32} {q_letters : Int32} {q_readings : Int32} {q_kinds : Nat → Int32} {q_painOf : Nat → Int32} {q_payFor : Nat → Int32} {q_refused : Nat → Int32} {q_owned : Nat → Int64} {q_litIn : Nat → Int64} {q_shapes : Nat → Int32} {q_readAt : Nat → Int32} {q_meant : Nat → Int32} {q_readSo : Nat → Int32} {r : Int64} {rec6 : Int64 → Int32 → Option (Int64)} {v1 : Int32} {v2 : Int32} {v3 : Int32} {v4 : Int64} {v6 : Int32} (hr6 : ∀ (y4 : Int64) (y6 : Int32), rec6 y4 y6 = some r → mm_Wp mX5_changeable (mm_R (P_X5_changeable q_wide q_high q_slackNow q_tenants q_letters q_readings q_kinds q_painOf q_payFor q_refused q_owned q_litIn q_shapes q_readAt q_meant q_readSo r)) 0 0 6 [(0, .ref 0), (1, .int v1), (2, .int v2), (3, .int v3), (4, .long y4), (6, .int y6)] [] (W_X5 q_wide q_high q_slackNow q_tenants q_letters q_readings q_kinds q_painOf q_payFor q_refused q_owned q_litIn q_shapes q_readAt q_meant q_readSo)) (h : X5_changeable_J40 fu rec6 q_tenants q_kinds q_refused q_owned q_litIn v1 v2 v3 v4 v6 = some r) : mm_Wp mX5_changeable (mm_R (P_X5_changeable q_wide q_high q_slackNow q_tenants q_letters q_readings q_kinds q_painOf q_payFor q_refused q_owned q_litIn q_shapes q_readAt q_meant q_readSo r)) 0 0 40 [(0, .ref 0), (1, .int v1), (2, .int v2), (3, .int v3), (4, .long v4), (6, .int v6)] [] (W_X5 q_wide q_high q_slackNow q_tenants q_letters q_readings q_kinds q_painOf q_payFor q_refused q_owned q_litIn q_shapes q_readAt q_meant q_readSo) := by
  rw [X5_changeable_J40] at h
  refine mm_iconst dX5_changeable_40 ki_1 (pc' := 41) rfl ?_
  refine mm_goto (tgt := 45) dX5_changeable_41 (by decide) ?_
  exact s_X5_changeable_J45 (hr6 := hr6) h
def X5_changeable_L6 (fu : Nat)  (q_tenants : Int32) (q_kinds : Nat → Int32) (q_refused : Nat → Int32) (q_owned : Nat → Int64) (q_litIn : Nat → Int64) (v1 : Int32) (v2 : Int32) (v3 : Int32) : Nat → Int64 → Int32 → Option (Int64)
  | 0, _, _ => none
  | n + 1, v4, v6 => if q_tenants ≤ v6 then (some (v4)) else (mm_rd q_refused 6 v6 fun x21 => if x21 = (-1 : Int32) then (X5_changeable_J40 fu (X5_changeable_L6 fu q_tenants q_kinds q_refused q_owned q_litIn v1 v2 v3 n) q_tenants q_kinds q_refused q_owned q_litIn v1 v2 v3 v4 v6) else (mm_rd q_refused 6 v6 fun x33 => if ((v2 >>> (x33 &&& 31)) &&& (1 : Int32)) = 0 then (X5_changeable_J40 fu (X5_changeable_L6 fu q_tenants q_kinds q_refused q_owned q_litIn v1 v2 v3 n) q_tenants q_kinds q_refused q_owned q_litIn v1 v2 v3 v4 v6) else (X5_changeable_J45 fu (X5_changeable_L6 fu q_tenants q_kinds q_refused q_owned q_litIn v1 v2 v3 n) q_tenants q_kinds q_refused q_owned q_litIn v1 v2 v3 v4 v6 (0 : Int32))))
set_option maxHeartbeats 4000000 in
set_option maxRecDepth 100000 in
theorem s_X5_changeable_L6 {fu : Nat} {q_wide : Int32} {q_high : Int32} {q_slackNow : Int32} {q_tenants : Int32} {q_letters : Int32} {q_readings : Int32} {q_kinds : Nat → Int32} {q_painOf : Nat → Int32} {q_payFor : Nat → Int32} {q_refused : Nat → Int32} {q_owned : Nat → Int64} {q_litIn : Nat → Int64} {q_shapes : Nat → Int32} {q_readAt : Nat → Int32} {q_meant : Nat → Int32} {q_readSo : Nat → Int32} {r : Int64} {v1 : Int32} {v2 : Int32} {v3 : Int32} : ∀ (n : Nat) (v4 : Int64) (v6 : Int32), X5_changeable_L6 fu q_tenants q_kinds q_refused q_owned q_litIn v1 v2 v3 n v4 v6 = some r → mm_Wp mX5_changeable (mm_R (P_X5_changeable q_wide q_high q_slackNow q_tenants q_letters q_readings q_kinds q_painOf q_payFor q_refused q_owned q_litIn q_shapes q_readAt q_meant q_readSo r)) 0 0 6 [(0, .ref 0), (1, .int v1), (2, .int v2), (3, .int v3), (4, .long v4), (6, .int v6)] [] (W_X5 q_wide q_high q_slackNow q_tenants q_letters q_readings q_kinds q_painOf q_payFor q_refused q_owned q_litIn q_shapes q_readAt q_meant q_readSo) := by
  intro n
  induction n with
  | zero =>
    intro v4 v6 h
    rw [X5_changeable_L6] at h
    cases h
  | succ n hr6 =>
    intro v4 v6 h
    rw [X5_changeable_L6] at h
    refine mm_iload 5 dX5_changeable_6 rfl (pc' := 8) rfl ?_
    refine mm_aload_n 0 dX5_changeable_8 rfl rfl (pc' := 9) rfl ?_
    refine mm_getf fG_X5_21 dX5_changeable_9 rfl rfl (pc' := 12) rfl ?_
    refine mm_icmp_ge (tgt := 110) dX5_changeable_12 (by decide) (pc' := 15) rfl (fun c => ?_) (fun c => ?_)
    · replace h := mm_it h c
      clear c
      refine mm_lload 4 dX5_changeable_110 rfl (pc' := 112) rfl ?_
      cases h
      exact mm_lret rfl dX5_changeable_112 ⟨rfl, rfl⟩
    · replace h := mm_if h c
      clear c
      refine mm_aload_n 0 dX5_changeable_15 rfl rfl (pc' := 16) rfl ?_
      refine mm_getf fG_X5_40 dX5_changeable_16 rfl rfl (pc' := 19) rfl ?_
      refine mm_iload 5 dX5_changeable_19 rfl (pc' := 21) rfl ?_
      obtain ⟨x21, c21, e21, h⟩ := mm_rd_of h
      refine mm_iald dX5_changeable_21 rfl c21 e21 (pc' := 22) rfl ?_
      clear c21 e21
      refine mm_iconst dX5_changeable_22 ki_m1 (pc' := 23) rfl ?_
      refine mm_icmp_eq (tgt := 40) dX5_changeable_23 (by decide) (pc' := 26) rfl (fun c => ?_) (fun c => ?_)
      · replace h := mm_it h c
        clear c
        exact s_X5_changeable_J40 (hr6 := hr6) h
      · replace h := mm_if h c
        clear c
        refine mm_iload_n 2 dX5_changeable_26 rfl rfl (pc' := 27) rfl ?_
        refine mm_aload_n 0 dX5_changeable_27 rfl rfl (pc' := 28) rfl ?_
        refine mm_getf fG_X5_40 dX5_changeable_28 rfl rfl (pc' := 31) rfl ?_
        refine mm_iload 5 dX5_changeable_31 rfl (pc' := 33) rfl ?_
        obtain ⟨x33, c33, e33, h⟩ := mm_rd_of h
        refine mm_iald dX5_changeable_33 rfl c33 e33 (pc' := 34) rfl ?_
        clear c33 e33
        refine mm_ishr dX5_changeable_34 (pc' := 35) rfl ?_
        refine mm_iconst dX5_changeable_35 ki_1 (pc' := 36) rfl ?_
        refine mm_iand dX5_changeable_36 (pc' := 37) rfl ?_
        refine mm_if_ne (tgt := 44) dX5_changeable_37 (by decide) (pc' := 40) rfl (fun c => ?_) (fun c => ?_)
        · replace h := mm_if h c
          clear c
          refine mm_iconst dX5_changeable_44 ki_0 (pc' := 45) rfl ?_
          exact s_X5_changeable_J45 (hr6 := hr6) h
        · replace h := mm_it h c
          clear c
          exact s_X5_changeable_J40 (hr6 := hr6) h
def f_X5_changeable (fu : Nat) (q_tenants : Int32) (q_kinds : Nat → Int32) (q_refused : Nat → Int32) (q_owned : Nat → Int64) (q_litIn : Nat → Int64) (v1 : Int32) (v2 : Int32) (v3 : Int32) : Option (Int64) := X5_changeable_L6 fu q_tenants q_kinds q_refused q_owned q_litIn v1 v2 v3 fu (0 : Int64) (0 : Int32)
set_option maxHeartbeats 4000000 in
set_option maxRecDepth 100000 in
theorem ok_X5_changeable {fu : Nat} {q_wide : Int32} {q_high : Int32} {q_slackNow : Int32} {q_tenants : Int32} {q_letters : Int32} {q_readings : Int32} {q_kinds : Nat → Int32} {q_painOf : Nat → Int32} {q_payFor : Nat → Int32} {q_refused : Nat → Int32} {q_owned : Nat → Int64} {q_litIn : Nat → Int64} {q_shapes : Nat → Int32} {q_readAt : Nat → Int32} {q_meant : Nat → Int32} {q_readSo : Nat → Int32} {r : Int64} {v1 : Int32} {v2 : Int32} {v3 : Int32} (h : f_X5_changeable fu q_tenants q_kinds q_refused q_owned q_litIn v1 v2 v3 = some r) : mm_Ok mX5_changeable [.ref 0, .int v1, .int v2, .int v3] (W_X5 q_wide q_high q_slackNow q_tenants q_letters q_readings q_kinds q_painOf q_payFor q_refused q_owned q_litIn q_shapes q_readAt q_meant q_readSo) (P_X5_changeable q_wide q_high q_slackNow q_tenants q_letters q_readings q_kinds q_painOf q_payFor q_refused q_owned q_litIn q_shapes q_readAt q_meant q_readSo r) := by
  rw [f_X5_changeable] at h
  refine mm_Ok.of pn_X5 (l := [(0, .ref 0), (1, .int v1), (2, .int v2), (3, .int v3)]) rfl (Nat.le_of_ble_eq_true rfl) ?_
  refine mm_lconst dX5_changeable_0 (by decide : _ = (0 : Int64)) (pc' := 1) rfl ?_
  refine mm_lstore dX5_changeable_1 (by decide) (l' := [(4, .long (0 : Int64)), (0, .ref 0), (1, .int v1), (2, .int v2), (3, .int v3)]) rfl (pc' := 3) rfl ?_
  refine mm_iconst dX5_changeable_3 ki_0 (pc' := 4) rfl ?_
  refine mm_istore dX5_changeable_4 (by decide) (l' := [(6, .int (0 : Int32)), (4, .long (0 : Int64)), (0, .ref 0), (1, .int v1), (2, .int v2), (3, .int v3)]) rfl (pc' := 6) rfl ?_
  exact mm_sub [2, 3, 4, 5, 1, 0] rfl (s_X5_changeable_L6  _ _ _ h)

def P_X5_addTenant (q_wide : Int32) (q_high : Int32) (q_slackNow : Int32) (q_letters : Int32) (q_readings : Int32) (q_litIn : Nat → Int64) (q_shapes : Nat → Int32) (q_readAt : Nat → Int32) (q_meant : Nat → Int32) (q_readSo : Nat → Int32) (r : Int32 × Int32 × (Nat → Int32) × (Nat → Int32) × (Nat → Int32) × (Nat → Int32) × (Nat → Int64)) : Option Value → mm_W → Prop := fun rv w => rv = some (.int r.1) ∧ w = (W_X5 q_wide q_high q_slackNow r.2.1 q_letters q_readings r.2.2.1 r.2.2.2.1 r.2.2.2.2.1 r.2.2.2.2.2.1 r.2.2.2.2.2.2 q_litIn q_shapes q_readAt q_meant q_readSo)
def X5_addTenant_J29 (fu : Nat)  (q_tenants : Int32) (q_kinds : Nat → Int32) (q_painOf : Nat → Int32) (q_payFor : Nat → Int32) (q_refused : Nat → Int32) (q_owned : Nat → Int64)   : Option (Int32 × Int32 × (Nat → Int32) × (Nat → Int32) × (Nat → Int32) × (Nat → Int32) × (Nat → Int64)) := some ((-2 : Int32), q_tenants, q_kinds, q_painOf, q_payFor, q_refused, q_owned)
set_option maxHeartbeats 4000000 in
set_option maxRecDepth 100000 in
theorem s_X5_addTenant_J29 {fu : Nat} {q_wide : Int32} {q_high : Int32} {q_slackNow : Int32} {q_tenants : Int32} {q_letters : Int32} {q_readings : Int32} {q_kinds : Nat → Int32} {q_painOf : Nat → Int32} {q_payFor : Nat → Int32} {q_refused : Nat → Int32} {q_owned : Nat → Int64} {q_litIn : Nat → Int64} {q_shapes : Nat → Int32} {q_readAt : Nat → Int32} {q_meant : Nat → Int32} {q_readSo : Nat → Int32} {r : Int32 × Int32 × (Nat → Int32) × (Nat → Int32) × (Nat → Int32) × (Nat → Int32) × (Nat → Int64)} (h : X5_addTenant_J29 fu q_tenants q_kinds q_painOf q_payFor q_refused q_owned = some r) : mm_Wp mX5_addTenant (mm_R (P_X5_addTenant q_wide q_high q_slackNow q_letters q_readings q_litIn q_shapes q_readAt q_meant q_readSo r)) 0 0 29 [] [] (W_X5 q_wide q_high q_slackNow q_tenants q_letters q_readings q_kinds q_painOf q_payFor q_refused q_owned q_litIn q_shapes q_readAt q_meant q_readSo) := by
  rw [X5_addTenant_J29] at h
  refine mm_bipush dX5_addTenant_29 kb_m2 (pc' := 31) rfl ?_
  cases h
  exact mm_iret rfl dX5_addTenant_31 ⟨rfl, rfl⟩
def f_X5_addTenant (fu : Nat) (q_tenants : Int32) (q_kinds : Nat → Int32) (q_painOf : Nat → Int32) (q_payFor : Nat → Int32) (q_refused : Nat → Int32) (q_owned : Nat → Int64) (v1 : Int32) (v2 : Int32) (v3 : Int32) : Option (Int32 × Int32 × (Nat → Int32) × (Nat → Int32) × (Nat → Int32) × (Nat → Int32) × (Nat → Int64)) := if v1 < 0 then (X5_addTenant_J29 fu q_tenants q_kinds q_painOf q_payFor q_refused q_owned) else (if (5 : Int32) < v1 then (X5_addTenant_J29 fu q_tenants q_kinds q_painOf q_payFor q_refused q_owned) else (if v2 < 0 then (X5_addTenant_J29 fu q_tenants q_kinds q_painOf q_payFor q_refused q_owned) else (if (9 : Int32) < v2 then (X5_addTenant_J29 fu q_tenants q_kinds q_painOf q_payFor q_refused q_owned) else (if v3 < 0 then (X5_addTenant_J29 fu q_tenants q_kinds q_painOf q_payFor q_refused q_owned) else (if v3 ≤ (99 : Int32) then (if q_tenants < (6 : Int32) then (mm_ck 6 q_tenants (mm_ck 6 q_tenants (mm_ck 6 q_tenants (mm_ck 6 q_tenants (mm_ck 6 q_tenants (some (((q_tenants + (1 : Int32)) - (1 : Int32)), q_tenants + (1 : Int32), upd q_kinds q_tenants.toNatClampNeg v1, upd q_painOf q_tenants.toNatClampNeg v2, upd q_payFor q_tenants.toNatClampNeg v3, upd q_refused q_tenants.toNatClampNeg (-1 : Int32), vp_updL q_owned q_tenants.toNatClampNeg (0 : Int64)))))))) else (some ((-4 : Int32), q_tenants, q_kinds, q_painOf, q_payFor, q_refused, q_owned))) else (X5_addTenant_J29 fu q_tenants q_kinds q_painOf q_payFor q_refused q_owned))))))
set_option maxHeartbeats 4000000 in
set_option maxRecDepth 100000 in
theorem ok_X5_addTenant {fu : Nat} {q_wide : Int32} {q_high : Int32} {q_slackNow : Int32} {q_tenants : Int32} {q_letters : Int32} {q_readings : Int32} {q_kinds : Nat → Int32} {q_painOf : Nat → Int32} {q_payFor : Nat → Int32} {q_refused : Nat → Int32} {q_owned : Nat → Int64} {q_litIn : Nat → Int64} {q_shapes : Nat → Int32} {q_readAt : Nat → Int32} {q_meant : Nat → Int32} {q_readSo : Nat → Int32} {r : Int32 × Int32 × (Nat → Int32) × (Nat → Int32) × (Nat → Int32) × (Nat → Int32) × (Nat → Int64)} {v1 : Int32} {v2 : Int32} {v3 : Int32} (h : f_X5_addTenant fu q_tenants q_kinds q_painOf q_payFor q_refused q_owned v1 v2 v3 = some r) : mm_Ok mX5_addTenant [.ref 0, .int v1, .int v2, .int v3] (W_X5 q_wide q_high q_slackNow q_tenants q_letters q_readings q_kinds q_painOf q_payFor q_refused q_owned q_litIn q_shapes q_readAt q_meant q_readSo) (P_X5_addTenant q_wide q_high q_slackNow q_letters q_readings q_litIn q_shapes q_readAt q_meant q_readSo r) := by
  rw [f_X5_addTenant] at h
  refine mm_Ok.of pn_X5 (l := [(0, .ref 0), (1, .int v1), (2, .int v2), (3, .int v3)]) rfl (Nat.le_of_ble_eq_true rfl) ?_
  refine mm_iload_n 1 dX5_addTenant_0 rfl rfl (pc' := 1) rfl ?_
  refine mm_if_lt (tgt := 29) dX5_addTenant_1 (by decide) (pc' := 4) rfl (fun c => ?_) (fun c => ?_)
  · replace h := mm_it h c
    clear c
    exact mm_sub [] rfl (s_X5_addTenant_J29  h)
  · replace h := mm_if h c
    clear c
    refine mm_iload_n 1 dX5_addTenant_4 rfl rfl (pc' := 5) rfl ?_
    refine mm_iconst dX5_addTenant_5 ki_5 (pc' := 6) rfl ?_
    refine mm_icmp_gt (tgt := 29) dX5_addTenant_6 (by decide) (pc' := 9) rfl (fun c => ?_) (fun c => ?_)
    · replace h := mm_it h c
      clear c
      exact mm_sub [] rfl (s_X5_addTenant_J29  h)
    · replace h := mm_if h c
      clear c
      refine mm_iload_n 2 dX5_addTenant_9 rfl rfl (pc' := 10) rfl ?_
      refine mm_if_lt (tgt := 29) dX5_addTenant_10 (by decide) (pc' := 13) rfl (fun c => ?_) (fun c => ?_)
      · replace h := mm_it h c
        clear c
        exact mm_sub [] rfl (s_X5_addTenant_J29  h)
      · replace h := mm_if h c
        clear c
        refine mm_iload_n 2 dX5_addTenant_13 rfl rfl (pc' := 14) rfl ?_
        refine mm_bipush dX5_addTenant_14 kb_9 (pc' := 16) rfl ?_
        refine mm_icmp_gt (tgt := 29) dX5_addTenant_16 (by decide) (pc' := 19) rfl (fun c => ?_) (fun c => ?_)
        · replace h := mm_it h c
          clear c
          exact mm_sub [] rfl (s_X5_addTenant_J29  h)
        · replace h := mm_if h c
          clear c
          refine mm_iload_n 3 dX5_addTenant_19 rfl rfl (pc' := 20) rfl ?_
          refine mm_if_lt (tgt := 29) dX5_addTenant_20 (by decide) (pc' := 23) rfl (fun c => ?_) (fun c => ?_)
          · replace h := mm_it h c
            clear c
            exact mm_sub [] rfl (s_X5_addTenant_J29  h)
          · replace h := mm_if h c
            clear c
            refine mm_iload_n 3 dX5_addTenant_23 rfl rfl (pc' := 24) rfl ?_
            refine mm_bipush dX5_addTenant_24 kb_99 (pc' := 26) rfl ?_
            refine mm_icmp_le (tgt := 32) dX5_addTenant_26 (by decide) (pc' := 29) rfl (fun c => ?_) (fun c => ?_)
            · replace h := mm_it h c
              clear c
              refine mm_aload_n 0 dX5_addTenant_32 rfl rfl (pc' := 33) rfl ?_
              refine mm_getf fG_X5_21 dX5_addTenant_33 rfl rfl (pc' := 36) rfl ?_
              refine mm_bipush dX5_addTenant_36 kb_6 (pc' := 38) rfl ?_
              refine mm_icmp_lt (tgt := 44) dX5_addTenant_38 (by decide) (pc' := 41) rfl (fun c => ?_) (fun c => ?_)
              · replace h := mm_it h c
                clear c
                refine mm_aload_n 0 dX5_addTenant_44 rfl rfl (pc' := 45) rfl ?_
                refine mm_getf fG_X5_30 dX5_addTenant_45 rfl rfl (pc' := 48) rfl ?_
                refine mm_aload_n 0 dX5_addTenant_48 rfl rfl (pc' := 49) rfl ?_
                refine mm_getf fG_X5_21 dX5_addTenant_49 rfl rfl (pc' := 52) rfl ?_
                refine mm_iload_n 1 dX5_addTenant_52 rfl rfl (pc' := 53) rfl ?_
                obtain ⟨c53, h⟩ := mm_ck_of h
                refine mm_iast dX5_addTenant_53 rfl c53 rfl (ws' := (W_X5 q_wide q_high q_slackNow q_tenants q_letters q_readings (upd q_kinds q_tenants.toNatClampNeg v1) q_painOf q_payFor q_refused q_owned q_litIn q_shapes q_readAt q_meant q_readSo)) rfl (pc' := 54) rfl ?_
                clear c53
                refine mm_aload_n 0 dX5_addTenant_54 rfl rfl (pc' := 55) rfl ?_
                refine mm_getf fG_X5_34 dX5_addTenant_55 rfl rfl (pc' := 58) rfl ?_
                refine mm_aload_n 0 dX5_addTenant_58 rfl rfl (pc' := 59) rfl ?_
                refine mm_getf fG_X5_21 dX5_addTenant_59 rfl rfl (pc' := 62) rfl ?_
                refine mm_iload_n 2 dX5_addTenant_62 rfl rfl (pc' := 63) rfl ?_
                obtain ⟨c63, h⟩ := mm_ck_of h
                refine mm_iast dX5_addTenant_63 rfl c63 rfl (ws' := (W_X5 q_wide q_high q_slackNow q_tenants q_letters q_readings (upd q_kinds q_tenants.toNatClampNeg v1) (upd q_painOf q_tenants.toNatClampNeg v2) q_payFor q_refused q_owned q_litIn q_shapes q_readAt q_meant q_readSo)) rfl (pc' := 64) rfl ?_
                clear c63
                refine mm_aload_n 0 dX5_addTenant_64 rfl rfl (pc' := 65) rfl ?_
                refine mm_getf fG_X5_37 dX5_addTenant_65 rfl rfl (pc' := 68) rfl ?_
                refine mm_aload_n 0 dX5_addTenant_68 rfl rfl (pc' := 69) rfl ?_
                refine mm_getf fG_X5_21 dX5_addTenant_69 rfl rfl (pc' := 72) rfl ?_
                refine mm_iload_n 3 dX5_addTenant_72 rfl rfl (pc' := 73) rfl ?_
                obtain ⟨c73, h⟩ := mm_ck_of h
                refine mm_iast dX5_addTenant_73 rfl c73 rfl (ws' := (W_X5 q_wide q_high q_slackNow q_tenants q_letters q_readings (upd q_kinds q_tenants.toNatClampNeg v1) (upd q_painOf q_tenants.toNatClampNeg v2) (upd q_payFor q_tenants.toNatClampNeg v3) q_refused q_owned q_litIn q_shapes q_readAt q_meant q_readSo)) rfl (pc' := 74) rfl ?_
                clear c73
                refine mm_aload_n 0 dX5_addTenant_74 rfl rfl (pc' := 75) rfl ?_
                refine mm_getf fG_X5_40 dX5_addTenant_75 rfl rfl (pc' := 78) rfl ?_
                refine mm_aload_n 0 dX5_addTenant_78 rfl rfl (pc' := 79) rfl ?_
                refine mm_getf fG_X5_21 dX5_addTenant_79 rfl rfl (pc' := 82) rfl ?_
                refine mm_iconst dX5_addTenant_82 ki_m1 (pc' := 83) rfl ?_
                obtain ⟨c83, h⟩ := mm_ck_of h
                refine mm_iast dX5_addTenant_83 rfl c83 rfl (ws' := (W_X5 q_wide q_high q_slackNow q_tenants q_letters q_readings (upd q_kinds q_tenants.toNatClampNeg v1) (upd q_painOf q_tenants.toNatClampNeg v2) (upd q_payFor q_tenants.toNatClampNeg v3) (upd q_refused q_tenants.toNatClampNeg (-1 : Int32)) q_owned q_litIn q_shapes q_readAt q_meant q_readSo)) rfl (pc' := 84) rfl ?_
                clear c83
                refine mm_aload_n 0 dX5_addTenant_84 rfl rfl (pc' := 85) rfl ?_
                refine mm_getf fG_X5_43 dX5_addTenant_85 rfl rfl (pc' := 88) rfl ?_
                refine mm_aload_n 0 dX5_addTenant_88 rfl rfl (pc' := 89) rfl ?_
                refine mm_getf fG_X5_21 dX5_addTenant_89 rfl rfl (pc' := 92) rfl ?_
                refine mm_lconst dX5_addTenant_92 (by decide : _ = (0 : Int64)) (pc' := 93) rfl ?_
                obtain ⟨c93, h⟩ := mm_ck_of h
                refine mm_last dX5_addTenant_93 rfl c93 rfl (ws' := (W_X5 q_wide q_high q_slackNow q_tenants q_letters q_readings (upd q_kinds q_tenants.toNatClampNeg v1) (upd q_painOf q_tenants.toNatClampNeg v2) (upd q_payFor q_tenants.toNatClampNeg v3) (upd q_refused q_tenants.toNatClampNeg (-1 : Int32)) (vp_updL q_owned q_tenants.toNatClampNeg (0 : Int64)) q_litIn q_shapes q_readAt q_meant q_readSo)) rfl (pc' := 94) rfl ?_
                clear c93
                refine mm_aload_n 0 dX5_addTenant_94 rfl rfl (pc' := 95) rfl ?_
                refine mm_dup dX5_addTenant_95 rfl (pc' := 96) rfl ?_
                refine mm_getf fG_X5_21 dX5_addTenant_96 rfl rfl (pc' := 99) rfl ?_
                refine mm_iconst dX5_addTenant_99 ki_1 (pc' := 100) rfl ?_
                refine mm_iadd dX5_addTenant_100 (pc' := 101) rfl ?_
                refine mm_putf fP_X5_21 dX5_addTenant_101 rfl (by decide) (fun _ => rfl) (fun _ => rfl) (ws' := (W_X5 q_wide q_high q_slackNow (q_tenants + (1 : Int32)) q_letters q_readings (upd q_kinds q_tenants.toNatClampNeg v1) (upd q_painOf q_tenants.toNatClampNeg v2) (upd q_payFor q_tenants.toNatClampNeg v3) (upd q_refused q_tenants.toNatClampNeg (-1 : Int32)) (vp_updL q_owned q_tenants.toNatClampNeg (0 : Int64)) q_litIn q_shapes q_readAt q_meant q_readSo)) rfl (pc' := 104) rfl ?_
                refine mm_aload_n 0 dX5_addTenant_104 rfl rfl (pc' := 105) rfl ?_
                refine mm_getf fG_X5_21 dX5_addTenant_105 rfl rfl (pc' := 108) rfl ?_
                refine mm_iconst dX5_addTenant_108 ki_1 (pc' := 109) rfl ?_
                refine mm_isub dX5_addTenant_109 (pc' := 110) rfl ?_
                cases h
                exact mm_iret rfl dX5_addTenant_110 ⟨rfl, rfl⟩
              · replace h := mm_if h c
                clear c
                refine mm_bipush dX5_addTenant_41 kb_m4 (pc' := 43) rfl ?_
                cases h
                exact mm_iret rfl dX5_addTenant_43 ⟨rfl, rfl⟩
            · replace h := mm_if h c
              clear c
              exact mm_sub [] rfl (s_X5_addTenant_J29  h)
