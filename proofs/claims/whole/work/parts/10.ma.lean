def P_X5_isWindowAt (q_wide : Int32) (q_high : Int32) (q_slackNow : Int32) (q_tenants : Int32) (q_letters : Int32) (q_readings : Int32) (q_kinds : Nat → Int32) (q_painOf : Nat → Int32) (q_payFor : Nat → Int32) (q_refused : Nat → Int32) (q_owned : Nat → Int64) (q_litIn : Nat → Int64) (q_shapes : Nat → Int32) (q_readAt : Nat → Int32) (q_meant : Nat → Int32) (q_readSo : Nat → Int32) (r : Int32) : Option Value → mm_W → Prop := fun rv w => rv = some (.int r) ∧ w = (W_X5 q_wide q_high q_slackNow q_tenants q_letters q_readings q_kinds q_painOf q_payFor q_refused q_owned q_litIn q_shapes q_readAt q_meant q_readSo)
def X5_isWindowAt_J28 (fu : Nat)  (q_wide : Int32) (q_high : Int32)   : Option (Int32) := some ((0 : Int32))
set_option maxHeartbeats 4000000 in
set_option maxRecDepth 100000 in
theorem s_X5_isWindowAt_J28 {fu : Nat} {q_wide : Int32} {q_high : Int32} {q_slackNow : Int32} {q_tenants : Int32} {q_letters : Int32} {q_readings : Int32} {q_kinds : Nat → Int32} {q_painOf : Nat → Int32} {q_payFor : Nat → Int32} {q_refused : Nat → Int32} {q_owned : Nat → Int64} {q_litIn : Nat → Int64} {q_shapes : Nat → Int32} {q_readAt : Nat → Int32} {q_meant : Nat → Int32} {q_readSo : Nat → Int32} {r : Int32} (h : X5_isWindowAt_J28 fu q_wide q_high = some r) : mm_Wp mX5_isWindowAt (mm_R (P_X5_isWindowAt q_wide q_high q_slackNow q_tenants q_letters q_readings q_kinds q_painOf q_payFor q_refused q_owned q_litIn q_shapes q_readAt q_meant q_readSo r)) 0 0 28 [] [] (W_X5 q_wide q_high q_slackNow q_tenants q_letters q_readings q_kinds q_painOf q_payFor q_refused q_owned q_litIn q_shapes q_readAt q_meant q_readSo) := by
  rw [X5_isWindowAt_J28] at h
  refine mm_iconst dX5_isWindowAt_28 ki_0 (pc' := 29) rfl ?_
  have h9 := Option.some.inj h
  subst h9
  exact mm_zret rfl (by decide) dX5_isWindowAt_29 ⟨rfl, rfl⟩
def f_X5_isWindowAt (fu : Nat) (q_wide : Int32) (q_high : Int32) (v1 : Int32) (v2 : Int32) : Option (Int32) := if v1 < 0 then (X5_isWindowAt_J28 fu q_wide q_high) else (if q_wide ≤ v1 then (X5_isWindowAt_J28 fu q_wide q_high) else (if v2 < 0 then (X5_isWindowAt_J28 fu q_wide q_high) else (if q_high ≤ v2 then (X5_isWindowAt_J28 fu q_wide q_high) else (some ((1 : Int32))))))
set_option maxHeartbeats 4000000 in
set_option maxRecDepth 100000 in
theorem ok_X5_isWindowAt {fu : Nat} {q_wide : Int32} {q_high : Int32} {q_slackNow : Int32} {q_tenants : Int32} {q_letters : Int32} {q_readings : Int32} {q_kinds : Nat → Int32} {q_painOf : Nat → Int32} {q_payFor : Nat → Int32} {q_refused : Nat → Int32} {q_owned : Nat → Int64} {q_litIn : Nat → Int64} {q_shapes : Nat → Int32} {q_readAt : Nat → Int32} {q_meant : Nat → Int32} {q_readSo : Nat → Int32} {r : Int32} {v1 : Int32} {v2 : Int32} (h : f_X5_isWindowAt fu q_wide q_high v1 v2 = some r) : mm_Ok mX5_isWindowAt [.ref 0, .int v1, .int v2] (W_X5 q_wide q_high q_slackNow q_tenants q_letters q_readings q_kinds q_painOf q_payFor q_refused q_owned q_litIn q_shapes q_readAt q_meant q_readSo) (P_X5_isWindowAt q_wide q_high q_slackNow q_tenants q_letters q_readings q_kinds q_painOf q_payFor q_refused q_owned q_litIn q_shapes q_readAt q_meant q_readSo r) := by
  rw [f_X5_isWindowAt] at h
  refine mm_Ok.of pn_X5 (l := [(0, .ref 0), (1, .int v1), (2, .int v2)]) rfl (Nat.le_of_ble_eq_true rfl) ?_
  refine mm_iload_n 1 dX5_isWindowAt_0 rfl rfl (pc' := 1) rfl ?_
  refine mm_if_lt (tgt := 28) dX5_isWindowAt_1 (by decide) (pc' := 4) rfl (fun c => ?_) (fun c => ?_)
  · replace h := mm_it h c
    clear c
    exact mm_sub [] rfl (s_X5_isWindowAt_J28  h)
  · replace h := mm_if h c
    clear c
    refine mm_iload_n 1 dX5_isWindowAt_4 rfl rfl (pc' := 5) rfl ?_
    refine mm_aload_n 0 dX5_isWindowAt_5 rfl rfl (pc' := 6) rfl ?_
    refine mm_getf fG_X5_9 dX5_isWindowAt_6 rfl rfl (pc' := 9) rfl ?_
    refine mm_icmp_ge (tgt := 28) dX5_isWindowAt_9 (by decide) (pc' := 12) rfl (fun c => ?_) (fun c => ?_)
    · replace h := mm_it h c
      clear c
      exact mm_sub [] rfl (s_X5_isWindowAt_J28  h)
    · replace h := mm_if h c
      clear c
      refine mm_iload_n 2 dX5_isWindowAt_12 rfl rfl (pc' := 13) rfl ?_
      refine mm_if_lt (tgt := 28) dX5_isWindowAt_13 (by decide) (pc' := 16) rfl (fun c => ?_) (fun c => ?_)
      · replace h := mm_it h c
        clear c
        exact mm_sub [] rfl (s_X5_isWindowAt_J28  h)
      · replace h := mm_if h c
        clear c
        refine mm_iload_n 2 dX5_isWindowAt_16 rfl rfl (pc' := 17) rfl ?_
        refine mm_aload_n 0 dX5_isWindowAt_17 rfl rfl (pc' := 18) rfl ?_
        refine mm_getf fG_X5_15 dX5_isWindowAt_18 rfl rfl (pc' := 21) rfl ?_
        refine mm_icmp_ge (tgt := 28) dX5_isWindowAt_21 (by decide) (pc' := 24) rfl (fun c => ?_) (fun c => ?_)
        · replace h := mm_it h c
          clear c
          exact mm_sub [] rfl (s_X5_isWindowAt_J28  h)
        · replace h := mm_if h c
          clear c
          refine mm_iconst dX5_isWindowAt_24 ki_1 (pc' := 25) rfl ?_
          refine mm_goto (tgt := 29) dX5_isWindowAt_25 (by decide) ?_
          have h9 := Option.some.inj h
          subst h9
          exact mm_zret rfl (by decide) dX5_isWindowAt_29 ⟨rfl, rfl⟩

def P_X5_isWindow (q_wide : Int32) (q_high : Int32) (q_slackNow : Int32) (q_tenants : Int32) (q_letters : Int32) (q_readings : Int32) (q_kinds : Nat → Int32) (q_painOf : Nat → Int32) (q_payFor : Nat → Int32) (q_refused : Nat → Int32) (q_owned : Nat → Int64) (q_litIn : Nat → Int64) (q_shapes : Nat → Int32) (q_readAt : Nat → Int32) (q_meant : Nat → Int32) (q_readSo : Nat → Int32) (r : Int32) : Option Value → mm_W → Prop := fun rv w => rv = some (.int r) ∧ w = (W_X5 q_wide q_high q_slackNow q_tenants q_letters q_readings q_kinds q_painOf q_payFor q_refused q_owned q_litIn q_shapes q_readAt q_meant q_readSo)
def X5_isWindow_J29 (fu : Nat)  (q_wide : Int32) (q_high : Int32)   : Option (Int32) := some ((0 : Int32))
set_option maxHeartbeats 4000000 in
set_option maxRecDepth 100000 in
theorem s_X5_isWindow_J29 {fu : Nat} {q_wide : Int32} {q_high : Int32} {q_slackNow : Int32} {q_tenants : Int32} {q_letters : Int32} {q_readings : Int32} {q_kinds : Nat → Int32} {q_painOf : Nat → Int32} {q_payFor : Nat → Int32} {q_refused : Nat → Int32} {q_owned : Nat → Int64} {q_litIn : Nat → Int64} {q_shapes : Nat → Int32} {q_readAt : Nat → Int32} {q_meant : Nat → Int32} {q_readSo : Nat → Int32} {r : Int32} (h : X5_isWindow_J29 fu q_wide q_high = some r) : mm_Wp mX5_isWindow (mm_R (P_X5_isWindow q_wide q_high q_slackNow q_tenants q_letters q_readings q_kinds q_painOf q_payFor q_refused q_owned q_litIn q_shapes q_readAt q_meant q_readSo r)) 0 0 29 [] [] (W_X5 q_wide q_high q_slackNow q_tenants q_letters q_readings q_kinds q_painOf q_payFor q_refused q_owned q_litIn q_shapes q_readAt q_meant q_readSo) := by
  rw [X5_isWindow_J29] at h
  refine mm_iconst dX5_isWindow_29 ki_0 (pc' := 30) rfl ?_
  have h9 := Option.some.inj h
  subst h9
  exact mm_zret rfl (by decide) dX5_isWindow_30 ⟨rfl, rfl⟩
def f_X5_isWindow (fu : Nat) (q_wide : Int32) (q_high : Int32) (v1 : Int32) : Option (Int32) := if v1 < 0 then (X5_isWindow_J29 fu q_wide q_high) else (if (60 : Int32) ≤ v1 then (X5_isWindow_J29 fu q_wide q_high) else ((f_X5_isWindowAt fu q_wide q_high (v1 - v1 / (12 : Int32) * (12 : Int32)) (v1 / (12 : Int32))).bind fun t19 => if t19 = 0 then (X5_isWindow_J29 fu q_wide q_high) else (some ((1 : Int32)))))
set_option maxHeartbeats 4000000 in
set_option maxRecDepth 100000 in
theorem ok_X5_isWindow {fu : Nat} {q_wide : Int32} {q_high : Int32} {q_slackNow : Int32} {q_tenants : Int32} {q_letters : Int32} {q_readings : Int32} {q_kinds : Nat → Int32} {q_painOf : Nat → Int32} {q_payFor : Nat → Int32} {q_refused : Nat → Int32} {q_owned : Nat → Int64} {q_litIn : Nat → Int64} {q_shapes : Nat → Int32} {q_readAt : Nat → Int32} {q_meant : Nat → Int32} {q_readSo : Nat → Int32} {r : Int32} {v1 : Int32} (h : f_X5_isWindow fu q_wide q_high v1 = some r) : mm_Ok mX5_isWindow [.ref 0, .int v1] (W_X5 q_wide q_high q_slackNow q_tenants q_letters q_readings q_kinds q_painOf q_payFor q_refused q_owned q_litIn q_shapes q_readAt q_meant q_readSo) (P_X5_isWindow q_wide q_high q_slackNow q_tenants q_letters q_readings q_kinds q_painOf q_payFor q_refused q_owned q_litIn q_shapes q_readAt q_meant q_readSo r) := by
  rw [f_X5_isWindow] at h
  refine mm_Ok.of pn_X5 (l := [(0, .ref 0), (1, .int v1)]) rfl (Nat.le_of_ble_eq_true rfl) ?_
  refine mm_iload_n 1 dX5_isWindow_0 rfl rfl (pc' := 1) rfl ?_
  refine mm_if_lt (tgt := 29) dX5_isWindow_1 (by decide) (pc' := 4) rfl (fun c => ?_) (fun c => ?_)
  · replace h := mm_it h c
    clear c
    exact mm_sub [] rfl (s_X5_isWindow_J29  h)
  · replace h := mm_if h c
    clear c
    refine mm_iload_n 1 dX5_isWindow_4 rfl rfl (pc' := 5) rfl ?_
    refine mm_bipush dX5_isWindow_5 kb_60 (pc' := 7) rfl ?_
    refine mm_icmp_ge (tgt := 29) dX5_isWindow_7 (by decide) (pc' := 10) rfl (fun c => ?_) (fun c => ?_)
    · replace h := mm_it h c
      clear c
      exact mm_sub [] rfl (s_X5_isWindow_J29  h)
    · replace h := mm_if h c
      clear c
      refine mm_aload_n 0 dX5_isWindow_10 rfl rfl (pc' := 11) rfl ?_
      refine mm_iload_n 1 dX5_isWindow_11 rfl rfl (pc' := 12) rfl ?_
      refine mm_bipush dX5_isWindow_12 kb_12 (pc' := 14) rfl ?_
      refine mm_irem dX5_isWindow_14 (by decide) (pc' := 15) rfl ?_
      refine mm_iload_n 1 dX5_isWindow_15 rfl rfl (pc' := 16) rfl ?_
      refine mm_bipush dX5_isWindow_16 kb_12 (pc' := 18) rfl ?_
      refine mm_idiv dX5_isWindow_18 (by decide) (pc' := 19) rfl ?_
      obtain ⟨t19, h19, h⟩ := mm_bd h
      refine mm_call0 (As := [.int (v1 - v1 / (12 : Int32) * (12 : Int32)), .int (v1 / (12 : Int32))]) (rest := []) cV_X5_68 (ok_X5_isWindowAt h19) ⟨rfl, rfl, Nat.le_of_ble_eq_true rfl, Nat.le_of_ble_eq_true rfl⟩ dX5_isWindow_19 rfl rfl rfl rfl (by rintro _ _ ⟨-, rfl⟩; rfl) (Nat.le_of_ble_eq_true rfl) ⟨Nat.le_of_ble_eq_true rfl, Nat.le_of_ble_eq_true rfl⟩ (pc' := 22) rfl ?_
      rintro rv w ⟨rfl, rfl⟩
      show mm_Wp _ _ _ _ 22 [(0, .ref 0), (1, .int v1)] [.int t19] (W_X5 q_wide q_high q_slackNow q_tenants q_letters q_readings q_kinds q_painOf q_payFor q_refused q_owned q_litIn q_shapes q_readAt q_meant q_readSo)
      clear h19
      refine mm_if_eq (tgt := 29) dX5_isWindow_22 (by decide) (pc' := 25) rfl (fun c => ?_) (fun c => ?_)
      · replace h := mm_it h c
        clear c
        exact mm_sub [] rfl (s_X5_isWindow_J29  h)
      · replace h := mm_if h c
        clear c
        refine mm_iconst dX5_isWindow_25 ki_1 (pc' := 26) rfl ?_
        refine mm_goto (tgt := 30) dX5_isWindow_26 (by decide) ?_
        have h9 := Option.some.inj h
        subst h9
        exact mm_zret rfl (by decide) dX5_isWindow_30 ⟨rfl, rfl⟩

def P_X7_windowsOf  (r : Int64) : Option Value → mm_W → Prop := fun rv w => rv = some (.long r) ∧ w = []
def X7_windowsOf_L5 (fu : Nat)   (v0 : Int32) (v1 : Int32) : Nat → Int64 → Int32 → Option (Int64)
  | 0, _, _ => none
  | n + 1, v2, v4 => if (4 : Int32) ≤ v4 then (some (v2)) else (mm_let (v2 ||| ((((v0 >>> (((3 : Int32) * v4) &&& 31)) &&& (7 : Int32)).toInt64) <<< ((v1 + ((12 : Int32) * v4)).toInt64 &&& 63))) fun y31 => (X7_windowsOf_L5 fu v0 v1 n) y31 (v4 + (1 : Int32)))
set_option maxHeartbeats 4000000 in
set_option maxRecDepth 100000 in
theorem s_X7_windowsOf_L5 {fu : Nat} {r : Int64} {v0 : Int32} {v1 : Int32} : ∀ (n : Nat) (v2 : Int64) (v4 : Int32), X7_windowsOf_L5 fu v0 v1 n v2 v4 = some r → mm_Wp mX7_windowsOf (mm_R (P_X7_windowsOf r)) 0 0 5 [(0, .int v0), (1, .int v1), (2, .long v2), (4, .int v4)] [] [] := by
  intro n
  induction n with
  | zero =>
    intro v2 v4 h
    rw [X7_windowsOf_L5] at h
    cases h
  | succ n hr5 =>
    intro v2 v4 h
    rw [X7_windowsOf_L5] at h
    refine mm_iload 3 dX7_windowsOf_5 rfl (pc' := 7) rfl ?_
    refine mm_iconst dX7_windowsOf_7 ki_4 (pc' := 8) rfl ?_
    refine mm_icmp_ge (tgt := 38) dX7_windowsOf_8 (by decide) (pc' := 11) rfl (fun c => ?_) (fun c => ?_)
    · replace h := mm_it h c
      clear c
      refine mm_lload_n 2 dX7_windowsOf_38 rfl rfl (pc' := 39) rfl ?_
      have h9 := Option.some.inj h
      subst h9
      exact mm_lret rfl dX7_windowsOf_39 ⟨rfl, rfl⟩
    · replace h := mm_if h c
      clear c
      refine mm_lload_n 2 dX7_windowsOf_11 rfl rfl (pc' := 12) rfl ?_
      refine mm_iload_n 0 dX7_windowsOf_12 rfl rfl (pc' := 13) rfl ?_
      refine mm_iconst dX7_windowsOf_13 ki_3 (pc' := 14) rfl ?_
      refine mm_iload 3 dX7_windowsOf_14 rfl (pc' := 16) rfl ?_
      refine mm_imul dX7_windowsOf_16 (pc' := 17) rfl ?_
      refine mm_ishr dX7_windowsOf_17 (pc' := 18) rfl ?_
      refine mm_bipush dX7_windowsOf_18 kb_7 (pc' := 20) rfl ?_
      refine mm_iand dX7_windowsOf_20 (pc' := 21) rfl ?_
      refine mm_i2l dX7_windowsOf_21 (pc' := 22) rfl ?_
      refine mm_iload_n 1 dX7_windowsOf_22 rfl rfl (pc' := 23) rfl ?_
      refine mm_bipush dX7_windowsOf_23 kb_12 (pc' := 25) rfl ?_
      refine mm_iload 3 dX7_windowsOf_25 rfl (pc' := 27) rfl ?_
      refine mm_imul dX7_windowsOf_27 (pc' := 28) rfl ?_
      refine mm_iadd dX7_windowsOf_28 (pc' := 29) rfl ?_
      refine mm_lshl dX7_windowsOf_29 (pc' := 30) rfl ?_
      refine mm_lor dX7_windowsOf_30 (pc' := 31) rfl ?_
      refine mm_topl (fun y31 e => ?_)
      replace h := mm_let_of h y31 e
      clear e
      refine mm_lstore_n dX7_windowsOf_31 rfl (by decide) (l' := [(2, .long y31), (0, .int v0), (1, .int v1), (4, .int v4)]) rfl (pc' := 32) rfl ?_
      refine mm_iinc 3 dX7_windowsOf_32 rfl ki_1 (by decide) (l' := [(4, .int (v4 + (1 : Int32))), (2, .long y31), (0, .int v0), (1, .int v1)]) rfl (pc' := 35) rfl ?_
      refine mm_goto (tgt := 5) dX7_windowsOf_35 (by decide) ?_
      exact mm_sub [2, 3, 1, 0] rfl (hr5 _ _ h)
def f_X7_windowsOf (fu : Nat) (v0 : Int32) (v1 : Int32) : Option (Int64) := X7_windowsOf_L5 fu v0 v1 fu (0 : Int64) (0 : Int32)
set_option maxHeartbeats 4000000 in
set_option maxRecDepth 100000 in
theorem ok_X7_windowsOf {fu : Nat} {r : Int64} {v0 : Int32} {v1 : Int32} (h : f_X7_windowsOf fu v0 v1 = some r) : mm_Ok mX7_windowsOf [.int v0, .int v1] [] (P_X7_windowsOf r) := by
  rw [f_X7_windowsOf] at h
  refine mm_Ok.of pn_X7 (l := [(0, .int v0), (1, .int v1)]) rfl (Nat.le_of_ble_eq_true rfl) ?_
  refine mm_lconst dX7_windowsOf_0 (by decide : _ = (0 : Int64)) (pc' := 1) rfl ?_
  refine mm_lstore_n dX7_windowsOf_1 rfl (by decide) (l' := [(2, .long (0 : Int64)), (0, .int v0), (1, .int v1)]) rfl (pc' := 2) rfl ?_
  refine mm_iconst dX7_windowsOf_2 ki_0 (pc' := 3) rfl ?_
  refine mm_istore dX7_windowsOf_3 (by decide) (l' := [(4, .int (0 : Int32)), (2, .long (0 : Int64)), (0, .int v0), (1, .int v1)]) rfl (pc' := 5) rfl ?_
  exact mm_sub [2, 3, 1, 0] rfl (s_X7_windowsOf_L5  _ _ _ h)

def P_J6_bitCount_0f7a4  (r : Int32) : Option Value → mm_W → Prop := fun rv w => rv = some (.int r) ∧ w = []
def f_J6_bitCount_0f7a4 (fu : Nat) (v0 : Int32) : Option (Int32) := mm_let (v0 - (((v0.toUInt32 >>> ((1 : Int32).toUInt32 &&& Int32.toUInt32 31)).toInt32) &&& (1431655765 : Int32))) fun y9 => mm_let ((y9 &&& (858993459 : Int32)) + (((y9.toUInt32 >>> ((2 : Int32).toUInt32 &&& Int32.toUInt32 31)).toInt32) &&& (858993459 : Int32))) fun y23 => mm_let ((y23 + ((y23.toUInt32 >>> ((4 : Int32).toUInt32 &&& Int32.toUInt32 31)).toInt32)) &&& (252645135 : Int32)) fun y33 => mm_let (y33 + ((y33.toUInt32 >>> ((8 : Int32).toUInt32 &&& Int32.toUInt32 31)).toInt32)) fun y40 => mm_let (y40 + ((y40.toUInt32 >>> ((16 : Int32).toUInt32 &&& Int32.toUInt32 31)).toInt32)) fun y47 => some ((y47 &&& (63 : Int32)))
set_option maxHeartbeats 4000000 in
set_option maxRecDepth 100000 in
theorem ok_J6_bitCount_0f7a4 {fu : Nat} {r : Int32} {v0 : Int32} (h : f_J6_bitCount_0f7a4 fu v0 = some r) : mm_Ok mJ6_bitCount_0f7a4 [.int v0] [] (P_J6_bitCount_0f7a4 r) := by
  rw [f_J6_bitCount_0f7a4] at h
  refine mm_Ok.of pn_J6 (l := [(0, .int v0)]) rfl (Nat.le_of_ble_eq_true rfl) ?_
  refine mm_iload_n 0 dJ6_bitCount_0f7a4_0 rfl rfl (pc' := 1) rfl ?_
  refine mm_iload_n 0 dJ6_bitCount_0f7a4_1 rfl rfl (pc' := 2) rfl ?_
  refine mm_iconst dJ6_bitCount_0f7a4_2 ki_1 (pc' := 3) rfl ?_
  refine mm_iushr dJ6_bitCount_0f7a4_3 (pc' := 4) rfl ?_
  refine mm_ldcw kC_J6_265 dJ6_bitCount_0f7a4_4 (pc' := 7) rfl ?_
  refine mm_iand dJ6_bitCount_0f7a4_7 (pc' := 8) rfl ?_
  refine mm_isub dJ6_bitCount_0f7a4_8 (pc' := 9) rfl ?_
  refine mm_topi (fun y9 e => ?_)
  replace h := mm_let_of h y9 e
  clear e
  refine mm_istore_n dJ6_bitCount_0f7a4_9 rfl (by decide) (l' := [(0, .int y9)]) rfl (pc' := 10) rfl ?_
  refine mm_iload_n 0 dJ6_bitCount_0f7a4_10 rfl rfl (pc' := 11) rfl ?_
  refine mm_ldcw kC_J6_266 dJ6_bitCount_0f7a4_11 (pc' := 14) rfl ?_
  refine mm_iand dJ6_bitCount_0f7a4_14 (pc' := 15) rfl ?_
  refine mm_iload_n 0 dJ6_bitCount_0f7a4_15 rfl rfl (pc' := 16) rfl ?_
  refine mm_iconst dJ6_bitCount_0f7a4_16 ki_2 (pc' := 17) rfl ?_
  refine mm_iushr dJ6_bitCount_0f7a4_17 (pc' := 18) rfl ?_
  refine mm_ldcw kC_J6_266 dJ6_bitCount_0f7a4_18 (pc' := 21) rfl ?_
  refine mm_iand dJ6_bitCount_0f7a4_21 (pc' := 22) rfl ?_
  refine mm_iadd dJ6_bitCount_0f7a4_22 (pc' := 23) rfl ?_
  refine mm_topi (fun y23 e => ?_)
  replace h := mm_let_of h y23 e
  clear e
  refine mm_istore_n dJ6_bitCount_0f7a4_23 rfl (by decide) (l' := [(0, .int y23)]) rfl (pc' := 24) rfl ?_
  refine mm_iload_n 0 dJ6_bitCount_0f7a4_24 rfl rfl (pc' := 25) rfl ?_
  refine mm_iload_n 0 dJ6_bitCount_0f7a4_25 rfl rfl (pc' := 26) rfl ?_
  refine mm_iconst dJ6_bitCount_0f7a4_26 ki_4 (pc' := 27) rfl ?_
  refine mm_iushr dJ6_bitCount_0f7a4_27 (pc' := 28) rfl ?_
  refine mm_iadd dJ6_bitCount_0f7a4_28 (pc' := 29) rfl ?_
  refine mm_ldcw kC_J6_267 dJ6_bitCount_0f7a4_29 (pc' := 32) rfl ?_
  refine mm_iand dJ6_bitCount_0f7a4_32 (pc' := 33) rfl ?_
  refine mm_topi (fun y33 e => ?_)
  replace h := mm_let_of h y33 e
  clear e
  refine mm_istore_n dJ6_bitCount_0f7a4_33 rfl (by decide) (l' := [(0, .int y33)]) rfl (pc' := 34) rfl ?_
  refine mm_iload_n 0 dJ6_bitCount_0f7a4_34 rfl rfl (pc' := 35) rfl ?_
  refine mm_iload_n 0 dJ6_bitCount_0f7a4_35 rfl rfl (pc' := 36) rfl ?_
  refine mm_bipush dJ6_bitCount_0f7a4_36 kb_8 (pc' := 38) rfl ?_
  refine mm_iushr dJ6_bitCount_0f7a4_38 (pc' := 39) rfl ?_
  refine mm_iadd dJ6_bitCount_0f7a4_39 (pc' := 40) rfl ?_
  refine mm_topi (fun y40 e => ?_)
  replace h := mm_let_of h y40 e
  clear e
  refine mm_istore_n dJ6_bitCount_0f7a4_40 rfl (by decide) (l' := [(0, .int y40)]) rfl (pc' := 41) rfl ?_
  refine mm_iload_n 0 dJ6_bitCount_0f7a4_41 rfl rfl (pc' := 42) rfl ?_
  refine mm_iload_n 0 dJ6_bitCount_0f7a4_42 rfl rfl (pc' := 43) rfl ?_
  refine mm_bipush dJ6_bitCount_0f7a4_43 kb_16 (pc' := 45) rfl ?_
  refine mm_iushr dJ6_bitCount_0f7a4_45 (pc' := 46) rfl ?_
  refine mm_iadd dJ6_bitCount_0f7a4_46 (pc' := 47) rfl ?_
  refine mm_topi (fun y47 e => ?_)
  replace h := mm_let_of h y47 e
  clear e
  refine mm_istore_n dJ6_bitCount_0f7a4_47 rfl (by decide) (l' := [(0, .int y47)]) rfl (pc' := 48) rfl ?_
  refine mm_iload_n 0 dJ6_bitCount_0f7a4_48 rfl rfl (pc' := 49) rfl ?_
  refine mm_bipush dJ6_bitCount_0f7a4_49 kb_63 (pc' := 51) rfl ?_
  refine mm_iand dJ6_bitCount_0f7a4_51 (pc' := 52) rfl ?_
  have h9 := Option.some.inj h
  subst h9
  exact mm_iret rfl dJ6_bitCount_0f7a4_52 ⟨rfl, rfl⟩

def P_X5_readAs (q_wide : Int32) (q_high : Int32) (q_slackNow : Int32) (q_tenants : Int32) (q_letters : Int32) (q_readings : Int32) (q_kinds : Nat → Int32) (q_painOf : Nat → Int32) (q_payFor : Nat → Int32) (q_refused : Nat → Int32) (q_owned : Nat → Int64) (q_litIn : Nat → Int64) (q_shapes : Nat → Int32) (q_readAt : Nat → Int32) (q_meant : Nat → Int32) (q_readSo : Nat → Int32) (r : Int32) : Option Value → mm_W → Prop := fun rv w => rv = some (.int r) ∧ w = (W_X5 q_wide q_high q_slackNow q_tenants q_letters q_readings q_kinds q_painOf q_payFor q_refused q_owned q_litIn q_shapes q_readAt q_meant q_readSo)
def X5_readAs_J58 (fu : Nat) (rec12 : Int32 → Int32 → Int32 → Option (Int32)) (q_slackNow : Int32) (q_letters : Int32) (q_shapes : Nat → Int32) (v1 : Int32) (v2 : Int32) (v3 : Int32) (v4 : Int32)  : Option (Int32) := rec12 v2 v3 (v4 + (1 : Int32))
set_option maxHeartbeats 4000000 in
set_option maxRecDepth 100000 in
theorem s_X5_readAs_J58 {fu : Nat} {q_wide : Int32} {q_high : Int32} {q_slackNow : Int32} {q_tenants : Int32} {q_letters : Int32} {q_readings : Int32} {q_kinds : Nat → Int32} {q_painOf : Nat → Int32} {q_payFor : Nat → Int32} {q_refused : Nat → Int32} {q_owned : Nat → Int64} {q_litIn : Nat → Int64} {q_shapes : Nat → Int32} {q_readAt : Nat → Int32} {q_meant : Nat → Int32} {q_readSo : Nat → Int32} {r : Int32} {rec12 : Int32 → Int32 → Int32 → Option (Int32)} {v1 : Int32} {v2 : Int32} {v3 : Int32} {v4 : Int32} (hr12 : ∀ (y2 : Int32) (y3 : Int32) (y4 : Int32), rec12 y2 y3 y4 = some r → mm_Wp mX5_readAs (mm_R (P_X5_readAs q_wide q_high q_slackNow q_tenants q_letters q_readings q_kinds q_painOf q_payFor q_refused q_owned q_litIn q_shapes q_readAt q_meant q_readSo r)) 0 0 12 [(0, .ref 0), (1, .int v1), (2, .int y2), (3, .int y3), (4, .int y4)] [] (W_X5 q_wide q_high q_slackNow q_tenants q_letters q_readings q_kinds q_painOf q_payFor q_refused q_owned q_litIn q_shapes q_readAt q_meant q_readSo)) (h : X5_readAs_J58 fu rec12 q_slackNow q_letters q_shapes v1 v2 v3 v4 = some r) : mm_Wp mX5_readAs (mm_R (P_X5_readAs q_wide q_high q_slackNow q_tenants q_letters q_readings q_kinds q_painOf q_payFor q_refused q_owned q_litIn q_shapes q_readAt q_meant q_readSo r)) 0 0 58 [(0, .ref 0), (1, .int v1), (2, .int v2), (3, .int v3), (4, .int v4)] [] (W_X5 q_wide q_high q_slackNow q_tenants q_letters q_readings q_kinds q_painOf q_payFor q_refused q_owned q_litIn q_shapes q_readAt q_meant q_readSo) := by
  rw [X5_readAs_J58] at h
  refine mm_iinc 4 dX5_readAs_58 rfl ki_1 (by decide) (l' := [(4, .int (v4 + (1 : Int32))), (0, .ref 0), (1, .int v1), (2, .int v2), (3, .int v3)]) rfl (pc' := 61) rfl ?_
  refine mm_goto (tgt := 12) dX5_readAs_61 (by decide) ?_
  exact mm_sub [1, 2, 3, 4, 0] rfl (hr12 _ _ _ h)
def X5_readAs_L12 (fu : Nat)  (q_slackNow : Int32) (q_letters : Int32) (q_shapes : Nat → Int32) (v1 : Int32) : Nat → Int32 → Int32 → Int32 → Option (Int32)
  | 0, _, _, _ => none
  | n + 1, v2, v3, v4 => if q_letters ≤ v4 then (some (v3)) else (mm_rd q_shapes 6 v4 fun x28 => (f_J6_bitCount_0f7a4 fu (v1 ^^^ x28)).bind fun t30 => if v2 ≤ t30 then (if t30 = v2 then (X5_readAs_J58 fu (X5_readAs_L12 fu q_slackNow q_letters q_shapes v1 n) q_slackNow q_letters q_shapes v1 v2 (-1 : Int32) v4) else (X5_readAs_J58 fu (X5_readAs_L12 fu q_slackNow q_letters q_shapes v1 n) q_slackNow q_letters q_shapes v1 v2 v3 v4)) else (X5_readAs_J58 fu (X5_readAs_L12 fu q_slackNow q_letters q_shapes v1 n) q_slackNow q_letters q_shapes v1 t30 v4 v4))
set_option maxHeartbeats 4000000 in
set_option maxRecDepth 100000 in
theorem s_X5_readAs_L12 {fu : Nat} {q_wide : Int32} {q_high : Int32} {q_slackNow : Int32} {q_tenants : Int32} {q_letters : Int32} {q_readings : Int32} {q_kinds : Nat → Int32} {q_painOf : Nat → Int32} {q_payFor : Nat → Int32} {q_refused : Nat → Int32} {q_owned : Nat → Int64} {q_litIn : Nat → Int64} {q_shapes : Nat → Int32} {q_readAt : Nat → Int32} {q_meant : Nat → Int32} {q_readSo : Nat → Int32} {r : Int32} {v1 : Int32} : ∀ (n : Nat) (v2 : Int32) (v3 : Int32) (v4 : Int32), X5_readAs_L12 fu q_slackNow q_letters q_shapes v1 n v2 v3 v4 = some r → mm_Wp mX5_readAs (mm_R (P_X5_readAs q_wide q_high q_slackNow q_tenants q_letters q_readings q_kinds q_painOf q_payFor q_refused q_owned q_litIn q_shapes q_readAt q_meant q_readSo r)) 0 0 12 [(0, .ref 0), (1, .int v1), (2, .int v2), (3, .int v3), (4, .int v4)] [] (W_X5 q_wide q_high q_slackNow q_tenants q_letters q_readings q_kinds q_painOf q_payFor q_refused q_owned q_litIn q_shapes q_readAt q_meant q_readSo) := by
  intro n
  induction n with
  | zero =>
    intro v2 v3 v4 h
    rw [X5_readAs_L12] at h
    cases h
  | succ n hr12 =>
    intro v2 v3 v4 h
    rw [X5_readAs_L12] at h
    refine mm_iload 4 dX5_readAs_12 rfl (pc' := 14) rfl ?_
    refine mm_aload_n 0 dX5_readAs_14 rfl rfl (pc' := 15) rfl ?_
    refine mm_getf fG_X5_24 dX5_readAs_15 rfl rfl (pc' := 18) rfl ?_
    refine mm_icmp_ge (tgt := 64) dX5_readAs_18 (by decide) (pc' := 21) rfl (fun c => ?_) (fun c => ?_)
    · replace h := mm_it h c
      clear c
      refine mm_iload_n 3 dX5_readAs_64 rfl rfl (pc' := 65) rfl ?_
      have h9 := Option.some.inj h
      subst h9
      exact mm_iret rfl dX5_readAs_65 ⟨rfl, rfl⟩
    · replace h := mm_if h c
      clear c
      refine mm_iload_n 1 dX5_readAs_21 rfl rfl (pc' := 22) rfl ?_
      refine mm_aload_n 0 dX5_readAs_22 rfl rfl (pc' := 23) rfl ?_
      refine mm_getf fG_X5_50 dX5_readAs_23 rfl rfl (pc' := 26) rfl ?_
      refine mm_iload 4 dX5_readAs_26 rfl (pc' := 28) rfl ?_
      obtain ⟨x28, c28, e28, h⟩ := mm_rd_of h
      refine mm_iald dX5_readAs_28 rfl c28 e28 (pc' := 29) rfl ?_
      clear c28 e28
      refine mm_ixor dX5_readAs_29 (pc' := 30) rfl ?_
      obtain ⟨t30, h30, h⟩ := mm_bd h
      refine mm_callS (As := [.int (v1 ^^^ x28)]) (rest := []) (av := [.int (v1 ^^^ x28)]) (wc := []) (is := []) cS_X5_107 (ok_J6_bitCount_0f7a4 h30) ⟨rfl, rfl, Nat.le_of_ble_eq_true rfl, Nat.le_of_ble_eq_true rfl⟩ dX5_readAs_30 rfl rfl rfl ⟨rfl, by decide, by decide⟩ (by rintro _ _ ⟨-, rfl⟩; rfl) (Nat.le_of_ble_eq_true rfl) ⟨Nat.le_of_ble_eq_true rfl, Nat.le_of_ble_eq_true rfl⟩ (pc' := 33) rfl ?_
      rintro rv w ⟨rfl, rfl⟩
      show mm_Wp _ _ _ _ 33 [(0, .ref 0), (1, .int v1), (2, .int v2), (3, .int v3), (4, .int v4)] [.int t30] (W_X5 q_wide q_high q_slackNow q_tenants q_letters q_readings q_kinds q_painOf q_payFor q_refused q_owned q_litIn q_shapes q_readAt q_meant q_readSo)
      clear h30
      refine mm_istore dX5_readAs_33 (by decide) (l' := [(5, .int t30), (0, .ref 0), (1, .int v1), (2, .int v2), (3, .int v3), (4, .int v4)]) rfl (pc' := 35) rfl ?_
      refine mm_iload 0 dX5_readAs_35 rfl (pc' := 37) rfl ?_
      refine mm_iload_n 3 dX5_readAs_37 rfl rfl (pc' := 38) rfl ?_
      refine mm_icmp_ge (tgt := 50) dX5_readAs_38 (by decide) (pc' := 41) rfl (fun c => ?_) (fun c => ?_)
      · replace h := mm_it h c
        clear c
        refine mm_iload 0 dX5_readAs_50 rfl (pc' := 52) rfl ?_
        refine mm_iload_n 3 dX5_readAs_52 rfl rfl (pc' := 53) rfl ?_
        refine mm_icmp_ne (tgt := 58) dX5_readAs_53 (by decide) (pc' := 56) rfl (fun c => ?_) (fun c => ?_)
        · replace h := mm_if h c
          clear c
          exact mm_sub [1, 2, 3, 4, 5] rfl (s_X5_readAs_J58 (hr12 := hr12) h)
        · replace h := mm_it h c
          clear c
          refine mm_iconst dX5_readAs_56 ki_m1 (pc' := 57) rfl ?_
          refine mm_istore_n dX5_readAs_57 rfl (by decide) (l' := [(3, .int (-1 : Int32)), (5, .int t30), (0, .ref 0), (1, .int v1), (2, .int v2), (4, .int v4)]) rfl (pc' := 58) rfl ?_
          exact mm_sub [2, 3, 4, 0, 5] rfl (s_X5_readAs_J58 (hr12 := hr12) h)
      · replace h := mm_if h c
        clear c
        refine mm_iload 0 dX5_readAs_41 rfl (pc' := 43) rfl ?_
        refine mm_istore_n dX5_readAs_43 rfl (by decide) (l' := [(2, .int t30), (5, .int t30), (0, .ref 0), (1, .int v1), (3, .int v3), (4, .int v4)]) rfl (pc' := 44) rfl ?_
        refine mm_iload 5 dX5_readAs_44 rfl (pc' := 46) rfl ?_
        refine mm_istore_n dX5_readAs_46 rfl (by decide) (l' := [(3, .int v4), (2, .int t30), (5, .int t30), (0, .ref 0), (1, .int v1), (4, .int v4)]) rfl (pc' := 47) rfl ?_
        refine mm_goto (tgt := 58) dX5_readAs_47 (by decide) ?_
        exact mm_sub [3, 4, 1, 0, 5] rfl (s_X5_readAs_J58 (hr12 := hr12) h)
def f_X5_readAs (fu : Nat) (q_slackNow : Int32) (q_letters : Int32) (q_shapes : Nat → Int32) (v1 : Int32) : Option (Int32) := X5_readAs_L12 fu q_slackNow q_letters q_shapes v1 fu (q_slackNow + (1 : Int32)) (-1 : Int32) (0 : Int32)
set_option maxHeartbeats 4000000 in
set_option maxRecDepth 100000 in
theorem ok_X5_readAs {fu : Nat} {q_wide : Int32} {q_high : Int32} {q_slackNow : Int32} {q_tenants : Int32} {q_letters : Int32} {q_readings : Int32} {q_kinds : Nat → Int32} {q_painOf : Nat → Int32} {q_payFor : Nat → Int32} {q_refused : Nat → Int32} {q_owned : Nat → Int64} {q_litIn : Nat → Int64} {q_shapes : Nat → Int32} {q_readAt : Nat → Int32} {q_meant : Nat → Int32} {q_readSo : Nat → Int32} {r : Int32} {v1 : Int32} (h : f_X5_readAs fu q_slackNow q_letters q_shapes v1 = some r) : mm_Ok mX5_readAs [.ref 0, .int v1] (W_X5 q_wide q_high q_slackNow q_tenants q_letters q_readings q_kinds q_painOf q_payFor q_refused q_owned q_litIn q_shapes q_readAt q_meant q_readSo) (P_X5_readAs q_wide q_high q_slackNow q_tenants q_letters q_readings q_kinds q_painOf q_payFor q_refused q_owned q_litIn q_shapes q_readAt q_meant q_readSo r) := by
  rw [f_X5_readAs] at h
  refine mm_Ok.of pn_X5 (l := [(0, .ref 0), (1, .int v1)]) rfl (Nat.le_of_ble_eq_true rfl) ?_
  refine mm_aload_n 0 dX5_readAs_0 rfl rfl (pc' := 1) rfl ?_
  refine mm_getf fG_X5_18 dX5_readAs_1 rfl rfl (pc' := 4) rfl ?_
  refine mm_iconst dX5_readAs_4 ki_1 (pc' := 5) rfl ?_
  refine mm_iadd dX5_readAs_5 (pc' := 6) rfl ?_
  refine mm_istore_n dX5_readAs_6 rfl (by decide) (l' := [(2, .int (q_slackNow + (1 : Int32))), (0, .ref 0), (1, .int v1)]) rfl (pc' := 7) rfl ?_
  refine mm_iconst dX5_readAs_7 ki_m1 (pc' := 8) rfl ?_
  refine mm_istore_n dX5_readAs_8 rfl (by decide) (l' := [(3, .int (-1 : Int32)), (2, .int (q_slackNow + (1 : Int32))), (0, .ref 0), (1, .int v1)]) rfl (pc' := 9) rfl ?_
  refine mm_iconst dX5_readAs_9 ki_0 (pc' := 10) rfl ?_
  refine mm_istore dX5_readAs_10 (by decide) (l' := [(4, .int (0 : Int32)), (3, .int (-1 : Int32)), (2, .int (q_slackNow + (1 : Int32))), (0, .ref 0), (1, .int v1)]) rfl (pc' := 12) rfl ?_
  exact mm_sub [3, 4, 2, 1, 0] rfl (s_X5_readAs_L12  _ _ _ _ h)

def P_X7_shapeIn  (r : Int32) : Option Value → mm_W → Prop := fun rv w => rv = some (.int r) ∧ w = []
def X7_shapeIn_L5 (fu : Nat)   (v0 : Int64) (v2 : Int32) : Nat → Int32 → Int32 → Option (Int32)
  | 0, _, _ => none
  | n + 1, v3, v4 => if (4 : Int32) ≤ v4 then (some (v3)) else (mm_let (v3 ||| (((((v0.toUInt64 >>> ((v2 + ((12 : Int32) * v4)).toInt64.toUInt64 &&& Int64.toUInt64 63)).toInt64) &&& (7 : Int64)).toInt32) <<< (((3 : Int32) * v4) &&& 31))) fun y32 => (X7_shapeIn_L5 fu v0 v2 n) y32 (v4 + (1 : Int32)))
set_option maxHeartbeats 4000000 in
set_option maxRecDepth 100000 in
theorem s_X7_shapeIn_L5 {fu : Nat} {r : Int32} {v0 : Int64} {v2 : Int32} : ∀ (n : Nat) (v3 : Int32) (v4 : Int32), X7_shapeIn_L5 fu v0 v2 n v3 v4 = some r → mm_Wp mX7_shapeIn (mm_R (P_X7_shapeIn r)) 0 0 5 [(0, .long v0), (2, .int v2), (3, .int v3), (4, .int v4)] [] [] := by
  intro n
  induction n with
  | zero =>
    intro v3 v4 h
    rw [X7_shapeIn_L5] at h
    cases h
  | succ n hr5 =>
    intro v3 v4 h
    rw [X7_shapeIn_L5] at h
    refine mm_iload 3 dX7_shapeIn_5 rfl (pc' := 7) rfl ?_
    refine mm_iconst dX7_shapeIn_7 ki_4 (pc' := 8) rfl ?_
    refine mm_icmp_ge (tgt := 39) dX7_shapeIn_8 (by decide) (pc' := 11) rfl (fun c => ?_) (fun c => ?_)
    · replace h := mm_it h c
      clear c
      refine mm_iload_n 2 dX7_shapeIn_39 rfl rfl (pc' := 40) rfl ?_
      have h9 := Option.some.inj h
      subst h9
      exact mm_iret rfl dX7_shapeIn_40 ⟨rfl, rfl⟩
    · replace h := mm_if h c
      clear c
      refine mm_iload_n 2 dX7_shapeIn_11 rfl rfl (pc' := 12) rfl ?_
      refine mm_lload_n 0 dX7_shapeIn_12 rfl rfl (pc' := 13) rfl ?_
      refine mm_iload_n 1 dX7_shapeIn_13 rfl rfl (pc' := 14) rfl ?_
      refine mm_bipush dX7_shapeIn_14 kb_12 (pc' := 16) rfl ?_
      refine mm_iload 3 dX7_shapeIn_16 rfl (pc' := 18) rfl ?_
      refine mm_imul dX7_shapeIn_18 (pc' := 19) rfl ?_
      refine mm_iadd dX7_shapeIn_19 (pc' := 20) rfl ?_
      refine mm_lushr dX7_shapeIn_20 (pc' := 21) rfl ?_
      refine mm_ldc2 kC_X7_272 dX7_shapeIn_21 (pc' := 24) rfl ?_
      refine mm_land dX7_shapeIn_24 (pc' := 25) rfl ?_
      refine mm_l2i dX7_shapeIn_25 (pc' := 26) rfl ?_
      refine mm_iconst dX7_shapeIn_26 ki_3 (pc' := 27) rfl ?_
      refine mm_iload 3 dX7_shapeIn_27 rfl (pc' := 29) rfl ?_
      refine mm_imul dX7_shapeIn_29 (pc' := 30) rfl ?_
      refine mm_ishl dX7_shapeIn_30 (pc' := 31) rfl ?_
      refine mm_ior dX7_shapeIn_31 (pc' := 32) rfl ?_
      refine mm_topi (fun y32 e => ?_)
      replace h := mm_let_of h y32 e
      clear e
      refine mm_istore_n dX7_shapeIn_32 rfl (by decide) (l' := [(3, .int y32), (0, .long v0), (2, .int v2), (4, .int v4)]) rfl (pc' := 33) rfl ?_
      refine mm_iinc 3 dX7_shapeIn_33 rfl ki_1 (by decide) (l' := [(4, .int (v4 + (1 : Int32))), (3, .int y32), (0, .long v0), (2, .int v2)]) rfl (pc' := 36) rfl ?_
      refine mm_goto (tgt := 5) dX7_shapeIn_36 (by decide) ?_
      exact mm_sub [2, 3, 1, 0] rfl (hr5 _ _ h)
def f_X7_shapeIn (fu : Nat) (v0 : Int64) (v2 : Int32) : Option (Int32) := X7_shapeIn_L5 fu v0 v2 fu (0 : Int32) (0 : Int32)
set_option maxHeartbeats 4000000 in
set_option maxRecDepth 100000 in
theorem ok_X7_shapeIn {fu : Nat} {r : Int32} {v0 : Int64} {v2 : Int32} (h : f_X7_shapeIn fu v0 v2 = some r) : mm_Ok mX7_shapeIn [.long v0, .int v2] [] (P_X7_shapeIn r) := by
  rw [f_X7_shapeIn] at h
  refine mm_Ok.of pn_X7 (l := [(0, .long v0), (2, .int v2)]) rfl (Nat.le_of_ble_eq_true rfl) ?_
  refine mm_iconst dX7_shapeIn_0 ki_0 (pc' := 1) rfl ?_
  refine mm_istore_n dX7_shapeIn_1 rfl (by decide) (l' := [(3, .int (0 : Int32)), (0, .long v0), (2, .int v2)]) rfl (pc' := 2) rfl ?_
  refine mm_iconst dX7_shapeIn_2 ki_0 (pc' := 3) rfl ?_
  refine mm_istore dX7_shapeIn_3 (by decide) (l' := [(4, .int (0 : Int32)), (3, .int (0 : Int32)), (0, .long v0), (2, .int v2)]) rfl (pc' := 5) rfl ?_
  exact mm_sub [2, 3, 1, 0] rfl (s_X7_shapeIn_L5  _ _ _ h)

def P_X3_packFrom (q_y : Int32) (q_boxes : Int32) (q_lastColumn : Int32) (q_lastTop : Int32) (r : (Nat → Int32)) : Option Value → mm_W → Prop := fun rv w => rv = none ∧ w = (W_X3 q_y q_boxes q_lastColumn q_lastTop r)
def X3_packFrom_L2 (fu : Nat)  (q_boxes : Int32) (v1 : Int32) (v2 : Int32) : Nat → (Nat → Int32) → Int32 → Option ((Nat → Int32))
  | 0, _, _ => none
  | n + 1, q_columns, v3 => if q_boxes ≤ v3 then (some (q_columns)) else (mm_ck 3 v3 ((X3_packFrom_L2 fu q_boxes v1 v2 n) (upd q_columns v3.toNatClampNeg (v2 + ((4 : Int32) * (v3 - v1)))) (v3 + (1 : Int32))))
set_option maxHeartbeats 4000000 in
set_option maxRecDepth 100000 in
theorem s_X3_packFrom_L2 {fu : Nat} {q_y : Int32} {q_boxes : Int32} {q_lastColumn : Int32} {q_lastTop : Int32} {r : (Nat → Int32)} {v1 : Int32} {v2 : Int32} : ∀ (n : Nat) (q_columns : Nat → Int32) (v3 : Int32), X3_packFrom_L2 fu q_boxes v1 v2 n q_columns v3 = some r → mm_Wp mX3_packFrom (mm_R (P_X3_packFrom q_y q_boxes q_lastColumn q_lastTop r)) 0 0 2 [(0, .ref 0), (1, .int v1), (2, .int v2), (3, .int v3)] [] (W_X3 q_y q_boxes q_lastColumn q_lastTop q_columns) := by
  intro n
  induction n with
  | zero =>
    intro q_columns v3 h
    rw [X3_packFrom_L2] at h
    cases h
  | succ n hr2 =>
    intro q_columns v3 h
    rw [X3_packFrom_L2] at h
    refine mm_iload_n 3 dX3_packFrom_2 rfl rfl (pc' := 3) rfl ?_
    refine mm_aload_n 0 dX3_packFrom_3 rfl rfl (pc' := 4) rfl ?_
    refine mm_getf fG_X3_19 dX3_packFrom_4 rfl rfl (pc' := 7) rfl ?_
    refine mm_icmp_ge (tgt := 29) dX3_packFrom_7 (by decide) (pc' := 10) rfl (fun c => ?_) (fun c => ?_)
    · replace h := mm_it h c
      clear c
      have h9 := Option.some.inj h
      subst h9
      exact mm_vret rfl dX3_packFrom_29 ⟨rfl, rfl⟩
    · replace h := mm_if h c
      clear c
      refine mm_aload_n 0 dX3_packFrom_10 rfl rfl (pc' := 11) rfl ?_
      refine mm_getf fG_X3_9 dX3_packFrom_11 rfl rfl (pc' := 14) rfl ?_
      refine mm_iload_n 3 dX3_packFrom_14 rfl rfl (pc' := 15) rfl ?_
      refine mm_iload_n 2 dX3_packFrom_15 rfl rfl (pc' := 16) rfl ?_
      refine mm_iconst dX3_packFrom_16 ki_4 (pc' := 17) rfl ?_
      refine mm_iload_n 3 dX3_packFrom_17 rfl rfl (pc' := 18) rfl ?_
      refine mm_iload_n 1 dX3_packFrom_18 rfl rfl (pc' := 19) rfl ?_
      refine mm_isub dX3_packFrom_19 (pc' := 20) rfl ?_
      refine mm_imul dX3_packFrom_20 (pc' := 21) rfl ?_
      refine mm_iadd dX3_packFrom_21 (pc' := 22) rfl ?_
      obtain ⟨c22, h⟩ := mm_ck_of h
      refine mm_iast dX3_packFrom_22 rfl c22 rfl (ws' := (W_X3 q_y q_boxes q_lastColumn q_lastTop (upd q_columns v3.toNatClampNeg (v2 + ((4 : Int32) * (v3 - v1)))))) rfl (pc' := 23) rfl ?_
      clear c22
      refine mm_iinc 3 dX3_packFrom_23 rfl ki_1 (by decide) (l' := [(3, .int (v3 + (1 : Int32))), (0, .ref 0), (1, .int v1), (2, .int v2)]) rfl (pc' := 26) rfl ?_
      refine mm_goto (tgt := 2) dX3_packFrom_26 (by decide) ?_
      exact mm_sub [1, 2, 3, 0] rfl (hr2 _ _ h)
def f_X3_packFrom (fu : Nat) (q_boxes : Int32) (q_columns : Nat → Int32) (v1 : Int32) (v2 : Int32) : Option ((Nat → Int32)) := X3_packFrom_L2 fu q_boxes v1 v2 fu q_columns v1
set_option maxHeartbeats 4000000 in
set_option maxRecDepth 100000 in
theorem ok_X3_packFrom {fu : Nat} {q_y : Int32} {q_boxes : Int32} {q_lastColumn : Int32} {q_lastTop : Int32} {q_columns : Nat → Int32} {r : (Nat → Int32)} {v1 : Int32} {v2 : Int32} (h : f_X3_packFrom fu q_boxes q_columns v1 v2 = some r) : mm_Ok mX3_packFrom [.ref 0, .int v1, .int v2] (W_X3 q_y q_boxes q_lastColumn q_lastTop q_columns) (P_X3_packFrom q_y q_boxes q_lastColumn q_lastTop r) := by
  rw [f_X3_packFrom] at h
  refine mm_Ok.of pn_X3 (l := [(0, .ref 0), (1, .int v1), (2, .int v2)]) rfl (Nat.le_of_ble_eq_true rfl) ?_
  refine mm_iload_n 1 dX3_packFrom_0 rfl rfl (pc' := 1) rfl ?_
  refine mm_istore_n dX3_packFrom_1 rfl (by decide) (l' := [(3, .int v1), (0, .ref 0), (1, .int v1), (2, .int v2)]) rfl (pc' := 2) rfl ?_
  exact mm_sub [1, 2, 3, 0] rfl (s_X3_packFrom_L2  _ _ _ h)

def P_X3_mostToRight (q_y : Int32) (q_boxes : Int32) (q_lastColumn : Int32) (q_lastTop : Int32) (q_columns : Nat → Int32) (r : Int32) : Option Value → mm_W → Prop := fun rv w => rv = some (.int r) ∧ w = (W_X3 q_y q_boxes q_lastColumn q_lastTop q_columns)
def f_X3_mostToRight (fu : Nat) (q_boxes : Int32) (q_lastColumn : Int32) (v1 : Int32) : Option (Int32) := some ((q_lastColumn - ((4 : Int32) * ((q_boxes - (1 : Int32)) - v1))))
set_option maxHeartbeats 4000000 in
set_option maxRecDepth 100000 in
theorem ok_X3_mostToRight {fu : Nat} {q_y : Int32} {q_boxes : Int32} {q_lastColumn : Int32} {q_lastTop : Int32} {q_columns : Nat → Int32} {r : Int32} {v1 : Int32} (h : f_X3_mostToRight fu q_boxes q_lastColumn v1 = some r) : mm_Ok mX3_mostToRight [.ref 0, .int v1] (W_X3 q_y q_boxes q_lastColumn q_lastTop q_columns) (P_X3_mostToRight q_y q_boxes q_lastColumn q_lastTop q_columns r) := by
  rw [f_X3_mostToRight] at h
  refine mm_Ok.of pn_X3 (l := [(0, .ref 0), (1, .int v1)]) rfl (Nat.le_of_ble_eq_true rfl) ?_
  refine mm_aload_n 0 dX3_mostToRight_0 rfl rfl (pc' := 1) rfl ?_
  refine mm_getf fG_X3_22 dX3_mostToRight_1 rfl rfl (pc' := 4) rfl ?_
  refine mm_iconst dX3_mostToRight_4 ki_4 (pc' := 5) rfl ?_
  refine mm_aload_n 0 dX3_mostToRight_5 rfl rfl (pc' := 6) rfl ?_
  refine mm_getf fG_X3_19 dX3_mostToRight_6 rfl rfl (pc' := 9) rfl ?_
  refine mm_iconst dX3_mostToRight_9 ki_1 (pc' := 10) rfl ?_
  refine mm_isub dX3_mostToRight_10 (pc' := 11) rfl ?_
  refine mm_iload_n 1 dX3_mostToRight_11 rfl rfl (pc' := 12) rfl ?_
  refine mm_isub dX3_mostToRight_12 (pc' := 13) rfl ?_
  refine mm_imul dX3_mostToRight_13 (pc' := 14) rfl ?_
  refine mm_isub dX3_mostToRight_14 (pc' := 15) rfl ?_
  have h9 := Option.some.inj h
  subst h9
  exact mm_iret rfl dX3_mostToRight_15 ⟨rfl, rfl⟩

def P_X3_begin (u_wide : Int32) (u_high : Int32) (u_slackNow : Int32) (u_tenants : Int32) (u_letters : Int32) (u_readings : Int32) (u_kinds : Nat → Int32) (u_painOf : Nat → Int32) (u_payFor : Nat → Int32) (u_refused : Nat → Int32) (u_owned : Nat → Int64) (u_litIn : Nat → Int64) (u_shapes : Nat → Int32) (u_readAt : Nat → Int32) (u_meant : Nat → Int32) (u_readSo : Nat → Int32) (r : Int32 × Int32 × Int32 × Int32 × Int32 × (Nat → Int32)) : Option Value → mm_W → Prop := fun rv w => rv = some (.int r.1) ∧ w = (W_X3_X5 r.2.1 r.2.2.1 r.2.2.2.1 r.2.2.2.2.1 r.2.2.2.2.2 u_wide u_high u_slackNow u_tenants u_letters u_readings u_kinds u_painOf u_payFor u_refused u_owned u_litIn u_shapes u_readAt u_meant u_readSo)
def f_X3_begin (fu : Nat) (q_y : Int32) (q_boxes : Int32) (q_lastColumn : Int32) (q_lastTop : Int32) (q_columns : Nat → Int32) (u_wide : Int32) (u_high : Int32) (v1 : Int32) : Option (Int32 × Int32 × Int32 × Int32 × Int32 × (Nat → Int32)) := (f_X3_packFrom fu v1 q_columns (0 : Int32) (0 : Int32)).bind fun t33 => (f_X3_mostToRight fu v1 (u_wide - (3 : Int32)) (0 : Int32)).bind fun t38 => if t38 < 0 then (some ((0 : Int32), (0 : Int32), v1, u_wide - (3 : Int32), u_high - (4 : Int32), t33)) else (some ((1 : Int32), (0 : Int32), v1, u_wide - (3 : Int32), u_high - (4 : Int32), t33))
set_option maxHeartbeats 4000000 in
set_option maxRecDepth 100000 in
theorem ok_X3_begin {fu : Nat} {q_y : Int32} {q_boxes : Int32} {q_lastColumn : Int32} {q_lastTop : Int32} {q_columns : Nat → Int32} {u_wide : Int32} {u_high : Int32} {u_slackNow : Int32} {u_tenants : Int32} {u_letters : Int32} {u_readings : Int32} {u_kinds : Nat → Int32} {u_painOf : Nat → Int32} {u_payFor : Nat → Int32} {u_refused : Nat → Int32} {u_owned : Nat → Int64} {u_litIn : Nat → Int64} {u_shapes : Nat → Int32} {u_readAt : Nat → Int32} {u_meant : Nat → Int32} {u_readSo : Nat → Int32} {r : Int32 × Int32 × Int32 × Int32 × Int32 × (Nat → Int32)} {v1 : Int32} (h : f_X3_begin fu q_y q_boxes q_lastColumn q_lastTop q_columns u_wide u_high v1 = some r) : mm_Ok mX3_begin [.ref 0, .int v1, .ref 2] (W_X3_X5 q_y q_boxes q_lastColumn q_lastTop q_columns u_wide u_high u_slackNow u_tenants u_letters u_readings u_kinds u_painOf u_payFor u_refused u_owned u_litIn u_shapes u_readAt u_meant u_readSo) (P_X3_begin u_wide u_high u_slackNow u_tenants u_letters u_readings u_kinds u_painOf u_payFor u_refused u_owned u_litIn u_shapes u_readAt u_meant u_readSo r) := by
  rw [f_X3_begin] at h
  refine mm_Ok.of pn_X3 (l := [(0, .ref 0), (1, .int v1), (2, .ref 2)]) rfl (Nat.le_of_ble_eq_true rfl) ?_
  refine mm_aload_n 0 dX3_begin_0 rfl rfl (pc' := 1) rfl ?_
  refine mm_iload_n 1 dX3_begin_1 rfl rfl (pc' := 2) rfl ?_
  refine mm_putf fP_X3_19 dX3_begin_2 rfl (Nat.le_of_ble_eq_true rfl) (fun _ => rfl) (fun _ => rfl) (ws' := (W_X3_X5 q_y v1 q_lastColumn q_lastTop q_columns u_wide u_high u_slackNow u_tenants u_letters u_readings u_kinds u_painOf u_payFor u_refused u_owned u_litIn u_shapes u_readAt u_meant u_readSo)) rfl (pc' := 5) rfl ?_
  refine mm_aload_n 0 dX3_begin_5 rfl rfl (pc' := 6) rfl ?_
  refine mm_aload_n 2 dX3_begin_6 rfl rfl (pc' := 7) rfl ?_
  refine mm_getf fG_X3_28 dX3_begin_7 rfl rfl (pc' := 10) rfl ?_
  refine mm_iconst dX3_begin_10 ki_3 (pc' := 11) rfl ?_
  refine mm_isub dX3_begin_11 (pc' := 12) rfl ?_
  refine mm_putf fP_X3_22 dX3_begin_12 rfl (Nat.le_of_ble_eq_true rfl) (fun _ => rfl) (fun _ => rfl) (ws' := (W_X3_X5 q_y v1 (u_wide - (3 : Int32)) q_lastTop q_columns u_wide u_high u_slackNow u_tenants u_letters u_readings u_kinds u_painOf u_payFor u_refused u_owned u_litIn u_shapes u_readAt u_meant u_readSo)) rfl (pc' := 15) rfl ?_
  refine mm_aload_n 0 dX3_begin_15 rfl rfl (pc' := 16) rfl ?_
  refine mm_aload_n 2 dX3_begin_16 rfl rfl (pc' := 17) rfl ?_
  refine mm_getf fG_X3_33 dX3_begin_17 rfl rfl (pc' := 20) rfl ?_
  refine mm_iconst dX3_begin_20 ki_4 (pc' := 21) rfl ?_
  refine mm_isub dX3_begin_21 (pc' := 22) rfl ?_
  refine mm_putf fP_X3_25 dX3_begin_22 rfl (Nat.le_of_ble_eq_true rfl) (fun _ => rfl) (fun _ => rfl) (ws' := (W_X3_X5 q_y v1 (u_wide - (3 : Int32)) (u_high - (4 : Int32)) q_columns u_wide u_high u_slackNow u_tenants u_letters u_readings u_kinds u_painOf u_payFor u_refused u_owned u_litIn u_shapes u_readAt u_meant u_readSo)) rfl (pc' := 25) rfl ?_
  refine mm_aload_n 0 dX3_begin_25 rfl rfl (pc' := 26) rfl ?_
  refine mm_iconst dX3_begin_26 ki_0 (pc' := 27) rfl ?_
  refine mm_putf fP_X3_15 dX3_begin_27 rfl (Nat.le_of_ble_eq_true rfl) (fun _ => rfl) (fun _ => rfl) (ws' := (W_X3_X5 (0 : Int32) v1 (u_wide - (3 : Int32)) (u_high - (4 : Int32)) q_columns u_wide u_high u_slackNow u_tenants u_letters u_readings u_kinds u_painOf u_payFor u_refused u_owned u_litIn u_shapes u_readAt u_meant u_readSo)) rfl (pc' := 30) rfl ?_
  refine mm_aload_n 0 dX3_begin_30 rfl rfl (pc' := 31) rfl ?_
  refine mm_iconst dX3_begin_31 ki_0 (pc' := 32) rfl ?_
  refine mm_iconst dX3_begin_32 ki_0 (pc' := 33) rfl ?_
  obtain ⟨t33, h33, h⟩ := mm_bd h
  refine mm_callV (As := [.int (0 : Int32), .int (0 : Int32)]) (rest := []) (av := [.ref 0, .int (0 : Int32), .int (0 : Int32)]) (wc := (W_X3 (0 : Int32) v1 (u_wide - (3 : Int32)) (u_high - (4 : Int32)) q_columns)) (is := [0, 1]) cV_X3_36 (ok_X3_packFrom h33) ⟨rfl, rfl, Nat.le_of_ble_eq_true rfl, Nat.le_of_ble_eq_true rfl⟩ dX3_begin_33 rfl rfl rfl rfl rfl ⟨rfl, by decide, by decide⟩ (by rintro _ _ ⟨-, rfl⟩; rfl) (Nat.le_of_ble_eq_true rfl) ⟨Nat.le_of_ble_eq_true rfl, Nat.le_of_ble_eq_true rfl⟩ (pc' := 36) rfl ?_
  rintro rv w ⟨rfl, rfl⟩
  show mm_Wp _ _ _ _ 36 [(0, .ref 0), (1, .int v1), (2, .ref 2)] [] (W_X3_X5 (0 : Int32) v1 (u_wide - (3 : Int32)) (u_high - (4 : Int32)) t33 u_wide u_high u_slackNow u_tenants u_letters u_readings u_kinds u_painOf u_payFor u_refused u_owned u_litIn u_shapes u_readAt u_meant u_readSo)
  clear h33
  refine mm_aload_n 0 dX3_begin_36 rfl rfl (pc' := 37) rfl ?_
  refine mm_iconst dX3_begin_37 ki_0 (pc' := 38) rfl ?_
  obtain ⟨t38, h38, h⟩ := mm_bd h
  refine mm_callV (As := [.int (0 : Int32)]) (rest := []) (av := [.ref 0, .int (0 : Int32)]) (wc := (W_X3 (0 : Int32) v1 (u_wide - (3 : Int32)) (u_high - (4 : Int32)) t33)) (is := [0, 1]) cV_X3_40 (ok_X3_mostToRight h38) ⟨rfl, rfl, Nat.le_of_ble_eq_true rfl, Nat.le_of_ble_eq_true rfl⟩ dX3_begin_38 rfl rfl rfl rfl rfl ⟨rfl, by decide, by decide⟩ (by rintro _ _ ⟨-, rfl⟩; rfl) (Nat.le_of_ble_eq_true rfl) ⟨Nat.le_of_ble_eq_true rfl, Nat.le_of_ble_eq_true rfl⟩ (pc' := 41) rfl ?_
  rintro rv w ⟨rfl, rfl⟩
  show mm_Wp _ _ _ _ 41 [(0, .ref 0), (1, .int v1), (2, .ref 2)] [.int t38] (W_X3_X5 (0 : Int32) v1 (u_wide - (3 : Int32)) (u_high - (4 : Int32)) t33 u_wide u_high u_slackNow u_tenants u_letters u_readings u_kinds u_painOf u_payFor u_refused u_owned u_litIn u_shapes u_readAt u_meant u_readSo)
  clear h38
  refine mm_if_lt (tgt := 48) dX3_begin_41 (by decide) (pc' := 44) rfl (fun c => ?_) (fun c => ?_)
  · replace h := mm_it h c
    clear c
    refine mm_iconst dX3_begin_48 ki_0 (pc' := 49) rfl ?_
    have h9 := Option.some.inj h
    subst h9
    exact mm_zret rfl (by decide) dX3_begin_49 ⟨rfl, rfl⟩
  · replace h := mm_if h c
    clear c
    refine mm_iconst dX3_begin_44 ki_1 (pc' := 45) rfl ?_
    refine mm_goto (tgt := 49) dX3_begin_45 (by decide) ?_
    have h9 := Option.some.inj h
    subst h9
    exact mm_zret rfl (by decide) dX3_begin_49 ⟨rfl, rfl⟩

def P_X5_changeable (q_wide : Int32) (q_high : Int32) (q_slackNow : Int32) (q_tenants : Int32) (q_letters : Int32) (q_readings : Int32) (q_kinds : Nat → Int32) (q_painOf : Nat → Int32) (q_payFor : Nat → Int32) (q_refused : Nat → Int32) (q_owned : Nat → Int64) (q_litIn : Nat → Int64) (q_shapes : Nat → Int32) (q_readAt : Nat → Int32) (q_meant : Nat → Int32) (q_readSo : Nat → Int32) (r : Int64) : Option Value → mm_W → Prop := fun rv w => rv = some (.long r) ∧ w = (W_X5 q_wide q_high q_slackNow q_tenants q_letters q_readings q_kinds q_painOf q_payFor q_refused q_owned q_litIn q_shapes q_readAt q_meant q_readSo)
def X5_changeable_J104 (fu : Nat) (rec6 : Int64 → Int32 → Option (Int64)) (q_tenants : Int32) (q_kinds : Nat → Int32) (q_refused : Nat → Int32) (q_owned : Nat → Int64) (q_litIn : Nat → Int64) (v1 : Int32) (v2 : Int32) (v3 : Int32) (v4 : Int64) (v6 : Int32)  : Option (Int64) := rec6 v4 (v6 + (1 : Int32))
set_option maxHeartbeats 4000000 in
set_option maxRecDepth 100000 in
theorem s_X5_changeable_J104 {fu : Nat} {q_wide : Int32} {q_high : Int32} {q_slackNow : Int32} {q_tenants : Int32} {q_letters : Int32} {q_readings : Int32} {q_kinds : Nat → Int32} {q_painOf : Nat → Int32} {q_payFor : Nat → Int32} {q_refused : Nat → Int32} {q_owned : Nat → Int64} {q_litIn : Nat → Int64} {q_shapes : Nat → Int32} {q_readAt : Nat → Int32} {q_meant : Nat → Int32} {q_readSo : Nat → Int32} {r : Int64} {rec6 : Int64 → Int32 → Option (Int64)} {v1 : Int32} {v2 : Int32} {v3 : Int32} {v4 : Int64} {v6 : Int32} (hr6 : ∀ (y4 : Int64) (y6 : Int32), rec6 y4 y6 = some r → mm_Wp mX5_changeable (mm_R (P_X5_changeable q_wide q_high q_slackNow q_tenants q_letters q_readings q_kinds q_painOf q_payFor q_refused q_owned q_litIn q_shapes q_readAt q_meant q_readSo r)) 0 0 6 [(0, .ref 0), (1, .int v1), (2, .int v2), (3, .int v3), (4, .long y4), (6, .int y6)] [] (W_X5 q_wide q_high q_slackNow q_tenants q_letters q_readings q_kinds q_painOf q_payFor q_refused q_owned q_litIn q_shapes q_readAt q_meant q_readSo)) (h : X5_changeable_J104 fu rec6 q_tenants q_kinds q_refused q_owned q_litIn v1 v2 v3 v4 v6 = some r) : mm_Wp mX5_changeable (mm_R (P_X5_changeable q_wide q_high q_slackNow q_tenants q_letters q_readings q_kinds q_painOf q_payFor q_refused q_owned q_litIn q_shapes q_readAt q_meant q_readSo r)) 0 0 104 [(0, .ref 0), (1, .int v1), (2, .int v2), (3, .int v3), (4, .long v4), (6, .int v6)] [] (W_X5 q_wide q_high q_slackNow q_tenants q_letters q_readings q_kinds q_painOf q_payFor q_refused q_owned q_litIn q_shapes q_readAt q_meant q_readSo) := by
  rw [X5_changeable_J104] at h
  refine mm_iinc 5 dX5_changeable_104 rfl ki_1 (by decide) (l' := [(6, .int (v6 + (1 : Int32))), (0, .ref 0), (1, .int v1), (2, .int v2), (3, .int v3), (4, .long v4)]) rfl (pc' := 107) rfl ?_
  refine mm_goto (tgt := 6) dX5_changeable_107 (by decide) ?_
  exact mm_sub [1, 2, 3, 4, 5, 0] rfl (hr6 _ _ h)
def X5_changeable_J101 (fu : Nat) (rec6 : Int64 → Int32 → Option (Int64)) (q_tenants : Int32) (q_kinds : Nat → Int32) (q_refused : Nat → Int32) (q_owned : Nat → Int64) (q_litIn : Nat → Int64) (v1 : Int32) (v2 : Int32) (v3 : Int32) (v6 : Int32) (s0 : Int64) (s1 : Int64) : Option (Int64) := X5_changeable_J104 fu rec6 q_tenants q_kinds q_refused q_owned q_litIn v1 v2 v3 (s1 ||| s0) v6
set_option maxHeartbeats 4000000 in
set_option maxRecDepth 100000 in
theorem s_X5_changeable_J101 {fu : Nat} {q_wide : Int32} {q_high : Int32} {q_slackNow : Int32} {q_tenants : Int32} {q_letters : Int32} {q_readings : Int32} {q_kinds : Nat → Int32} {q_painOf : Nat → Int32} {q_payFor : Nat → Int32} {q_refused : Nat → Int32} {q_owned : Nat → Int64} {q_litIn : Nat → Int64} {q_shapes : Nat → Int32} {q_readAt : Nat → Int32} {q_meant : Nat → Int32} {q_readSo : Nat → Int32} {r : Int64} {rec6 : Int64 → Int32 → Option (Int64)} {v1 : Int32} {v2 : Int32} {v3 : Int32} {v6 : Int32} {s0 : Int64} {s1 : Int64} (hr6 : ∀ (y4 : Int64) (y6 : Int32), rec6 y4 y6 = some r → mm_Wp mX5_changeable (mm_R (P_X5_changeable q_wide q_high q_slackNow q_tenants q_letters q_readings q_kinds q_painOf q_payFor q_refused q_owned q_litIn q_shapes q_readAt q_meant q_readSo r)) 0 0 6 [(0, .ref 0), (1, .int v1), (2, .int v2), (3, .int v3), (4, .long y4), (6, .int y6)] [] (W_X5 q_wide q_high q_slackNow q_tenants q_letters q_readings q_kinds q_painOf q_payFor q_refused q_owned q_litIn q_shapes q_readAt q_meant q_readSo)) (h : X5_changeable_J101 fu rec6 q_tenants q_kinds q_refused q_owned q_litIn v1 v2 v3 v6 s0 s1 = some r) : mm_Wp mX5_changeable (mm_R (P_X5_changeable q_wide q_high q_slackNow q_tenants q_letters q_readings q_kinds q_painOf q_payFor q_refused q_owned q_litIn q_shapes q_readAt q_meant q_readSo r)) 0 0 101 [(0, .ref 0), (1, .int v1), (2, .int v2), (3, .int v3), (6, .int v6)] [.long s0, .long s1] (W_X5 q_wide q_high q_slackNow q_tenants q_letters q_readings q_kinds q_painOf q_payFor q_refused q_owned q_litIn q_shapes q_readAt q_meant q_readSo) := by
  rw [X5_changeable_J101] at h
  refine mm_lor dX5_changeable_101 (pc' := 102) rfl ?_
  refine mm_lstore dX5_changeable_102 (by decide) (l' := [(4, .long (s1 ||| s0)), (0, .ref 0), (1, .int v1), (2, .int v2), (3, .int v3), (6, .int v6)]) rfl (pc' := 104) rfl ?_
  exact mm_sub [1, 2, 3, 4, 0, 5] rfl (s_X5_changeable_J104 (hr6 := hr6) h)
def X5_changeable_J45 (fu : Nat) (rec6 : Int64 → Int32 → Option (Int64)) (q_tenants : Int32) (q_kinds : Nat → Int32) (q_refused : Nat → Int32) (q_owned : Nat → Int64) (q_litIn : Nat → Int64) (v1 : Int32) (v2 : Int32) (v3 : Int32) (v4 : Int64) (v6 : Int32) (s0 : Int32) : Option (Int64) := if ((v3 >>> (v6 &&& 31)) &&& (1 : Int32)) = 0 then (X5_changeable_J104 fu rec6 q_tenants q_kinds q_refused q_owned q_litIn v1 v2 v3 v4 v6) else (if s0 = 0 then (X5_changeable_J104 fu rec6 q_tenants q_kinds q_refused q_owned q_litIn v1 v2 v3 v4 v6) else (mm_rd q_kinds 6 v6 fun x72 => if x72 = (4 : Int32) then (mm_rd q_owned 6 v6 fun x83 => mm_rd q_litIn 4 v1 fun x89 => X5_changeable_J101 fu rec6 q_tenants q_kinds q_refused q_owned q_litIn v1 v2 v3 v6 (x83 &&& x89) v4) else (mm_rd q_owned 6 v6 fun x100 => X5_changeable_J101 fu rec6 q_tenants q_kinds q_refused q_owned q_litIn v1 v2 v3 v6 x100 v4)))
set_option maxHeartbeats 4000000 in
set_option maxRecDepth 100000 in
theorem s_X5_changeable_J45 {fu : Nat} {q_wide : Int32} {q_high : Int32} {q_slackNow : Int32} {q_tenants : Int32} {q_letters : Int32} {q_readings : Int32} {q_kinds : Nat → Int32} {q_painOf : Nat → Int32} {q_payFor : Nat → Int32} {q_refused : Nat → Int32} {q_owned : Nat → Int64} {q_litIn : Nat → Int64} {q_shapes : Nat → Int32} {q_readAt : Nat → Int32} {q_meant : Nat → Int32} {q_readSo : Nat → Int32} {r : Int64} {rec6 : Int64 → Int32 → Option (Int64)} {v1 : Int32} {v2 : Int32} {v3 : Int32} {v4 : Int64} {v6 : Int32} {s0 : Int32} (hr6 : ∀ (y4 : Int64) (y6 : Int32), rec6 y4 y6 = some r → mm_Wp mX5_changeable (mm_R (P_X5_changeable q_wide q_high q_slackNow q_tenants q_letters q_readings q_kinds q_painOf q_payFor q_refused q_owned q_litIn q_shapes q_readAt q_meant q_readSo r)) 0 0 6 [(0, .ref 0), (1, .int v1), (2, .int v2), (3, .int v3), (4, .long y4), (6, .int y6)] [] (W_X5 q_wide q_high q_slackNow q_tenants q_letters q_readings q_kinds q_painOf q_payFor q_refused q_owned q_litIn q_shapes q_readAt q_meant q_readSo)) (h : X5_changeable_J45 fu rec6 q_tenants q_kinds q_refused q_owned q_litIn v1 v2 v3 v4 v6 s0 = some r) : mm_Wp mX5_changeable (mm_R (P_X5_changeable q_wide q_high q_slackNow q_tenants q_letters q_readings q_kinds q_painOf q_payFor q_refused q_owned q_litIn q_shapes q_readAt q_meant q_readSo r)) 0 0 45 [(0, .ref 0), (1, .int v1), (2, .int v2), (3, .int v3), (4, .long v4), (6, .int v6)] [.int s0] (W_X5 q_wide q_high q_slackNow q_tenants q_letters q_readings q_kinds q_painOf q_payFor q_refused q_owned q_litIn q_shapes q_readAt q_meant q_readSo) := by
  rw [X5_changeable_J45] at h
  refine mm_istore dX5_changeable_45 (by decide) (l' := [(7, .int s0), (0, .ref 0), (1, .int v1), (2, .int v2), (3, .int v3), (4, .long v4), (6, .int v6)]) rfl (pc' := 47) rfl ?_
  refine mm_iload_n 4 dX5_changeable_47 rfl rfl (pc' := 48) rfl ?_
  refine mm_iload 6 dX5_changeable_48 rfl (pc' := 50) rfl ?_
  refine mm_ishr dX5_changeable_50 (pc' := 51) rfl ?_
  refine mm_iconst dX5_changeable_51 ki_1 (pc' := 52) rfl ?_
  refine mm_iand dX5_changeable_52 (pc' := 53) rfl ?_
  refine mm_if_eq (tgt := 104) dX5_changeable_53 (by decide) (pc' := 56) rfl (fun c => ?_) (fun c => ?_)
  · replace h := mm_it h c
    clear c
    exact mm_sub [1, 2, 3, 4, 5, 6] rfl (s_X5_changeable_J104 (hr6 := hr6) h)
  · replace h := mm_if h c
    clear c
    refine mm_iload 0 dX5_changeable_56 rfl (pc' := 58) rfl ?_
    refine mm_if_ne (tgt := 64) dX5_changeable_58 (by decide) (pc' := 61) rfl (fun c => ?_) (fun c => ?_)
    · replace h := mm_if h c
      clear c
      refine mm_lload 5 dX5_changeable_64 rfl (pc' := 66) rfl ?_
      refine mm_aload_n 1 dX5_changeable_66 rfl rfl (pc' := 67) rfl ?_
      refine mm_getf fG_X5_30 dX5_changeable_67 rfl rfl (pc' := 70) rfl ?_
      refine mm_iload 6 dX5_changeable_70 rfl (pc' := 72) rfl ?_
      obtain ⟨x72, c72, e72, h⟩ := mm_rd_of h
      refine mm_iald dX5_changeable_72 rfl c72 e72 (pc' := 73) rfl ?_
      clear c72 e72
      refine mm_iconst dX5_changeable_73 ki_4 (pc' := 74) rfl ?_
      refine mm_icmp_ne (tgt := 94) dX5_changeable_74 (by decide) (pc' := 77) rfl (fun c => ?_) (fun c => ?_)
      · replace h := mm_if h c
        clear c
        refine mm_aload_n 1 dX5_changeable_94 rfl rfl (pc' := 95) rfl ?_
        refine mm_getf fG_X5_43 dX5_changeable_95 rfl rfl (pc' := 98) rfl ?_
        refine mm_iload 6 dX5_changeable_98 rfl (pc' := 100) rfl ?_
        obtain ⟨x100, c100, e100, h⟩ := mm_rd_of h
        refine mm_lald dX5_changeable_100 rfl c100 e100 (pc' := 101) rfl ?_
        clear c100 e100
        exact mm_sub [1, 2, 3, 4, 6] rfl (s_X5_changeable_J101 (hr6 := hr6) h)
      · replace h := mm_it h c
        clear c
        refine mm_aload_n 1 dX5_changeable_77 rfl rfl (pc' := 78) rfl ?_
        refine mm_getf fG_X5_43 dX5_changeable_78 rfl rfl (pc' := 81) rfl ?_
        refine mm_iload 6 dX5_changeable_81 rfl (pc' := 83) rfl ?_
        obtain ⟨x83, c83, e83, h⟩ := mm_rd_of h
        refine mm_lald dX5_changeable_83 rfl c83 e83 (pc' := 84) rfl ?_
        clear c83 e83
        refine mm_aload_n 1 dX5_changeable_84 rfl rfl (pc' := 85) rfl ?_
        refine mm_getf fG_X5_47 dX5_changeable_85 rfl rfl (pc' := 88) rfl ?_
        refine mm_iload_n 2 dX5_changeable_88 rfl rfl (pc' := 89) rfl ?_
        obtain ⟨x89, c89, e89, h⟩ := mm_rd_of h
        refine mm_lald dX5_changeable_89 rfl c89 e89 (pc' := 90) rfl ?_
        clear c89 e89
        refine mm_land dX5_changeable_90 (pc' := 91) rfl ?_
        refine mm_goto (tgt := 101) dX5_changeable_91 (by decide) ?_
        exact mm_sub [1, 2, 3, 4, 6] rfl (s_X5_changeable_J101 (hr6 := hr6) h)
    · replace h := mm_it h c
      clear c
      refine mm_goto (tgt := 104) dX5_changeable_61 (by decide) ?_
      exact mm_sub [1, 2, 3, 4, 5, 6] rfl (s_X5_changeable_J104 (hr6 := hr6) h)
def X5_changeable_J40 (fu : Nat) (rec6 : Int64 → Int32 → Option (Int64)) (q_tenants : Int32) (q_kinds : Nat → Int32) (q_refused : Nat → Int32) (q_owned : Nat → Int64) (q_litIn : Nat → Int64) (v1 : Int32) (v2 : Int32) (v3 : Int32) (v4 : Int64) (v6 : Int32)  : Option (Int64) := X5_changeable_J45 fu rec6 q_tenants q_kinds q_refused q_owned q_litIn v1 v2 v3 v4 v6 (1 : Int32)
set_option maxHeartbeats 4000000 in
set_option maxRecDepth 100000 in
theorem s_X5_changeable_J40 {fu : Nat} {q_wide : Int32} {q_high : Int32} {q_slackNow : Int32} {q_tenants : Int32} {q_letters : Int32} {q_readings : Int32} {q_kinds : Nat → Int32} {q_painOf : Nat → Int32} {q_payFor : Nat → Int32} {q_refused : Nat → Int32} {q_owned : Nat → Int64} {q_litIn : Nat → Int64} {q_shapes : Nat → Int32} {q_readAt : Nat → Int32} {q_meant : Nat → Int32} {q_readSo : Nat → Int32} {r : Int64} {rec6 : Int64 → Int32 → Option (Int64)} {v1 : Int32} {v2 : Int32} {v3 : Int32} {v4 : Int64} {v6 : Int32} (hr6 : ∀ (y4 : Int64) (y6 : Int32), rec6 y4 y6 = some r → mm_Wp mX5_changeable (mm_R (P_X5_changeable q_wide q_high q_slackNow q_tenants q_letters q_readings q_kinds q_painOf q_payFor q_refused q_owned q_litIn q_shapes q_readAt q_meant q_readSo r)) 0 0 6 [(0, .ref 0), (1, .int v1), (2, .int v2), (3, .int v3), (4, .long y4), (6, .int y6)] [] (W_X5 q_wide q_high q_slackNow q_tenants q_letters q_readings q_kinds q_painOf q_payFor q_refused q_owned q_litIn q_shapes q_readAt q_meant q_readSo)) (h : X5_changeable_J40 fu rec6 q_tenants q_kinds q_refused q_owned q_litIn v1 v2 v3 v4 v6 = some r) : mm_Wp mX5_changeable (mm_R (P_X5_changeable q_wide q_high q_slackNow q_tenants q_letters q_readings q_kinds q_painOf q_payFor q_refused q_owned q_litIn q_shapes q_readAt q_meant q_readSo r)) 0 0 40 [(0, .ref 0), (1, .int v1), (2, .int v2), (3, .int v3), (4, .long v4), (6, .int v6)] [] (W_X5 q_wide q_high q_slackNow q_tenants q_letters q_readings q_kinds q_painOf q_payFor q_refused q_owned q_litIn q_shapes q_readAt q_meant q_readSo) := by
  rw [X5_changeable_J40] at h
  refine mm_iconst dX5_changeable_40 ki_1 (pc' := 41) rfl ?_
  refine mm_goto (tgt := 45) dX5_changeable_41 (by decide) ?_
  exact s_X5_changeable_J45 (hr6 := hr6) h
def X5_changeable_L6 (fu : Nat)  (q_tenants : Int32) (q_kinds : Nat → Int32) (q_refused : Nat → Int32) (q_owned : Nat → Int64) (q_litIn : Nat → Int64) (v1 : Int32) (v2 : Int32) (v3 : Int32) : Nat → Int64 → Int32 → Option (Int64)
  | 0, _, _ => none
  | n + 1, v4, v6 => if q_tenants ≤ v6 then (some (v4)) else (mm_rd q_refused 6 v6 fun x21 => if x21 = (-1 : Int32) then (X5_changeable_J40 fu (X5_changeable_L6 fu q_tenants q_kinds q_refused q_owned q_litIn v1 v2 v3 n) q_tenants q_kinds q_refused q_owned q_litIn v1 v2 v3 v4 v6) else (mm_rd q_refused 6 v6 fun x33 => if ((v2 >>> (x33 &&& 31)) &&& (1 : Int32)) = 0 then (X5_changeable_J40 fu (X5_changeable_L6 fu q_tenants q_kinds q_refused q_owned q_litIn v1 v2 v3 n) q_tenants q_kinds q_refused q_owned q_litIn v1 v2 v3 v4 v6) else (X5_changeable_J45 fu (X5_changeable_L6 fu q_tenants q_kinds q_refused q_owned q_litIn v1 v2 v3 n) q_tenants q_kinds q_refused q_owned q_litIn v1 v2 v3 v4 v6 (0 : Int32))))
set_option maxHeartbeats 4000000 in
set_option maxRecDepth 100000 in
theorem s_X5_changeable_L6 {fu : Nat} {q_wide : Int32} {q_high : Int32} {q_slackNow : Int32} {q_tenants : Int32} {q_letters : Int32} {q_readings : Int32} {q_kinds : Nat → Int32} {q_painOf : Nat → Int32} {q_payFor : Nat → Int32} {q_refused : Nat → Int32} {q_owned : Nat → Int64} {q_litIn : Nat → Int64} {q_shapes : Nat → Int32} {q_readAt : Nat → Int32} {q_meant : Nat → Int32} {q_readSo : Nat → Int32} {r : Int64} {v1 : Int32} {v2 : Int32} {v3 : Int32} : ∀ (n : Nat) (v4 : Int64) (v6 : Int32), X5_changeable_L6 fu q_tenants q_kinds q_refused q_owned q_litIn v1 v2 v3 n v4 v6 = some r → mm_Wp mX5_changeable (mm_R (P_X5_changeable q_wide q_high q_slackNow q_tenants q_letters q_readings q_kinds q_painOf q_payFor q_refused q_owned q_litIn q_shapes q_readAt q_meant q_readSo r)) 0 0 6 [(0, .ref 0), (1, .int v1), (2, .int v2), (3, .int v3), (4, .long v4), (6, .int v6)] [] (W_X5 q_wide q_high q_slackNow q_tenants q_letters q_readings q_kinds q_painOf q_payFor q_refused q_owned q_litIn q_shapes q_readAt q_meant q_readSo) := by
  intro n
  induction n with
  | zero =>
    intro v4 v6 h
    rw [X5_changeable_L6] at h
    cases h
  | succ n hr6 =>
    intro v4 v6 h
    rw [X5_changeable_L6] at h
    refine mm_iload 5 dX5_changeable_6 rfl (pc' := 8) rfl ?_
    refine mm_aload_n 0 dX5_changeable_8 rfl rfl (pc' := 9) rfl ?_
    refine mm_getf fG_X5_21 dX5_changeable_9 rfl rfl (pc' := 12) rfl ?_
    refine mm_icmp_ge (tgt := 110) dX5_changeable_12 (by decide) (pc' := 15) rfl (fun c => ?_) (fun c => ?_)
    · replace h := mm_it h c
      clear c
      refine mm_lload 4 dX5_changeable_110 rfl (pc' := 112) rfl ?_
      have h9 := Option.some.inj h
      subst h9
      exact mm_lret rfl dX5_changeable_112 ⟨rfl, rfl⟩
    · replace h := mm_if h c
      clear c
      refine mm_aload_n 0 dX5_changeable_15 rfl rfl (pc' := 16) rfl ?_
      refine mm_getf fG_X5_40 dX5_changeable_16 rfl rfl (pc' := 19) rfl ?_
      refine mm_iload 5 dX5_changeable_19 rfl (pc' := 21) rfl ?_
      obtain ⟨x21, c21, e21, h⟩ := mm_rd_of h
      refine mm_iald dX5_changeable_21 rfl c21 e21 (pc' := 22) rfl ?_
      clear c21 e21
      refine mm_iconst dX5_changeable_22 ki_m1 (pc' := 23) rfl ?_
      refine mm_icmp_eq (tgt := 40) dX5_changeable_23 (by decide) (pc' := 26) rfl (fun c => ?_) (fun c => ?_)
      · replace h := mm_it h c
        clear c
        exact s_X5_changeable_J40 (hr6 := hr6) h
      · replace h := mm_if h c
        clear c
        refine mm_iload_n 2 dX5_changeable_26 rfl rfl (pc' := 27) rfl ?_
        refine mm_aload_n 0 dX5_changeable_27 rfl rfl (pc' := 28) rfl ?_
        refine mm_getf fG_X5_40 dX5_changeable_28 rfl rfl (pc' := 31) rfl ?_
        refine mm_iload 5 dX5_changeable_31 rfl (pc' := 33) rfl ?_
        obtain ⟨x33, c33, e33, h⟩ := mm_rd_of h
        refine mm_iald dX5_changeable_33 rfl c33 e33 (pc' := 34) rfl ?_
        clear c33 e33
        refine mm_ishr dX5_changeable_34 (pc' := 35) rfl ?_
        refine mm_iconst dX5_changeable_35 ki_1 (pc' := 36) rfl ?_
        refine mm_iand dX5_changeable_36 (pc' := 37) rfl ?_
        refine mm_if_ne (tgt := 44) dX5_changeable_37 (by decide) (pc' := 40) rfl (fun c => ?_) (fun c => ?_)
        · replace h := mm_if h c
          clear c
          refine mm_iconst dX5_changeable_44 ki_0 (pc' := 45) rfl ?_
          exact s_X5_changeable_J45 (hr6 := hr6) h
        · replace h := mm_it h c
          clear c
          exact s_X5_changeable_J40 (hr6 := hr6) h
def f_X5_changeable (fu : Nat) (q_tenants : Int32) (q_kinds : Nat → Int32) (q_refused : Nat → Int32) (q_owned : Nat → Int64) (q_litIn : Nat → Int64) (v1 : Int32) (v2 : Int32) (v3 : Int32) : Option (Int64) := X5_changeable_L6 fu q_tenants q_kinds q_refused q_owned q_litIn v1 v2 v3 fu (0 : Int64) (0 : Int32)
set_option maxHeartbeats 4000000 in
set_option maxRecDepth 100000 in
theorem ok_X5_changeable {fu : Nat} {q_wide : Int32} {q_high : Int32} {q_slackNow : Int32} {q_tenants : Int32} {q_letters : Int32} {q_readings : Int32} {q_kinds : Nat → Int32} {q_painOf : Nat → Int32} {q_payFor : Nat → Int32} {q_refused : Nat → Int32} {q_owned : Nat → Int64} {q_litIn : Nat → Int64} {q_shapes : Nat → Int32} {q_readAt : Nat → Int32} {q_meant : Nat → Int32} {q_readSo : Nat → Int32} {r : Int64} {v1 : Int32} {v2 : Int32} {v3 : Int32} (h : f_X5_changeable fu q_tenants q_kinds q_refused q_owned q_litIn v1 v2 v3 = some r) : mm_Ok mX5_changeable [.ref 0, .int v1, .int v2, .int v3] (W_X5 q_wide q_high q_slackNow q_tenants q_letters q_readings q_kinds q_painOf q_payFor q_refused q_owned q_litIn q_shapes q_readAt q_meant q_readSo) (P_X5_changeable q_wide q_high q_slackNow q_tenants q_letters q_readings q_kinds q_painOf q_payFor q_refused q_owned q_litIn q_shapes q_readAt q_meant q_readSo r) := by
  rw [f_X5_changeable] at h
  refine mm_Ok.of pn_X5 (l := [(0, .ref 0), (1, .int v1), (2, .int v2), (3, .int v3)]) rfl (Nat.le_of_ble_eq_true rfl) ?_
  refine mm_lconst dX5_changeable_0 (by decide : _ = (0 : Int64)) (pc' := 1) rfl ?_
  refine mm_lstore dX5_changeable_1 (by decide) (l' := [(4, .long (0 : Int64)), (0, .ref 0), (1, .int v1), (2, .int v2), (3, .int v3)]) rfl (pc' := 3) rfl ?_
  refine mm_iconst dX5_changeable_3 ki_0 (pc' := 4) rfl ?_
  refine mm_istore dX5_changeable_4 (by decide) (l' := [(6, .int (0 : Int32)), (4, .long (0 : Int64)), (0, .ref 0), (1, .int v1), (2, .int v2), (3, .int v3)]) rfl (pc' := 6) rfl ?_
  exact mm_sub [2, 3, 4, 5, 1, 0] rfl (s_X5_changeable_L6  _ _ _ h)

def P_X5_ownerOf (q_wide : Int32) (q_high : Int32) (q_slackNow : Int32) (q_tenants : Int32) (q_letters : Int32) (q_readings : Int32) (q_kinds : Nat → Int32) (q_painOf : Nat → Int32) (q_payFor : Nat → Int32) (q_refused : Nat → Int32) (q_owned : Nat → Int64) (q_litIn : Nat → Int64) (q_shapes : Nat → Int32) (q_readAt : Nat → Int32) (q_meant : Nat → Int32) (q_readSo : Nat → Int32) (r : Int32) : Option Value → mm_W → Prop := fun rv w => rv = some (.int r) ∧ w = (W_X5 q_wide q_high q_slackNow q_tenants q_letters q_readings q_kinds q_painOf q_payFor q_refused q_owned q_litIn q_shapes q_readAt q_meant q_readSo)
def X5_ownerOf_L2 (fu : Nat)  (q_tenants : Int32) (q_owned : Nat → Int64) (v1 : Int32) : Nat → Int32 → Option (Int32)
  | 0, _ => none
  | n + 1, v2 => if q_tenants ≤ v2 then (some ((-1 : Int32))) else (mm_rd q_owned 6 v2 fun x15 => if (lg_cmp (((x15.toUInt64 >>> (v1.toInt64.toUInt64 &&& Int64.toUInt64 63)).toInt64) &&& (1 : Int64)) (1 : Int64)) = 0 then (some (v2)) else ((X5_ownerOf_L2 fu q_tenants q_owned v1 n) (v2 + (1 : Int32))))
set_option maxHeartbeats 4000000 in
set_option maxRecDepth 100000 in
theorem s_X5_ownerOf_L2 {fu : Nat} {q_wide : Int32} {q_high : Int32} {q_slackNow : Int32} {q_tenants : Int32} {q_letters : Int32} {q_readings : Int32} {q_kinds : Nat → Int32} {q_painOf : Nat → Int32} {q_payFor : Nat → Int32} {q_refused : Nat → Int32} {q_owned : Nat → Int64} {q_litIn : Nat → Int64} {q_shapes : Nat → Int32} {q_readAt : Nat → Int32} {q_meant : Nat → Int32} {q_readSo : Nat → Int32} {r : Int32} {v1 : Int32} : ∀ (n : Nat) (v2 : Int32), X5_ownerOf_L2 fu q_tenants q_owned v1 n v2 = some r → mm_Wp mX5_ownerOf (mm_R (P_X5_ownerOf q_wide q_high q_slackNow q_tenants q_letters q_readings q_kinds q_painOf q_payFor q_refused q_owned q_litIn q_shapes q_readAt q_meant q_readSo r)) 0 0 2 [(0, .ref 0), (1, .int v1), (2, .int v2)] [] (W_X5 q_wide q_high q_slackNow q_tenants q_letters q_readings q_kinds q_painOf q_payFor q_refused q_owned q_litIn q_shapes q_readAt q_meant q_readSo) := by
  intro n
  induction n with
  | zero =>
    intro v2 h
    rw [X5_ownerOf_L2] at h
    cases h
  | succ n hr2 =>
    intro v2 h
    rw [X5_ownerOf_L2] at h
    refine mm_iload_n 2 dX5_ownerOf_2 rfl rfl (pc' := 3) rfl ?_
    refine mm_aload_n 0 dX5_ownerOf_3 rfl rfl (pc' := 4) rfl ?_
    refine mm_getf fG_X5_21 dX5_ownerOf_4 rfl rfl (pc' := 7) rfl ?_
    refine mm_icmp_ge (tgt := 33) dX5_ownerOf_7 (by decide) (pc' := 10) rfl (fun c => ?_) (fun c => ?_)
    · replace h := mm_it h c
      clear c
      refine mm_iconst dX5_ownerOf_33 ki_m1 (pc' := 34) rfl ?_
      have h9 := Option.some.inj h
      subst h9
      exact mm_iret rfl dX5_ownerOf_34 ⟨rfl, rfl⟩
    · replace h := mm_if h c
      clear c
      refine mm_aload_n 0 dX5_ownerOf_10 rfl rfl (pc' := 11) rfl ?_
      refine mm_getf fG_X5_43 dX5_ownerOf_11 rfl rfl (pc' := 14) rfl ?_
      refine mm_iload_n 2 dX5_ownerOf_14 rfl rfl (pc' := 15) rfl ?_
      obtain ⟨x15, c15, e15, h⟩ := mm_rd_of h
      refine mm_lald dX5_ownerOf_15 rfl c15 e15 (pc' := 16) rfl ?_
      clear c15 e15
      refine mm_iload_n 1 dX5_ownerOf_16 rfl rfl (pc' := 17) rfl ?_
      refine mm_lushr dX5_ownerOf_17 (pc' := 18) rfl ?_
      refine mm_lconst dX5_ownerOf_18 (by decide : _ = (1 : Int64)) (pc' := 19) rfl ?_
      refine mm_land dX5_ownerOf_19 (pc' := 20) rfl ?_
      refine mm_lconst dX5_ownerOf_20 (by decide : _ = (1 : Int64)) (pc' := 21) rfl ?_
      refine mm_lcmp dX5_ownerOf_21 (pc' := 22) rfl ?_
      refine mm_if_ne (tgt := 27) dX5_ownerOf_22 (by decide) (pc' := 25) rfl (fun c => ?_) (fun c => ?_)
      · replace h := mm_if h c
        clear c
        refine mm_iinc 2 dX5_ownerOf_27 rfl ki_1 (by decide) (l' := [(2, .int (v2 + (1 : Int32))), (0, .ref 0), (1, .int v1)]) rfl (pc' := 30) rfl ?_
        refine mm_goto (tgt := 2) dX5_ownerOf_30 (by decide) ?_
        exact mm_sub [1, 2, 0] rfl (hr2 _ h)
      · replace h := mm_it h c
        clear c
        refine mm_iload_n 2 dX5_ownerOf_25 rfl rfl (pc' := 26) rfl ?_
        have h9 := Option.some.inj h
        subst h9
        exact mm_iret rfl dX5_ownerOf_26 ⟨rfl, rfl⟩
def f_X5_ownerOf (fu : Nat) (q_tenants : Int32) (q_owned : Nat → Int64) (v1 : Int32) : Option (Int32) := X5_ownerOf_L2 fu q_tenants q_owned v1 fu (0 : Int32)
set_option maxHeartbeats 4000000 in
set_option maxRecDepth 100000 in
theorem ok_X5_ownerOf {fu : Nat} {q_wide : Int32} {q_high : Int32} {q_slackNow : Int32} {q_tenants : Int32} {q_letters : Int32} {q_readings : Int32} {q_kinds : Nat → Int32} {q_painOf : Nat → Int32} {q_payFor : Nat → Int32} {q_refused : Nat → Int32} {q_owned : Nat → Int64} {q_litIn : Nat → Int64} {q_shapes : Nat → Int32} {q_readAt : Nat → Int32} {q_meant : Nat → Int32} {q_readSo : Nat → Int32} {r : Int32} {v1 : Int32} (h : f_X5_ownerOf fu q_tenants q_owned v1 = some r) : mm_Ok mX5_ownerOf [.ref 0, .int v1] (W_X5 q_wide q_high q_slackNow q_tenants q_letters q_readings q_kinds q_painOf q_payFor q_refused q_owned q_litIn q_shapes q_readAt q_meant q_readSo) (P_X5_ownerOf q_wide q_high q_slackNow q_tenants q_letters q_readings q_kinds q_painOf q_payFor q_refused q_owned q_litIn q_shapes q_readAt q_meant q_readSo r) := by
  rw [f_X5_ownerOf] at h
  refine mm_Ok.of pn_X5 (l := [(0, .ref 0), (1, .int v1)]) rfl (Nat.le_of_ble_eq_true rfl) ?_
  refine mm_iconst dX5_ownerOf_0 ki_0 (pc' := 1) rfl ?_
  refine mm_istore_n dX5_ownerOf_1 rfl (by decide) (l' := [(2, .int (0 : Int32)), (0, .ref 0), (1, .int v1)]) rfl (pc' := 2) rfl ?_
  exact mm_sub [1, 2, 0] rfl (s_X5_ownerOf_L2  _ _ h)

def P_X5_isLit (q_wide : Int32) (q_high : Int32) (q_slackNow : Int32) (q_tenants : Int32) (q_letters : Int32) (q_readings : Int32) (q_kinds : Nat → Int32) (q_painOf : Nat → Int32) (q_payFor : Nat → Int32) (q_refused : Nat → Int32) (q_owned : Nat → Int64) (q_litIn : Nat → Int64) (q_shapes : Nat → Int32) (q_readAt : Nat → Int32) (q_meant : Nat → Int32) (q_readSo : Nat → Int32) (r : Int32) : Option Value → mm_W → Prop := fun rv w => rv = some (.int r) ∧ w = (W_X5 q_wide q_high q_slackNow q_tenants q_letters q_readings q_kinds q_painOf q_payFor q_refused q_owned q_litIn q_shapes q_readAt q_meant q_readSo)
def f_X5_isLit (fu : Nat) (q_litIn : Nat → Int64) (v1 : Int32) (v2 : Int32) : Option (Int32) := mm_rd q_litIn 4 v1 fun x5 => if (lg_cmp (((x5.toUInt64 >>> (v2.toInt64.toUInt64 &&& Int64.toUInt64 63)).toInt64) &&& (1 : Int64)) (1 : Int64)) = 0 then (some ((1 : Int32))) else (some ((0 : Int32)))
set_option maxHeartbeats 4000000 in
set_option maxRecDepth 100000 in
theorem ok_X5_isLit {fu : Nat} {q_wide : Int32} {q_high : Int32} {q_slackNow : Int32} {q_tenants : Int32} {q_letters : Int32} {q_readings : Int32} {q_kinds : Nat → Int32} {q_painOf : Nat → Int32} {q_payFor : Nat → Int32} {q_refused : Nat → Int32} {q_owned : Nat → Int64} {q_litIn : Nat → Int64} {q_shapes : Nat → Int32} {q_readAt : Nat → Int32} {q_meant : Nat → Int32} {q_readSo : Nat → Int32} {r : Int32} {v1 : Int32} {v2 : Int32} (h : f_X5_isLit fu q_litIn v1 v2 = some r) : mm_Ok mX5_isLit [.ref 0, .int v1, .int v2] (W_X5 q_wide q_high q_slackNow q_tenants q_letters q_readings q_kinds q_painOf q_payFor q_refused q_owned q_litIn q_shapes q_readAt q_meant q_readSo) (P_X5_isLit q_wide q_high q_slackNow q_tenants q_letters q_readings q_kinds q_painOf q_payFor q_refused q_owned q_litIn q_shapes q_readAt q_meant q_readSo r) := by
  rw [f_X5_isLit] at h
  refine mm_Ok.of pn_X5 (l := [(0, .ref 0), (1, .int v1), (2, .int v2)]) rfl (Nat.le_of_ble_eq_true rfl) ?_
  refine mm_aload_n 0 dX5_isLit_0 rfl rfl (pc' := 1) rfl ?_
  refine mm_getf fG_X5_47 dX5_isLit_1 rfl rfl (pc' := 4) rfl ?_
  refine mm_iload_n 1 dX5_isLit_4 rfl rfl (pc' := 5) rfl ?_
  obtain ⟨x5, c5, e5, h⟩ := mm_rd_of h
  refine mm_lald dX5_isLit_5 rfl c5 e5 (pc' := 6) rfl ?_
  clear c5 e5
  refine mm_iload_n 2 dX5_isLit_6 rfl rfl (pc' := 7) rfl ?_
  refine mm_lushr dX5_isLit_7 (pc' := 8) rfl ?_
  refine mm_lconst dX5_isLit_8 (by decide : _ = (1 : Int64)) (pc' := 9) rfl ?_
  refine mm_land dX5_isLit_9 (pc' := 10) rfl ?_
  refine mm_lconst dX5_isLit_10 (by decide : _ = (1 : Int64)) (pc' := 11) rfl ?_
  refine mm_lcmp dX5_isLit_11 (pc' := 12) rfl ?_
  refine mm_if_ne (tgt := 19) dX5_isLit_12 (by decide) (pc' := 15) rfl (fun c => ?_) (fun c => ?_)
  · replace h := mm_if h c
    clear c
    refine mm_iconst dX5_isLit_19 ki_0 (pc' := 20) rfl ?_
    have h9 := Option.some.inj h
    subst h9
    exact mm_zret rfl (by decide) dX5_isLit_20 ⟨rfl, rfl⟩
  · replace h := mm_it h c
    clear c
    refine mm_iconst dX5_isLit_15 ki_1 (pc' := 16) rfl ?_
    refine mm_goto (tgt := 20) dX5_isLit_16 (by decide) ?_
    have h9 := Option.some.inj h
    subst h9
    exact mm_zret rfl (by decide) dX5_isLit_20 ⟨rfl, rfl⟩

def P_X5_painsOfTenant  (r : Int32) : Option Value → mm_W → Prop := fun rv w => rv = some (.int r) ∧ w = []
def X5_painsOfTenant_J12 (fu : Nat)   (v0 : Int32) (v1 : Int32) (v2 : Int32) (s0 : Int32) : Option (Int32) := if v0 = (1 : Int32) then (some (s0)) else (if v0 = (2 : Int32) then (if (2 : Int32) ≤ v2 then (some (v1)) else (some ((0 : Int32)))) else (if v0 = (3 : Int32) then (some ((s0 + (3 : Int32)))) else (if v0 = (4 : Int32) then (some ((s0 + (3 : Int32)))) else (if v0 = (5 : Int32) then (some ((0 : Int32))) else (some (v1))))))
set_option maxHeartbeats 4000000 in
set_option maxRecDepth 100000 in
theorem s_X5_painsOfTenant_J12 {fu : Nat} {r : Int32} {v0 : Int32} {v1 : Int32} {v2 : Int32} {s0 : Int32} (h : X5_painsOfTenant_J12 fu v0 v1 v2 s0 = some r) : mm_Wp mX5_painsOfTenant (mm_R (P_X5_painsOfTenant r)) 0 0 12 [(0, .int v0), (1, .int v1), (2, .int v2)] [.int s0] [] := by
  rw [X5_painsOfTenant_J12] at h
  refine mm_istore_n dX5_painsOfTenant_12 rfl (by decide) (l' := [(3, .int s0), (0, .int v0), (1, .int v1), (2, .int v2)]) rfl (pc' := 13) rfl ?_
  refine mm_iload_n 1 dX5_painsOfTenant_13 rfl rfl (pc' := 14) rfl ?_
  by_cases c1 : v0 = (1 : Int32)
  · replace h := mm_it h c1
    refine mm_tswIn (off := 34) (tgt := 48) (1 : Int32) c1 dX5_painsOfTenant_14 (by decide) (by decide) (by decide) (by decide) ?_
    clear c1
    refine mm_iload_n 0 dX5_painsOfTenant_48 rfl rfl (pc' := 49) rfl ?_
    have h9 := Option.some.inj h
    subst h9
    exact mm_iret rfl dX5_painsOfTenant_49 ⟨rfl, rfl⟩
  replace h := mm_if h c1
  by_cases c2 : v0 = (2 : Int32)
  · replace h := mm_it h c2
    refine mm_tswIn (off := 36) (tgt := 50) (2 : Int32) c2 dX5_painsOfTenant_14 (by decide) (by decide) (by decide) (by decide) ?_
    clear c1 c2
    refine mm_iload_n 3 dX5_painsOfTenant_50 rfl rfl (pc' := 51) rfl ?_
    refine mm_iconst dX5_painsOfTenant_51 ki_2 (pc' := 52) rfl ?_
    refine mm_icmp_ge (tgt := 59) dX5_painsOfTenant_52 (by decide) (pc' := 55) rfl (fun c => ?_) (fun c => ?_)
    · replace h := mm_it h c
      clear c
      refine mm_iload_n 2 dX5_painsOfTenant_59 rfl rfl (pc' := 60) rfl ?_
      have h9 := Option.some.inj h
      subst h9
      exact mm_iret rfl dX5_painsOfTenant_60 ⟨rfl, rfl⟩
    · replace h := mm_if h c
      clear c
      refine mm_iconst dX5_painsOfTenant_55 ki_0 (pc' := 56) rfl ?_
      refine mm_goto (tgt := 60) dX5_painsOfTenant_56 (by decide) ?_
      have h9 := Option.some.inj h
      subst h9
      exact mm_iret rfl dX5_painsOfTenant_60 ⟨rfl, rfl⟩
  replace h := mm_if h c2
  by_cases c3 : v0 = (3 : Int32)
  · replace h := mm_it h c3
    refine mm_tswIn (off := 47) (tgt := 61) (3 : Int32) c3 dX5_painsOfTenant_14 (by decide) (by decide) (by decide) (by decide) ?_
    clear c1 c2 c3
    refine mm_iload_n 0 dX5_painsOfTenant_61 rfl rfl (pc' := 62) rfl ?_
    refine mm_iconst dX5_painsOfTenant_62 ki_3 (pc' := 63) rfl ?_
    refine mm_iadd dX5_painsOfTenant_63 (pc' := 64) rfl ?_
    have h9 := Option.some.inj h
    subst h9
    exact mm_iret rfl dX5_painsOfTenant_64 ⟨rfl, rfl⟩
  replace h := mm_if h c3
  by_cases c4 : v0 = (4 : Int32)
  · replace h := mm_it h c4
    refine mm_tswIn (off := 51) (tgt := 65) (4 : Int32) c4 dX5_painsOfTenant_14 (by decide) (by decide) (by decide) (by decide) ?_
    clear c1 c2 c3 c4
    refine mm_iload_n 0 dX5_painsOfTenant_65 rfl rfl (pc' := 66) rfl ?_
    refine mm_iconst dX5_painsOfTenant_66 ki_3 (pc' := 67) rfl ?_
    refine mm_iadd dX5_painsOfTenant_67 (pc' := 68) rfl ?_
    have h9 := Option.some.inj h
    subst h9
    exact mm_iret rfl dX5_painsOfTenant_68 ⟨rfl, rfl⟩
  replace h := mm_if h c4
  by_cases c5 : v0 = (5 : Int32)
  · replace h := mm_it h c5
    refine mm_tswIn (off := 55) (tgt := 69) (5 : Int32) c5 dX5_painsOfTenant_14 (by decide) (by decide) (by decide) (by decide) ?_
    clear c1 c2 c3 c4 c5
    refine mm_iconst dX5_painsOfTenant_69 ki_0 (pc' := 70) rfl ?_
    have h9 := Option.some.inj h
    subst h9
    exact mm_iret rfl dX5_painsOfTenant_70 ⟨rfl, rfl⟩
  replace h := mm_if h c5
  refine mm_tswOut (tgt := 71) 1 5 [1, 2, 3, 4, 5] (by decide +kernel) (mm_fa c1 (mm_fa c2 (mm_fa c3 (mm_fa c4 (mm_fa c5 mm_f0))))) dX5_painsOfTenant_14 rfl rfl (by decide) ?_
  clear c1 c2 c3 c4 c5
  refine mm_iload_n 2 dX5_painsOfTenant_71 rfl rfl (pc' := 72) rfl ?_
  have h9 := Option.some.inj h
  subst h9
  exact mm_iret rfl dX5_painsOfTenant_72 ⟨rfl, rfl⟩
def f_X5_painsOfTenant (fu : Nat) (v0 : Int32) (v1 : Int32) (v2 : Int32) : Option (Int32) := if v2 < (2 : Int32) then (X5_painsOfTenant_J12 fu v0 v1 v2 v1) else (X5_painsOfTenant_J12 fu v0 v1 v2 ((2 : Int32) * v1))
set_option maxHeartbeats 4000000 in
set_option maxRecDepth 100000 in
theorem ok_X5_painsOfTenant {fu : Nat} {r : Int32} {v0 : Int32} {v1 : Int32} {v2 : Int32} (h : f_X5_painsOfTenant fu v0 v1 v2 = some r) : mm_Ok mX5_painsOfTenant [.int v0, .int v1, .int v2] [] (P_X5_painsOfTenant r) := by
  rw [f_X5_painsOfTenant] at h
  refine mm_Ok.of pn_X5 (l := [(0, .int v0), (1, .int v1), (2, .int v2)]) rfl (Nat.le_of_ble_eq_true rfl) ?_
  refine mm_iload_n 2 dX5_painsOfTenant_0 rfl rfl (pc' := 1) rfl ?_
  refine mm_iconst dX5_painsOfTenant_1 ki_2 (pc' := 2) rfl ?_
  refine mm_icmp_lt (tgt := 11) dX5_painsOfTenant_2 (by decide) (pc' := 5) rfl (fun c => ?_) (fun c => ?_)
  · replace h := mm_it h c
    clear c
    refine mm_iload_n 1 dX5_painsOfTenant_11 rfl rfl (pc' := 12) rfl ?_
    exact s_X5_painsOfTenant_J12  h
  · replace h := mm_if h c
    clear c
    refine mm_iconst dX5_painsOfTenant_5 ki_2 (pc' := 6) rfl ?_
    refine mm_iload_n 1 dX5_painsOfTenant_6 rfl rfl (pc' := 7) rfl ?_
    refine mm_imul dX5_painsOfTenant_7 (pc' := 8) rfl ?_
    refine mm_goto (tgt := 12) dX5_painsOfTenant_8 (by decide) ?_
    exact s_X5_painsOfTenant_J12  h

def P_X5_painsOfChange (q_wide : Int32) (q_high : Int32) (q_slackNow : Int32) (q_tenants : Int32) (q_letters : Int32) (q_readings : Int32) (q_kinds : Nat → Int32) (q_painOf : Nat → Int32) (q_payFor : Nat → Int32) (q_refused : Nat → Int32) (q_owned : Nat → Int64) (q_litIn : Nat → Int64) (q_shapes : Nat → Int32) (q_readAt : Nat → Int32) (q_meant : Nat → Int32) (q_readSo : Nat → Int32) (r : Int32) : Option Value → mm_W → Prop := fun rv w => rv = some (.int r) ∧ w = (W_X5 q_wide q_high q_slackNow q_tenants q_letters q_readings q_kinds q_painOf q_payFor q_refused q_owned q_litIn q_shapes q_readAt q_meant q_readSo)
def X5_painsOfChange_J30 (fu : Nat)  (q_tenants : Int32) (q_kinds : Nat → Int32) (q_painOf : Nat → Int32) (q_owned : Nat → Int64) (q_litIn : Nat → Int64)   : Option (Int32) := some ((-1 : Int32))
set_option maxHeartbeats 4000000 in
set_option maxRecDepth 100000 in
theorem s_X5_painsOfChange_J30 {fu : Nat} {q_wide : Int32} {q_high : Int32} {q_slackNow : Int32} {q_tenants : Int32} {q_letters : Int32} {q_readings : Int32} {q_kinds : Nat → Int32} {q_painOf : Nat → Int32} {q_payFor : Nat → Int32} {q_refused : Nat → Int32} {q_owned : Nat → Int64} {q_litIn : Nat → Int64} {q_shapes : Nat → Int32} {q_readAt : Nat → Int32} {q_meant : Nat → Int32} {q_readSo : Nat → Int32} {r : Int32} (h : X5_painsOfChange_J30 fu q_tenants q_kinds q_painOf q_owned q_litIn = some r) : mm_Wp mX5_painsOfChange (mm_R (P_X5_painsOfChange q_wide q_high q_slackNow q_tenants q_letters q_readings q_kinds q_painOf q_payFor q_refused q_owned q_litIn q_shapes q_readAt q_meant q_readSo r)) 0 0 30 [] [] (W_X5 q_wide q_high q_slackNow q_tenants q_letters q_readings q_kinds q_painOf q_payFor q_refused q_owned q_litIn q_shapes q_readAt q_meant q_readSo) := by
  rw [X5_painsOfChange_J30] at h
  refine mm_iconst dX5_painsOfChange_30 ki_m1 (pc' := 31) rfl ?_
  have h9 := Option.some.inj h
  subst h9
  exact mm_iret rfl dX5_painsOfChange_31 ⟨rfl, rfl⟩
def X5_painsOfChange_J32 (fu : Nat)  (q_tenants : Int32) (q_kinds : Nat → Int32) (q_painOf : Nat → Int32) (q_owned : Nat → Int64) (q_litIn : Nat → Int64) (v2 : Int32) (v3 : Int32)  : Option (Int32) := mm_rd q_kinds 6 v3 fun x37 => mm_rd q_painOf 6 v3 fun x43 => (f_X5_painsOfTenant fu x37 x43 v2).bind fun t45 => some (t45)
set_option maxHeartbeats 4000000 in
set_option maxRecDepth 100000 in
theorem s_X5_painsOfChange_J32 {fu : Nat} {q_wide : Int32} {q_high : Int32} {q_slackNow : Int32} {q_tenants : Int32} {q_letters : Int32} {q_readings : Int32} {q_kinds : Nat → Int32} {q_painOf : Nat → Int32} {q_payFor : Nat → Int32} {q_refused : Nat → Int32} {q_owned : Nat → Int64} {q_litIn : Nat → Int64} {q_shapes : Nat → Int32} {q_readAt : Nat → Int32} {q_meant : Nat → Int32} {q_readSo : Nat → Int32} {r : Int32} {v2 : Int32} {v3 : Int32} (h : X5_painsOfChange_J32 fu q_tenants q_kinds q_painOf q_owned q_litIn v2 v3 = some r) : mm_Wp mX5_painsOfChange (mm_R (P_X5_painsOfChange q_wide q_high q_slackNow q_tenants q_letters q_readings q_kinds q_painOf q_payFor q_refused q_owned q_litIn q_shapes q_readAt q_meant q_readSo r)) 0 0 32 [(0, .ref 0), (2, .int v2), (3, .int v3)] [] (W_X5 q_wide q_high q_slackNow q_tenants q_letters q_readings q_kinds q_painOf q_payFor q_refused q_owned q_litIn q_shapes q_readAt q_meant q_readSo) := by
  rw [X5_painsOfChange_J32] at h
  refine mm_aload_n 0 dX5_painsOfChange_32 rfl rfl (pc' := 33) rfl ?_
  refine mm_getf fG_X5_30 dX5_painsOfChange_33 rfl rfl (pc' := 36) rfl ?_
  refine mm_iload_n 2 dX5_painsOfChange_36 rfl rfl (pc' := 37) rfl ?_
  obtain ⟨x37, c37, e37, h⟩ := mm_rd_of h
  refine mm_iald dX5_painsOfChange_37 rfl c37 e37 (pc' := 38) rfl ?_
  clear c37 e37
  refine mm_aload_n 0 dX5_painsOfChange_38 rfl rfl (pc' := 39) rfl ?_
  refine mm_getf fG_X5_34 dX5_painsOfChange_39 rfl rfl (pc' := 42) rfl ?_
  refine mm_iload_n 2 dX5_painsOfChange_42 rfl rfl (pc' := 43) rfl ?_
  obtain ⟨x43, c43, e43, h⟩ := mm_rd_of h
  refine mm_iald dX5_painsOfChange_43 rfl c43 e43 (pc' := 44) rfl ?_
  clear c43 e43
  refine mm_iload_n 1 dX5_painsOfChange_44 rfl rfl (pc' := 45) rfl ?_
  obtain ⟨t45, h45, h⟩ := mm_bd h
  refine mm_callS (As := [.int x37, .int x43, .int v2]) (rest := []) (av := [.int x37, .int x43, .int v2]) (wc := []) (is := []) cS_X5_112 (ok_X5_painsOfTenant h45) ⟨rfl, rfl, Nat.le_of_ble_eq_true rfl, Nat.le_of_ble_eq_true rfl⟩ dX5_painsOfChange_45 rfl rfl rfl ⟨rfl, by decide, by decide⟩ (by rintro _ _ ⟨-, rfl⟩; rfl) (Nat.le_of_ble_eq_true rfl) ⟨Nat.le_of_ble_eq_true rfl, Nat.le_of_ble_eq_true rfl⟩ (pc' := 48) rfl ?_
  rintro rv w ⟨rfl, rfl⟩
  show mm_Wp _ _ _ _ 48 [(0, .ref 0), (2, .int v2), (3, .int v3)] [.int t45] (W_X5 q_wide q_high q_slackNow q_tenants q_letters q_readings q_kinds q_painOf q_payFor q_refused q_owned q_litIn q_shapes q_readAt q_meant q_readSo)
  clear h45
  have h9 := Option.some.inj h
  subst h9
  exact mm_iret rfl dX5_painsOfChange_48 ⟨rfl, rfl⟩
def f_X5_painsOfChange (fu : Nat) (q_tenants : Int32) (q_kinds : Nat → Int32) (q_painOf : Nat → Int32) (q_owned : Nat → Int64) (q_litIn : Nat → Int64) (v1 : Int32) (v2 : Int32) : Option (Int32) := (f_X5_ownerOf fu q_tenants q_owned v1).bind fun t2 => if t2 = (-1 : Int32) then (X5_painsOfChange_J30 fu q_tenants q_kinds q_painOf q_owned q_litIn) else (mm_rd q_kinds 6 t2 fun x16 => if x16 = (4 : Int32) then ((f_X5_isLit fu q_litIn v2 v1).bind fun t24 => if t24 = 0 then (X5_painsOfChange_J30 fu q_tenants q_kinds q_painOf q_owned q_litIn) else (X5_painsOfChange_J32 fu q_tenants q_kinds q_painOf q_owned q_litIn v2 t2)) else (X5_painsOfChange_J32 fu q_tenants q_kinds q_painOf q_owned q_litIn v2 t2))
set_option maxHeartbeats 4000000 in
set_option maxRecDepth 100000 in
theorem ok_X5_painsOfChange {fu : Nat} {q_wide : Int32} {q_high : Int32} {q_slackNow : Int32} {q_tenants : Int32} {q_letters : Int32} {q_readings : Int32} {q_kinds : Nat → Int32} {q_painOf : Nat → Int32} {q_payFor : Nat → Int32} {q_refused : Nat → Int32} {q_owned : Nat → Int64} {q_litIn : Nat → Int64} {q_shapes : Nat → Int32} {q_readAt : Nat → Int32} {q_meant : Nat → Int32} {q_readSo : Nat → Int32} {r : Int32} {v1 : Int32} {v2 : Int32} (h : f_X5_painsOfChange fu q_tenants q_kinds q_painOf q_owned q_litIn v1 v2 = some r) : mm_Ok mX5_painsOfChange [.ref 0, .int v1, .int v2] (W_X5 q_wide q_high q_slackNow q_tenants q_letters q_readings q_kinds q_painOf q_payFor q_refused q_owned q_litIn q_shapes q_readAt q_meant q_readSo) (P_X5_painsOfChange q_wide q_high q_slackNow q_tenants q_letters q_readings q_kinds q_painOf q_payFor q_refused q_owned q_litIn q_shapes q_readAt q_meant q_readSo r) := by
  rw [f_X5_painsOfChange] at h
  refine mm_Ok.of pn_X5 (l := [(0, .ref 0), (1, .int v1), (2, .int v2)]) rfl (Nat.le_of_ble_eq_true rfl) ?_
  refine mm_aload_n 0 dX5_painsOfChange_0 rfl rfl (pc' := 1) rfl ?_
  refine mm_iload_n 1 dX5_painsOfChange_1 rfl rfl (pc' := 2) rfl ?_
  obtain ⟨t2, h2, h⟩ := mm_bd h
  refine mm_call0 (As := [.int v1]) (rest := []) cV_X5_89 (ok_X5_ownerOf h2) ⟨rfl, rfl, Nat.le_of_ble_eq_true rfl, Nat.le_of_ble_eq_true rfl⟩ dX5_painsOfChange_2 rfl rfl rfl rfl (by rintro _ _ ⟨-, rfl⟩; rfl) (Nat.le_of_ble_eq_true rfl) ⟨Nat.le_of_ble_eq_true rfl, Nat.le_of_ble_eq_true rfl⟩ (pc' := 5) rfl ?_
  rintro rv w ⟨rfl, rfl⟩
  show mm_Wp _ _ _ _ 5 [(0, .ref 0), (1, .int v1), (2, .int v2)] [.int t2] (W_X5 q_wide q_high q_slackNow q_tenants q_letters q_readings q_kinds q_painOf q_payFor q_refused q_owned q_litIn q_shapes q_readAt q_meant q_readSo)
  clear h2
  refine mm_istore_n dX5_painsOfChange_5 rfl (by decide) (l' := [(3, .int t2), (0, .ref 0), (1, .int v1), (2, .int v2)]) rfl (pc' := 6) rfl ?_
  refine mm_iload_n 0 dX5_painsOfChange_6 rfl rfl (pc' := 7) rfl ?_
  refine mm_iconst dX5_painsOfChange_7 ki_m1 (pc' := 8) rfl ?_
  refine mm_icmp_eq (tgt := 30) dX5_painsOfChange_8 (by decide) (pc' := 11) rfl (fun c => ?_) (fun c => ?_)
  · replace h := mm_it h c
    clear c
    exact mm_sub [] rfl (s_X5_painsOfChange_J30  h)
  · replace h := mm_if h c
    clear c
    refine mm_aload_n 1 dX5_painsOfChange_11 rfl rfl (pc' := 12) rfl ?_
    refine mm_getf fG_X5_30 dX5_painsOfChange_12 rfl rfl (pc' := 15) rfl ?_
    refine mm_iload_n 0 dX5_painsOfChange_15 rfl rfl (pc' := 16) rfl ?_
    obtain ⟨x16, c16, e16, h⟩ := mm_rd_of h
    refine mm_iald dX5_painsOfChange_16 rfl c16 e16 (pc' := 17) rfl ?_
    clear c16 e16
    refine mm_iconst dX5_painsOfChange_17 ki_4 (pc' := 18) rfl ?_
    refine mm_icmp_ne (tgt := 32) dX5_painsOfChange_18 (by decide) (pc' := 21) rfl (fun c => ?_) (fun c => ?_)
    · replace h := mm_if h c
      clear c
      exact mm_sub [1, 3, 0] rfl (s_X5_painsOfChange_J32  h)
    · replace h := mm_it h c
      clear c
      refine mm_aload_n 1 dX5_painsOfChange_21 rfl rfl (pc' := 22) rfl ?_
      refine mm_iload_n 3 dX5_painsOfChange_22 rfl rfl (pc' := 23) rfl ?_
      refine mm_iload_n 2 dX5_painsOfChange_23 rfl rfl (pc' := 24) rfl ?_
      obtain ⟨t24, h24, h⟩ := mm_bd h
      refine mm_call0 (As := [.int v2, .int v1]) (rest := []) cV_X5_101 (ok_X5_isLit h24) ⟨rfl, rfl, Nat.le_of_ble_eq_true rfl, Nat.le_of_ble_eq_true rfl⟩ dX5_painsOfChange_24 rfl rfl rfl rfl (by rintro _ _ ⟨-, rfl⟩; rfl) (Nat.le_of_ble_eq_true rfl) ⟨Nat.le_of_ble_eq_true rfl, Nat.le_of_ble_eq_true rfl⟩ (pc' := 27) rfl ?_
      rintro rv w ⟨rfl, rfl⟩
      show mm_Wp _ _ _ _ 27 [(3, .int t2), (0, .ref 0), (1, .int v1), (2, .int v2)] [.int t24] (W_X5 q_wide q_high q_slackNow q_tenants q_letters q_readings q_kinds q_painOf q_payFor q_refused q_owned q_litIn q_shapes q_readAt q_meant q_readSo)
      clear h24
      refine mm_if_ne (tgt := 32) dX5_painsOfChange_27 (by decide) (pc' := 30) rfl (fun c => ?_) (fun c => ?_)
      · replace h := mm_if h c
        clear c
        exact mm_sub [1, 3, 0] rfl (s_X5_painsOfChange_J32  h)
      · replace h := mm_it h c
        clear c
        exact mm_sub [] rfl (s_X5_painsOfChange_J30  h)

def P_X3_window (q_y : Int32) (q_boxes : Int32) (q_lastColumn : Int32) (q_lastTop : Int32) (q_columns : Nat → Int32) (r : Int32) : Option Value → mm_W → Prop := fun rv w => rv = some (.int r) ∧ w = (W_X3 q_y q_boxes q_lastColumn q_lastTop q_columns)
def f_X3_window (fu : Nat) (q_y : Int32) (q_columns : Nat → Int32) (v1 : Int32) : Option (Int32) := mm_rd q_columns 3 v1 fun x12 => some ((((12 : Int32) * q_y) + x12))
set_option maxHeartbeats 4000000 in
set_option maxRecDepth 100000 in
theorem ok_X3_window {fu : Nat} {q_y : Int32} {q_boxes : Int32} {q_lastColumn : Int32} {q_lastTop : Int32} {q_columns : Nat → Int32} {r : Int32} {v1 : Int32} (h : f_X3_window fu q_y q_columns v1 = some r) : mm_Ok mX3_window [.ref 0, .int v1] (W_X3 q_y q_boxes q_lastColumn q_lastTop q_columns) (P_X3_window q_y q_boxes q_lastColumn q_lastTop q_columns r) := by
  rw [f_X3_window] at h
  refine mm_Ok.of pn_X3 (l := [(0, .ref 0), (1, .int v1)]) rfl (Nat.le_of_ble_eq_true rfl) ?_
  refine mm_bipush dX3_window_0 kb_12 (pc' := 2) rfl ?_
  refine mm_aload_n 0 dX3_window_2 rfl rfl (pc' := 3) rfl ?_
  refine mm_getf fG_X3_15 dX3_window_3 rfl rfl (pc' := 6) rfl ?_
  refine mm_imul dX3_window_6 (pc' := 7) rfl ?_
  refine mm_aload_n 0 dX3_window_7 rfl rfl (pc' := 8) rfl ?_
  refine mm_getf fG_X3_9 dX3_window_8 rfl rfl (pc' := 11) rfl ?_
  refine mm_iload_n 1 dX3_window_11 rfl rfl (pc' := 12) rfl ?_
  obtain ⟨x12, c12, e12, h⟩ := mm_rd_of h
  refine mm_iald dX3_window_12 rfl c12 e12 (pc' := 13) rfl ?_
  clear c12 e12
  refine mm_iadd dX3_window_13 (pc' := 14) rfl ?_
  have h9 := Option.some.inj h
  subst h9
  exact mm_iret rfl dX3_window_14 ⟨rfl, rfl⟩

def P_X3_goOn (q_boxes : Int32) (q_lastColumn : Int32) (q_lastTop : Int32) (r : Int32 × Int32 × (Nat → Int32)) : Option Value → mm_W → Prop := fun rv w => rv = some (.int r.1) ∧ w = (W_X3 r.2.1 q_boxes q_lastColumn q_lastTop r.2.2)
def X3_goOn_L7 (fu : Nat)  (q_y : Int32) (q_boxes : Int32) (q_lastColumn : Int32) (q_lastTop : Int32) (q_columns : Nat → Int32)  : Nat → Int32 → Option (Int32 × Int32 × (Nat → Int32))
  | 0, _ => none
  | n + 1, v1 => if v1 < 0 then ((f_X3_packFrom fu q_boxes q_columns (0 : Int32) (0 : Int32)).bind fun t59 => if q_lastTop < (q_y + (1 : Int32)) then (some ((0 : Int32), q_y + (1 : Int32), t59)) else (some ((1 : Int32), q_y + (1 : Int32), t59))) else (mm_rd q_columns 3 v1 fun x16 => (f_X3_mostToRight fu q_boxes q_lastColumn v1).bind fun t19 => if t19 ≤ x16 then ((X3_goOn_L7 fu q_y q_boxes q_lastColumn q_lastTop q_columns n) (v1 + (-1 : Int32))) else (mm_rd q_columns 3 v1 fun x32 => (f_X3_packFrom fu q_boxes q_columns v1 (x32 + (1 : Int32))).bind fun t35 => some ((1 : Int32), q_y, t35)))
set_option maxHeartbeats 4000000 in
set_option maxRecDepth 100000 in
theorem s_X3_goOn_L7 {fu : Nat} {q_y : Int32} {q_boxes : Int32} {q_lastColumn : Int32} {q_lastTop : Int32} {q_columns : Nat → Int32} {r : Int32 × Int32 × (Nat → Int32)} : ∀ (n : Nat) (v1 : Int32), X3_goOn_L7 fu q_y q_boxes q_lastColumn q_lastTop q_columns n v1 = some r → mm_Wp mX3_goOn (mm_R (P_X3_goOn q_boxes q_lastColumn q_lastTop r)) 0 0 7 [(0, .ref 0), (1, .int v1)] [] (W_X3 q_y q_boxes q_lastColumn q_lastTop q_columns) := by
  intro n
  induction n with
  | zero =>
    intro v1 h
    rw [X3_goOn_L7] at h
    cases h
  | succ n hr7 =>
    intro v1 h
    rw [X3_goOn_L7] at h
    refine mm_iload_n 1 dX3_goOn_7 rfl rfl (pc' := 8) rfl ?_
    refine mm_if_lt (tgt := 46) dX3_goOn_8 (by decide) (pc' := 11) rfl (fun c => ?_) (fun c => ?_)
    · replace h := mm_it h c
      clear c
      refine mm_aload_n 0 dX3_goOn_46 rfl rfl (pc' := 47) rfl ?_
      refine mm_dup dX3_goOn_47 rfl (pc' := 48) rfl ?_
      refine mm_getf fG_X3_15 dX3_goOn_48 rfl rfl (pc' := 51) rfl ?_
      refine mm_iconst dX3_goOn_51 ki_1 (pc' := 52) rfl ?_
      refine mm_iadd dX3_goOn_52 (pc' := 53) rfl ?_
      refine mm_putf fP_X3_15 dX3_goOn_53 rfl (Nat.le_of_ble_eq_true rfl) (fun _ => rfl) (fun _ => rfl) (ws' := (W_X3 (q_y + (1 : Int32)) q_boxes q_lastColumn q_lastTop q_columns)) rfl (pc' := 56) rfl ?_
      refine mm_aload_n 0 dX3_goOn_56 rfl rfl (pc' := 57) rfl ?_
      refine mm_iconst dX3_goOn_57 ki_0 (pc' := 58) rfl ?_
      refine mm_iconst dX3_goOn_58 ki_0 (pc' := 59) rfl ?_
      obtain ⟨t59, h59, h⟩ := mm_bd h
      refine mm_call0 (As := [.int (0 : Int32), .int (0 : Int32)]) (rest := []) cV_X3_36 (ok_X3_packFrom h59) ⟨rfl, rfl, Nat.le_of_ble_eq_true rfl, Nat.le_of_ble_eq_true rfl⟩ dX3_goOn_59 rfl rfl rfl rfl (by rintro _ _ ⟨-, rfl⟩; rfl) (Nat.le_of_ble_eq_true rfl) ⟨Nat.le_of_ble_eq_true rfl, Nat.le_of_ble_eq_true rfl⟩ (pc' := 62) rfl ?_
      rintro rv w ⟨rfl, rfl⟩
      show mm_Wp _ _ _ _ 62 [(0, .ref 0), (1, .int v1)] [] (W_X3 (q_y + (1 : Int32)) q_boxes q_lastColumn q_lastTop t59)
      clear h59
      refine mm_aload_n 0 dX3_goOn_62 rfl rfl (pc' := 63) rfl ?_
      refine mm_getf fG_X3_15 dX3_goOn_63 rfl rfl (pc' := 66) rfl ?_
      refine mm_aload_n 0 dX3_goOn_66 rfl rfl (pc' := 67) rfl ?_
      refine mm_getf fG_X3_25 dX3_goOn_67 rfl rfl (pc' := 70) rfl ?_
      refine mm_icmp_gt (tgt := 77) dX3_goOn_70 (by decide) (pc' := 73) rfl (fun c => ?_) (fun c => ?_)
      · replace h := mm_it h c
        clear c
        refine mm_iconst dX3_goOn_77 ki_0 (pc' := 78) rfl ?_
        have h9 := Option.some.inj h
        subst h9
        exact mm_zret rfl (by decide) dX3_goOn_78 ⟨rfl, rfl⟩
      · replace h := mm_if h c
        clear c
        refine mm_iconst dX3_goOn_73 ki_1 (pc' := 74) rfl ?_
        refine mm_goto (tgt := 78) dX3_goOn_74 (by decide) ?_
        have h9 := Option.some.inj h
        subst h9
        exact mm_zret rfl (by decide) dX3_goOn_78 ⟨rfl, rfl⟩
    · replace h := mm_if h c
      clear c
      refine mm_aload_n 0 dX3_goOn_11 rfl rfl (pc' := 12) rfl ?_
      refine mm_getf fG_X3_9 dX3_goOn_12 rfl rfl (pc' := 15) rfl ?_
      refine mm_iload_n 1 dX3_goOn_15 rfl rfl (pc' := 16) rfl ?_
      obtain ⟨x16, c16, e16, h⟩ := mm_rd_of h
      refine mm_iald dX3_goOn_16 rfl c16 e16 (pc' := 17) rfl ?_
      clear c16 e16
      refine mm_aload_n 0 dX3_goOn_17 rfl rfl (pc' := 18) rfl ?_
      refine mm_iload_n 1 dX3_goOn_18 rfl rfl (pc' := 19) rfl ?_
      obtain ⟨t19, h19, h⟩ := mm_bd h
      refine mm_call0 (As := [.int v1]) (rest := [.int x16]) cV_X3_40 (ok_X3_mostToRight h19) ⟨rfl, rfl, Nat.le_of_ble_eq_true rfl, Nat.le_of_ble_eq_true rfl⟩ dX3_goOn_19 rfl rfl rfl rfl (by rintro _ _ ⟨-, rfl⟩; rfl) (Nat.le_of_ble_eq_true rfl) ⟨Nat.le_of_ble_eq_true rfl, Nat.le_of_ble_eq_true rfl⟩ (pc' := 22) rfl ?_
      rintro rv w ⟨rfl, rfl⟩
      show mm_Wp _ _ _ _ 22 [(0, .ref 0), (1, .int v1)] [.int t19, .int x16] (W_X3 q_y q_boxes q_lastColumn q_lastTop q_columns)
      clear h19
      refine mm_icmp_ge (tgt := 40) dX3_goOn_22 (by decide) (pc' := 25) rfl (fun c => ?_) (fun c => ?_)
      · replace h := mm_it h c
        clear c
        refine mm_iinc 1 dX3_goOn_40 rfl ki_m1 (by decide) (l' := [(1, .int (v1 + (-1 : Int32))), (0, .ref 0)]) rfl (pc' := 43) rfl ?_
        refine mm_goto (tgt := 7) dX3_goOn_43 (by decide) ?_
        exact mm_sub [1, 0] rfl (hr7 _ h)
      · replace h := mm_if h c
        clear c
        refine mm_aload_n 0 dX3_goOn_25 rfl rfl (pc' := 26) rfl ?_
        refine mm_iload_n 1 dX3_goOn_26 rfl rfl (pc' := 27) rfl ?_
        refine mm_aload_n 0 dX3_goOn_27 rfl rfl (pc' := 28) rfl ?_
        refine mm_getf fG_X3_9 dX3_goOn_28 rfl rfl (pc' := 31) rfl ?_
        refine mm_iload_n 1 dX3_goOn_31 rfl rfl (pc' := 32) rfl ?_
        obtain ⟨x32, c32, e32, h⟩ := mm_rd_of h
        refine mm_iald dX3_goOn_32 rfl c32 e32 (pc' := 33) rfl ?_
        clear c32 e32
        refine mm_iconst dX3_goOn_33 ki_1 (pc' := 34) rfl ?_
        refine mm_iadd dX3_goOn_34 (pc' := 35) rfl ?_
        obtain ⟨t35, h35, h⟩ := mm_bd h
        refine mm_call0 (As := [.int v1, .int (x32 + (1 : Int32))]) (rest := []) cV_X3_36 (ok_X3_packFrom h35) ⟨rfl, rfl, Nat.le_of_ble_eq_true rfl, Nat.le_of_ble_eq_true rfl⟩ dX3_goOn_35 rfl rfl rfl rfl (by rintro _ _ ⟨-, rfl⟩; rfl) (Nat.le_of_ble_eq_true rfl) ⟨Nat.le_of_ble_eq_true rfl, Nat.le_of_ble_eq_true rfl⟩ (pc' := 38) rfl ?_
        rintro rv w ⟨rfl, rfl⟩
        show mm_Wp _ _ _ _ 38 [(0, .ref 0), (1, .int v1)] [] (W_X3 q_y q_boxes q_lastColumn q_lastTop t35)
        clear h35
        refine mm_iconst dX3_goOn_38 ki_1 (pc' := 39) rfl ?_
        have h9 := Option.some.inj h
        subst h9
        exact mm_zret rfl (by decide) dX3_goOn_39 ⟨rfl, rfl⟩
def f_X3_goOn (fu : Nat) (q_y : Int32) (q_boxes : Int32) (q_lastColumn : Int32) (q_lastTop : Int32) (q_columns : Nat → Int32) : Option (Int32 × Int32 × (Nat → Int32)) := X3_goOn_L7 fu q_y q_boxes q_lastColumn q_lastTop q_columns fu (q_boxes - (1 : Int32))
set_option maxHeartbeats 4000000 in
set_option maxRecDepth 100000 in
theorem ok_X3_goOn {fu : Nat} {q_y : Int32} {q_boxes : Int32} {q_lastColumn : Int32} {q_lastTop : Int32} {q_columns : Nat → Int32} {r : Int32 × Int32 × (Nat → Int32)} (h : f_X3_goOn fu q_y q_boxes q_lastColumn q_lastTop q_columns = some r) : mm_Ok mX3_goOn [.ref 0] (W_X3 q_y q_boxes q_lastColumn q_lastTop q_columns) (P_X3_goOn q_boxes q_lastColumn q_lastTop r) := by
  rw [f_X3_goOn] at h
  refine mm_Ok.of pn_X3 (l := [(0, .ref 0)]) rfl (Nat.le_of_ble_eq_true rfl) ?_
  refine mm_aload_n 0 dX3_goOn_0 rfl rfl (pc' := 1) rfl ?_
  refine mm_getf fG_X3_19 dX3_goOn_1 rfl rfl (pc' := 4) rfl ?_
  refine mm_iconst dX3_goOn_4 ki_1 (pc' := 5) rfl ?_
  refine mm_isub dX3_goOn_5 (pc' := 6) rfl ?_
  refine mm_istore_n dX3_goOn_6 rfl (by decide) (l' := [(1, .int (q_boxes - (1 : Int32))), (0, .ref 0)]) rfl (pc' := 7) rfl ?_
  exact mm_sub [1, 0] rfl (s_X3_goOn_L7  _ _ h)

def P_J13_bitCount_95d88  (r : Int32) : Option Value → mm_W → Prop := fun rv w => rv = some (.int r) ∧ w = []
def f_J13_bitCount_95d88 (fu : Nat) (v0 : Int64) : Option (Int32) := mm_let (v0 - (((v0.toUInt64 >>> ((1 : Int32).toInt64.toUInt64 &&& Int64.toUInt64 63)).toInt64) &&& (6148914691236517205 : Int64))) fun y9 => mm_let ((y9 &&& (3689348814741910323 : Int64)) + (((y9.toUInt64 >>> ((2 : Int32).toInt64.toUInt64 &&& Int64.toUInt64 63)).toInt64) &&& (3689348814741910323 : Int64))) fun y23 => mm_let ((y23 + ((y23.toUInt64 >>> ((4 : Int32).toInt64.toUInt64 &&& Int64.toUInt64 63)).toInt64)) &&& (1085102592571150095 : Int64)) fun y33 => mm_let (y33 + ((y33.toUInt64 >>> ((8 : Int32).toInt64.toUInt64 &&& Int64.toUInt64 63)).toInt64)) fun y40 => mm_let (y40 + ((y40.toUInt64 >>> ((16 : Int32).toInt64.toUInt64 &&& Int64.toUInt64 63)).toInt64)) fun y47 => mm_let (y47 + ((y47.toUInt64 >>> ((32 : Int32).toInt64.toUInt64 &&& Int64.toUInt64 63)).toInt64)) fun y54 => some ((y54.toInt32 &&& (127 : Int32)))
set_option maxHeartbeats 4000000 in
set_option maxRecDepth 100000 in
theorem ok_J13_bitCount_95d88 {fu : Nat} {r : Int32} {v0 : Int64} (h : f_J13_bitCount_95d88 fu v0 = some r) : mm_Ok mJ13_bitCount_95d88 [.long v0] [] (P_J13_bitCount_95d88 r) := by
  rw [f_J13_bitCount_95d88] at h
  refine mm_Ok.of pn_J13 (l := [(0, .long v0)]) rfl (Nat.le_of_ble_eq_true rfl) ?_
  refine mm_lload_n 0 dJ13_bitCount_95d88_0 rfl rfl (pc' := 1) rfl ?_
  refine mm_lload_n 0 dJ13_bitCount_95d88_1 rfl rfl (pc' := 2) rfl ?_
  refine mm_iconst dJ13_bitCount_95d88_2 ki_1 (pc' := 3) rfl ?_
  refine mm_lushr dJ13_bitCount_95d88_3 (pc' := 4) rfl ?_
  refine mm_ldc2 kC_J13_314 dJ13_bitCount_95d88_4 (pc' := 7) rfl ?_
  refine mm_land dJ13_bitCount_95d88_7 (pc' := 8) rfl ?_
  refine mm_lsub dJ13_bitCount_95d88_8 (pc' := 9) rfl ?_
  refine mm_topl (fun y9 e => ?_)
  replace h := mm_let_of h y9 e
  clear e
  refine mm_lstore_n dJ13_bitCount_95d88_9 rfl (by decide) (l' := [(0, .long y9)]) rfl (pc' := 10) rfl ?_
  refine mm_lload_n 0 dJ13_bitCount_95d88_10 rfl rfl (pc' := 11) rfl ?_
  refine mm_ldc2 kC_J13_316 dJ13_bitCount_95d88_11 (pc' := 14) rfl ?_
  refine mm_land dJ13_bitCount_95d88_14 (pc' := 15) rfl ?_
  refine mm_lload_n 0 dJ13_bitCount_95d88_15 rfl rfl (pc' := 16) rfl ?_
  refine mm_iconst dJ13_bitCount_95d88_16 ki_2 (pc' := 17) rfl ?_
  refine mm_lushr dJ13_bitCount_95d88_17 (pc' := 18) rfl ?_
  refine mm_ldc2 kC_J13_316 dJ13_bitCount_95d88_18 (pc' := 21) rfl ?_
  refine mm_land dJ13_bitCount_95d88_21 (pc' := 22) rfl ?_
  refine mm_ladd dJ13_bitCount_95d88_22 (pc' := 23) rfl ?_
  refine mm_topl (fun y23 e => ?_)
  replace h := mm_let_of h y23 e
  clear e
  refine mm_lstore_n dJ13_bitCount_95d88_23 rfl (by decide) (l' := [(0, .long y23)]) rfl (pc' := 24) rfl ?_
  refine mm_lload_n 0 dJ13_bitCount_95d88_24 rfl rfl (pc' := 25) rfl ?_
  refine mm_lload_n 0 dJ13_bitCount_95d88_25 rfl rfl (pc' := 26) rfl ?_
  refine mm_iconst dJ13_bitCount_95d88_26 ki_4 (pc' := 27) rfl ?_
  refine mm_lushr dJ13_bitCount_95d88_27 (pc' := 28) rfl ?_
  refine mm_ladd dJ13_bitCount_95d88_28 (pc' := 29) rfl ?_
  refine mm_ldc2 kC_J13_318 dJ13_bitCount_95d88_29 (pc' := 32) rfl ?_
  refine mm_land dJ13_bitCount_95d88_32 (pc' := 33) rfl ?_
  refine mm_topl (fun y33 e => ?_)
  replace h := mm_let_of h y33 e
  clear e
  refine mm_lstore_n dJ13_bitCount_95d88_33 rfl (by decide) (l' := [(0, .long y33)]) rfl (pc' := 34) rfl ?_
  refine mm_lload_n 0 dJ13_bitCount_95d88_34 rfl rfl (pc' := 35) rfl ?_
  refine mm_lload_n 0 dJ13_bitCount_95d88_35 rfl rfl (pc' := 36) rfl ?_
  refine mm_bipush dJ13_bitCount_95d88_36 kb_8 (pc' := 38) rfl ?_
  refine mm_lushr dJ13_bitCount_95d88_38 (pc' := 39) rfl ?_
  refine mm_ladd dJ13_bitCount_95d88_39 (pc' := 40) rfl ?_
  refine mm_topl (fun y40 e => ?_)
  replace h := mm_let_of h y40 e
  clear e
  refine mm_lstore_n dJ13_bitCount_95d88_40 rfl (by decide) (l' := [(0, .long y40)]) rfl (pc' := 41) rfl ?_
  refine mm_lload_n 0 dJ13_bitCount_95d88_41 rfl rfl (pc' := 42) rfl ?_
  refine mm_lload_n 0 dJ13_bitCount_95d88_42 rfl rfl (pc' := 43) rfl ?_
  refine mm_bipush dJ13_bitCount_95d88_43 kb_16 (pc' := 45) rfl ?_
  refine mm_lushr dJ13_bitCount_95d88_45 (pc' := 46) rfl ?_
  refine mm_ladd dJ13_bitCount_95d88_46 (pc' := 47) rfl ?_
  refine mm_topl (fun y47 e => ?_)
  replace h := mm_let_of h y47 e
  clear e
  refine mm_lstore_n dJ13_bitCount_95d88_47 rfl (by decide) (l' := [(0, .long y47)]) rfl (pc' := 48) rfl ?_
  refine mm_lload_n 0 dJ13_bitCount_95d88_48 rfl rfl (pc' := 49) rfl ?_
  refine mm_lload_n 0 dJ13_bitCount_95d88_49 rfl rfl (pc' := 50) rfl ?_
  refine mm_bipush dJ13_bitCount_95d88_50 kb_32 (pc' := 52) rfl ?_
  refine mm_lushr dJ13_bitCount_95d88_52 (pc' := 53) rfl ?_
  refine mm_ladd dJ13_bitCount_95d88_53 (pc' := 54) rfl ?_
  refine mm_topl (fun y54 e => ?_)
  replace h := mm_let_of h y54 e
  clear e
  refine mm_lstore_n dJ13_bitCount_95d88_54 rfl (by decide) (l' := [(0, .long y54)]) rfl (pc' := 55) rfl ?_
  refine mm_lload_n 0 dJ13_bitCount_95d88_55 rfl rfl (pc' := 56) rfl ?_
  refine mm_l2i dJ13_bitCount_95d88_56 (pc' := 57) rfl ?_
  refine mm_bipush dJ13_bitCount_95d88_57 kb_127 (pc' := 59) rfl ?_
  refine mm_iand dJ13_bitCount_95d88_59 (pc' := 60) rfl ?_
  have h9 := Option.some.inj h
  subst h9
  exact mm_iret rfl dJ13_bitCount_95d88_60 ⟨rfl, rfl⟩

def P_X5_beAnew (q_kinds : Nat → Int32) (q_painOf : Nat → Int32) (q_payFor : Nat → Int32) (q_refused : Nat → Int32) (q_owned : Nat → Int64) (q_shapes : Nat → Int32) (q_readAt : Nat → Int32) (q_meant : Nat → Int32) (q_readSo : Nat → Int32) (r : Int32 × Int32 × Int32 × Int32 × Int32 × Int32 × (Nat → Int64)) : Option Value → mm_W → Prop := fun rv w => rv = none ∧ w = (W_X5 r.1 r.2.1 r.2.2.1 r.2.2.2.1 r.2.2.2.2.1 r.2.2.2.2.2.1 q_kinds q_painOf q_payFor q_refused q_owned r.2.2.2.2.2.2 q_shapes q_readAt q_meant q_readSo)
def X5_beAnew_L32 (fu : Nat)  (q_wide : Int32) (q_high : Int32) (q_slackNow : Int32) (q_tenants : Int32) (q_letters : Int32) (q_readings : Int32)  : Nat → (Nat → Int64) → Int32 → Option (Int32 × Int32 × Int32 × Int32 × Int32 × Int32 × (Nat → Int64))
  | 0, _, _ => none
  | n + 1, q_litIn, v3 => if (4 : Int32) ≤ v3 then (some (q_wide, q_high, q_slackNow, q_tenants, q_letters, q_readings, q_litIn)) else (mm_ck 4 v3 ((X5_beAnew_L32 fu q_wide q_high q_slackNow q_tenants q_letters q_readings n) (vp_updL q_litIn v3.toNatClampNeg (0 : Int64)) (v3 + (1 : Int32))))
set_option maxHeartbeats 4000000 in
set_option maxRecDepth 100000 in
theorem s_X5_beAnew_L32 {fu : Nat} {q_wide : Int32} {q_high : Int32} {q_slackNow : Int32} {q_tenants : Int32} {q_letters : Int32} {q_readings : Int32} {q_kinds : Nat → Int32} {q_painOf : Nat → Int32} {q_payFor : Nat → Int32} {q_refused : Nat → Int32} {q_owned : Nat → Int64} {q_shapes : Nat → Int32} {q_readAt : Nat → Int32} {q_meant : Nat → Int32} {q_readSo : Nat → Int32} {r : Int32 × Int32 × Int32 × Int32 × Int32 × Int32 × (Nat → Int64)} : ∀ (n : Nat) (q_litIn : Nat → Int64) (v3 : Int32), X5_beAnew_L32 fu q_wide q_high q_slackNow q_tenants q_letters q_readings n q_litIn v3 = some r → mm_Wp mX5_beAnew (mm_R (P_X5_beAnew q_kinds q_painOf q_payFor q_refused q_owned q_shapes q_readAt q_meant q_readSo r)) 0 0 32 [(0, .ref 0), (3, .int v3)] [] (W_X5 q_wide q_high q_slackNow q_tenants q_letters q_readings q_kinds q_painOf q_payFor q_refused q_owned q_litIn q_shapes q_readAt q_meant q_readSo) := by
  intro n
  induction n with
  | zero =>
    intro q_litIn v3 h
    rw [X5_beAnew_L32] at h
    cases h
  | succ n hr32 =>
    intro q_litIn v3 h
    rw [X5_beAnew_L32] at h
    refine mm_iload_n 1 dX5_beAnew_32 rfl rfl (pc' := 33) rfl ?_
    refine mm_iconst dX5_beAnew_33 ki_4 (pc' := 34) rfl ?_
    refine mm_icmp_ge (tgt := 50) dX5_beAnew_34 (by decide) (pc' := 37) rfl (fun c => ?_) (fun c => ?_)
    · replace h := mm_it h c
      clear c
      have h9 := Option.some.inj h
      subst h9
      exact mm_vret rfl dX5_beAnew_50 ⟨rfl, rfl⟩
    · replace h := mm_if h c
      clear c
      refine mm_aload_n 0 dX5_beAnew_37 rfl rfl (pc' := 38) rfl ?_
      refine mm_getf fG_X5_47 dX5_beAnew_38 rfl rfl (pc' := 41) rfl ?_
      refine mm_iload_n 1 dX5_beAnew_41 rfl rfl (pc' := 42) rfl ?_
      refine mm_lconst dX5_beAnew_42 (by decide : _ = (0 : Int64)) (pc' := 43) rfl ?_
      obtain ⟨c43, h⟩ := mm_ck_of h
      refine mm_last dX5_beAnew_43 rfl c43 rfl (ws' := (W_X5 q_wide q_high q_slackNow q_tenants q_letters q_readings q_kinds q_painOf q_payFor q_refused q_owned (vp_updL q_litIn v3.toNatClampNeg (0 : Int64)) q_shapes q_readAt q_meant q_readSo)) rfl (pc' := 44) rfl ?_
      clear c43
      refine mm_iinc 1 dX5_beAnew_44 rfl ki_1 (by decide) (l' := [(3, .int (v3 + (1 : Int32))), (0, .ref 0)]) rfl (pc' := 47) rfl ?_
      refine mm_goto (tgt := 32) dX5_beAnew_47 (by decide) ?_
      exact mm_sub [1, 0] rfl (hr32 _ _ h)
def f_X5_beAnew (fu : Nat) (q_wide : Int32) (q_high : Int32) (q_slackNow : Int32) (q_tenants : Int32) (q_letters : Int32) (q_readings : Int32) (q_litIn : Nat → Int64) (v1 : Int32) (v2 : Int32) : Option (Int32 × Int32 × Int32 × Int32 × Int32 × Int32 × (Nat → Int64)) := X5_beAnew_L32 fu v1 v2 (0 : Int32) (0 : Int32) (0 : Int32) (0 : Int32) fu q_litIn (0 : Int32)
set_option maxHeartbeats 4000000 in
set_option maxRecDepth 100000 in
theorem ok_X5_beAnew {fu : Nat} {q_wide : Int32} {q_high : Int32} {q_slackNow : Int32} {q_tenants : Int32} {q_letters : Int32} {q_readings : Int32} {q_kinds : Nat → Int32} {q_painOf : Nat → Int32} {q_payFor : Nat → Int32} {q_refused : Nat → Int32} {q_owned : Nat → Int64} {q_litIn : Nat → Int64} {q_shapes : Nat → Int32} {q_readAt : Nat → Int32} {q_meant : Nat → Int32} {q_readSo : Nat → Int32} {r : Int32 × Int32 × Int32 × Int32 × Int32 × Int32 × (Nat → Int64)} {v1 : Int32} {v2 : Int32} (h : f_X5_beAnew fu q_wide q_high q_slackNow q_tenants q_letters q_readings q_litIn v1 v2 = some r) : mm_Ok mX5_beAnew [.ref 0, .int v1, .int v2] (W_X5 q_wide q_high q_slackNow q_tenants q_letters q_readings q_kinds q_painOf q_payFor q_refused q_owned q_litIn q_shapes q_readAt q_meant q_readSo) (P_X5_beAnew q_kinds q_painOf q_payFor q_refused q_owned q_shapes q_readAt q_meant q_readSo r) := by
  rw [f_X5_beAnew] at h
  refine mm_Ok.of pn_X5 (l := [(0, .ref 0), (1, .int v1), (2, .int v2)]) rfl (Nat.le_of_ble_eq_true rfl) ?_
  refine mm_aload_n 0 dX5_beAnew_0 rfl rfl (pc' := 1) rfl ?_
  refine mm_iload_n 1 dX5_beAnew_1 rfl rfl (pc' := 2) rfl ?_
  refine mm_putf fP_X5_9 dX5_beAnew_2 rfl (Nat.le_of_ble_eq_true rfl) (fun _ => rfl) (fun _ => rfl) (ws' := (W_X5 v1 q_high q_slackNow q_tenants q_letters q_readings q_kinds q_painOf q_payFor q_refused q_owned q_litIn q_shapes q_readAt q_meant q_readSo)) rfl (pc' := 5) rfl ?_
  refine mm_aload_n 0 dX5_beAnew_5 rfl rfl (pc' := 6) rfl ?_
  refine mm_iload_n 2 dX5_beAnew_6 rfl rfl (pc' := 7) rfl ?_
  refine mm_putf fP_X5_15 dX5_beAnew_7 rfl (Nat.le_of_ble_eq_true rfl) (fun _ => rfl) (fun _ => rfl) (ws' := (W_X5 v1 v2 q_slackNow q_tenants q_letters q_readings q_kinds q_painOf q_payFor q_refused q_owned q_litIn q_shapes q_readAt q_meant q_readSo)) rfl (pc' := 10) rfl ?_
  refine mm_aload_n 0 dX5_beAnew_10 rfl rfl (pc' := 11) rfl ?_
  refine mm_iconst dX5_beAnew_11 ki_0 (pc' := 12) rfl ?_
  refine mm_putf fP_X5_18 dX5_beAnew_12 rfl (Nat.le_of_ble_eq_true rfl) (fun _ => rfl) (fun _ => rfl) (ws' := (W_X5 v1 v2 (0 : Int32) q_tenants q_letters q_readings q_kinds q_painOf q_payFor q_refused q_owned q_litIn q_shapes q_readAt q_meant q_readSo)) rfl (pc' := 15) rfl ?_
  refine mm_aload_n 0 dX5_beAnew_15 rfl rfl (pc' := 16) rfl ?_
  refine mm_iconst dX5_beAnew_16 ki_0 (pc' := 17) rfl ?_
  refine mm_putf fP_X5_21 dX5_beAnew_17 rfl (Nat.le_of_ble_eq_true rfl) (fun _ => rfl) (fun _ => rfl) (ws' := (W_X5 v1 v2 (0 : Int32) (0 : Int32) q_letters q_readings q_kinds q_painOf q_payFor q_refused q_owned q_litIn q_shapes q_readAt q_meant q_readSo)) rfl (pc' := 20) rfl ?_
  refine mm_aload_n 0 dX5_beAnew_20 rfl rfl (pc' := 21) rfl ?_
  refine mm_iconst dX5_beAnew_21 ki_0 (pc' := 22) rfl ?_
  refine mm_putf fP_X5_24 dX5_beAnew_22 rfl (Nat.le_of_ble_eq_true rfl) (fun _ => rfl) (fun _ => rfl) (ws' := (W_X5 v1 v2 (0 : Int32) (0 : Int32) (0 : Int32) q_readings q_kinds q_painOf q_payFor q_refused q_owned q_litIn q_shapes q_readAt q_meant q_readSo)) rfl (pc' := 25) rfl ?_
  refine mm_aload_n 0 dX5_beAnew_25 rfl rfl (pc' := 26) rfl ?_
  refine mm_iconst dX5_beAnew_26 ki_0 (pc' := 27) rfl ?_
  refine mm_putf fP_X5_27 dX5_beAnew_27 rfl (Nat.le_of_ble_eq_true rfl) (fun _ => rfl) (fun _ => rfl) (ws' := (W_X5 v1 v2 (0 : Int32) (0 : Int32) (0 : Int32) (0 : Int32) q_kinds q_painOf q_payFor q_refused q_owned q_litIn q_shapes q_readAt q_meant q_readSo)) rfl (pc' := 30) rfl ?_
  refine mm_iconst dX5_beAnew_30 ki_0 (pc' := 31) rfl ?_
  refine mm_istore_n dX5_beAnew_31 rfl (by decide) (l' := [(3, .int (0 : Int32)), (0, .ref 0), (1, .int v1), (2, .int v2)]) rfl (pc' := 32) rfl ?_
  exact mm_sub [1, 0] rfl (s_X5_beAnew_L32  _ _ _ h)

def P_X5_setSize (q_kinds : Nat → Int32) (q_painOf : Nat → Int32) (q_payFor : Nat → Int32) (q_refused : Nat → Int32) (q_owned : Nat → Int64) (q_shapes : Nat → Int32) (q_readAt : Nat → Int32) (q_meant : Nat → Int32) (q_readSo : Nat → Int32) (r : Int32 × Int32 × Int32 × Int32 × Int32 × Int32 × Int32 × (Nat → Int64)) : Option Value → mm_W → Prop := fun rv w => rv = some (.int r.1) ∧ w = (W_X5 r.2.1 r.2.2.1 r.2.2.2.1 r.2.2.2.2.1 r.2.2.2.2.2.1 r.2.2.2.2.2.2.1 q_kinds q_painOf q_payFor q_refused q_owned r.2.2.2.2.2.2.2 q_shapes q_readAt q_meant q_readSo)
def X5_setSize_J11 (fu : Nat)  (q_wide : Int32) (q_high : Int32) (q_slackNow : Int32) (q_tenants : Int32) (q_letters : Int32) (q_readings : Int32) (q_litIn : Nat → Int64)   : Option (Int32 × Int32 × Int32 × Int32 × Int32 × Int32 × Int32 × (Nat → Int64)) := some ((-2 : Int32), q_wide, q_high, q_slackNow, q_tenants, q_letters, q_readings, q_litIn)
set_option maxHeartbeats 4000000 in
set_option maxRecDepth 100000 in
theorem s_X5_setSize_J11 {fu : Nat} {q_wide : Int32} {q_high : Int32} {q_slackNow : Int32} {q_tenants : Int32} {q_letters : Int32} {q_readings : Int32} {q_kinds : Nat → Int32} {q_painOf : Nat → Int32} {q_payFor : Nat → Int32} {q_refused : Nat → Int32} {q_owned : Nat → Int64} {q_litIn : Nat → Int64} {q_shapes : Nat → Int32} {q_readAt : Nat → Int32} {q_meant : Nat → Int32} {q_readSo : Nat → Int32} {r : Int32 × Int32 × Int32 × Int32 × Int32 × Int32 × Int32 × (Nat → Int64)} (h : X5_setSize_J11 fu q_wide q_high q_slackNow q_tenants q_letters q_readings q_litIn = some r) : mm_Wp mX5_setSize (mm_R (P_X5_setSize q_kinds q_painOf q_payFor q_refused q_owned q_shapes q_readAt q_meant q_readSo r)) 0 0 11 [] [] (W_X5 q_wide q_high q_slackNow q_tenants q_letters q_readings q_kinds q_painOf q_payFor q_refused q_owned q_litIn q_shapes q_readAt q_meant q_readSo) := by
  rw [X5_setSize_J11] at h
  refine mm_bipush dX5_setSize_11 kb_m2 (pc' := 13) rfl ?_
  have h9 := Option.some.inj h
  subst h9
  exact mm_iret rfl dX5_setSize_13 ⟨rfl, rfl⟩
def X5_setSize_J24 (fu : Nat)  (q_wide : Int32) (q_high : Int32) (q_slackNow : Int32) (q_tenants : Int32) (q_letters : Int32) (q_readings : Int32) (q_litIn : Nat → Int64)   : Option (Int32 × Int32 × Int32 × Int32 × Int32 × Int32 × Int32 × (Nat → Int64)) := some ((-2 : Int32), q_wide, q_high, q_slackNow, q_tenants, q_letters, q_readings, q_litIn)
set_option maxHeartbeats 4000000 in
set_option maxRecDepth 100000 in
theorem s_X5_setSize_J24 {fu : Nat} {q_wide : Int32} {q_high : Int32} {q_slackNow : Int32} {q_tenants : Int32} {q_letters : Int32} {q_readings : Int32} {q_kinds : Nat → Int32} {q_painOf : Nat → Int32} {q_payFor : Nat → Int32} {q_refused : Nat → Int32} {q_owned : Nat → Int64} {q_litIn : Nat → Int64} {q_shapes : Nat → Int32} {q_readAt : Nat → Int32} {q_meant : Nat → Int32} {q_readSo : Nat → Int32} {r : Int32 × Int32 × Int32 × Int32 × Int32 × Int32 × Int32 × (Nat → Int64)} (h : X5_setSize_J24 fu q_wide q_high q_slackNow q_tenants q_letters q_readings q_litIn = some r) : mm_Wp mX5_setSize (mm_R (P_X5_setSize q_kinds q_painOf q_payFor q_refused q_owned q_shapes q_readAt q_meant q_readSo r)) 0 0 24 [] [] (W_X5 q_wide q_high q_slackNow q_tenants q_letters q_readings q_kinds q_painOf q_payFor q_refused q_owned q_litIn q_shapes q_readAt q_meant q_readSo) := by
  rw [X5_setSize_J24] at h
  refine mm_bipush dX5_setSize_24 kb_m2 (pc' := 26) rfl ?_
  have h9 := Option.some.inj h
  subst h9
  exact mm_iret rfl dX5_setSize_26 ⟨rfl, rfl⟩
def f_X5_setSize (fu : Nat) (q_wide : Int32) (q_high : Int32) (q_slackNow : Int32) (q_tenants : Int32) (q_letters : Int32) (q_readings : Int32) (q_litIn : Nat → Int64) (v1 : Int32) (v2 : Int32) : Option (Int32 × Int32 × Int32 × Int32 × Int32 × Int32 × Int32 × (Nat → Int64)) := if v1 < (3 : Int32) then (X5_setSize_J11 fu q_wide q_high q_slackNow q_tenants q_letters q_readings q_litIn) else (if v1 ≤ (12 : Int32) then (if v2 < (4 : Int32) then (X5_setSize_J24 fu q_wide q_high q_slackNow q_tenants q_letters q_readings q_litIn) else (if v2 ≤ (5 : Int32) then ((f_X5_beAnew fu q_wide q_high q_slackNow q_tenants q_letters q_readings q_litIn v1 v2).bind fun t30 => some ((1 : Int32), t30.1, t30.2.1, t30.2.2.1, t30.2.2.2.1, t30.2.2.2.2.1, t30.2.2.2.2.2.1, t30.2.2.2.2.2.2)) else (X5_setSize_J24 fu q_wide q_high q_slackNow q_tenants q_letters q_readings q_litIn))) else (X5_setSize_J11 fu q_wide q_high q_slackNow q_tenants q_letters q_readings q_litIn))
set_option maxHeartbeats 4000000 in
set_option maxRecDepth 100000 in
theorem ok_X5_setSize {fu : Nat} {q_wide : Int32} {q_high : Int32} {q_slackNow : Int32} {q_tenants : Int32} {q_letters : Int32} {q_readings : Int32} {q_kinds : Nat → Int32} {q_painOf : Nat → Int32} {q_payFor : Nat → Int32} {q_refused : Nat → Int32} {q_owned : Nat → Int64} {q_litIn : Nat → Int64} {q_shapes : Nat → Int32} {q_readAt : Nat → Int32} {q_meant : Nat → Int32} {q_readSo : Nat → Int32} {r : Int32 × Int32 × Int32 × Int32 × Int32 × Int32 × Int32 × (Nat → Int64)} {v1 : Int32} {v2 : Int32} (h : f_X5_setSize fu q_wide q_high q_slackNow q_tenants q_letters q_readings q_litIn v1 v2 = some r) : mm_Ok mX5_setSize [.ref 0, .int v1, .int v2] (W_X5 q_wide q_high q_slackNow q_tenants q_letters q_readings q_kinds q_painOf q_payFor q_refused q_owned q_litIn q_shapes q_readAt q_meant q_readSo) (P_X5_setSize q_kinds q_painOf q_payFor q_refused q_owned q_shapes q_readAt q_meant q_readSo r) := by
  rw [f_X5_setSize] at h
  refine mm_Ok.of pn_X5 (l := [(0, .ref 0), (1, .int v1), (2, .int v2)]) rfl (Nat.le_of_ble_eq_true rfl) ?_
  refine mm_iload_n 1 dX5_setSize_0 rfl rfl (pc' := 1) rfl ?_
  refine mm_iconst dX5_setSize_1 ki_3 (pc' := 2) rfl ?_
  refine mm_icmp_lt (tgt := 11) dX5_setSize_2 (by decide) (pc' := 5) rfl (fun c => ?_) (fun c => ?_)
  · replace h := mm_it h c
    clear c
    exact mm_sub [] rfl (s_X5_setSize_J11  h)
  · replace h := mm_if h c
    clear c
    refine mm_iload_n 1 dX5_setSize_5 rfl rfl (pc' := 6) rfl ?_
    refine mm_bipush dX5_setSize_6 kb_12 (pc' := 8) rfl ?_
    refine mm_icmp_le (tgt := 14) dX5_setSize_8 (by decide) (pc' := 11) rfl (fun c => ?_) (fun c => ?_)
    · replace h := mm_it h c
      clear c
      refine mm_iload_n 2 dX5_setSize_14 rfl rfl (pc' := 15) rfl ?_
      refine mm_iconst dX5_setSize_15 ki_4 (pc' := 16) rfl ?_
      refine mm_icmp_lt (tgt := 24) dX5_setSize_16 (by decide) (pc' := 19) rfl (fun c => ?_) (fun c => ?_)
      · replace h := mm_it h c
        clear c
        exact mm_sub [] rfl (s_X5_setSize_J24  h)
      · replace h := mm_if h c
        clear c
        refine mm_iload_n 2 dX5_setSize_19 rfl rfl (pc' := 20) rfl ?_
        refine mm_iconst dX5_setSize_20 ki_5 (pc' := 21) rfl ?_
        refine mm_icmp_le (tgt := 27) dX5_setSize_21 (by decide) (pc' := 24) rfl (fun c => ?_) (fun c => ?_)
        · replace h := mm_it h c
          clear c
          refine mm_aload_n 0 dX5_setSize_27 rfl rfl (pc' := 28) rfl ?_
          refine mm_iload_n 1 dX5_setSize_28 rfl rfl (pc' := 29) rfl ?_
          refine mm_iload_n 2 dX5_setSize_29 rfl rfl (pc' := 30) rfl ?_
          obtain ⟨t30, h30, h⟩ := mm_bd h
          refine mm_call0 (As := [.int v1, .int v2]) (rest := []) cV_X5_79 (ok_X5_beAnew h30) ⟨rfl, rfl, Nat.le_of_ble_eq_true rfl, Nat.le_of_ble_eq_true rfl⟩ dX5_setSize_30 rfl rfl rfl rfl (by rintro _ _ ⟨-, rfl⟩; rfl) (Nat.le_of_ble_eq_true rfl) ⟨Nat.le_of_ble_eq_true rfl, Nat.le_of_ble_eq_true rfl⟩ (pc' := 33) rfl ?_
          rintro rv w ⟨rfl, rfl⟩
          show mm_Wp _ _ _ _ 33 [(0, .ref 0), (1, .int v1), (2, .int v2)] [] (W_X5 t30.1 t30.2.1 t30.2.2.1 t30.2.2.2.1 t30.2.2.2.2.1 t30.2.2.2.2.2.1 q_kinds q_painOf q_payFor q_refused q_owned t30.2.2.2.2.2.2 q_shapes q_readAt q_meant q_readSo)
          clear h30
          refine mm_iconst dX5_setSize_33 ki_1 (pc' := 34) rfl ?_
          have h9 := Option.some.inj h
          subst h9
          exact mm_iret rfl dX5_setSize_34 ⟨rfl, rfl⟩
        · replace h := mm_if h c
          clear c
          exact mm_sub [] rfl (s_X5_setSize_J24  h)
    · replace h := mm_if h c
      clear c
      exact mm_sub [] rfl (s_X5_setSize_J11  h)

def P_X5_addTenant (q_wide : Int32) (q_high : Int32) (q_slackNow : Int32) (q_letters : Int32) (q_readings : Int32) (q_litIn : Nat → Int64) (q_shapes : Nat → Int32) (q_readAt : Nat → Int32) (q_meant : Nat → Int32) (q_readSo : Nat → Int32) (r : Int32 × Int32 × (Nat → Int32) × (Nat → Int32) × (Nat → Int32) × (Nat → Int32) × (Nat → Int64)) : Option Value → mm_W → Prop := fun rv w => rv = some (.int r.1) ∧ w = (W_X5 q_wide q_high q_slackNow r.2.1 q_letters q_readings r.2.2.1 r.2.2.2.1 r.2.2.2.2.1 r.2.2.2.2.2.1 r.2.2.2.2.2.2 q_litIn q_shapes q_readAt q_meant q_readSo)
def X5_addTenant_J29 (fu : Nat)  (q_tenants : Int32) (q_kinds : Nat → Int32) (q_painOf : Nat → Int32) (q_payFor : Nat → Int32) (q_refused : Nat → Int32) (q_owned : Nat → Int64)   : Option (Int32 × Int32 × (Nat → Int32) × (Nat → Int32) × (Nat → Int32) × (Nat → Int32) × (Nat → Int64)) := some ((-2 : Int32), q_tenants, q_kinds, q_painOf, q_payFor, q_refused, q_owned)
set_option maxHeartbeats 4000000 in
set_option maxRecDepth 100000 in
theorem s_X5_addTenant_J29 {fu : Nat} {q_wide : Int32} {q_high : Int32} {q_slackNow : Int32} {q_tenants : Int32} {q_letters : Int32} {q_readings : Int32} {q_kinds : Nat → Int32} {q_painOf : Nat → Int32} {q_payFor : Nat → Int32} {q_refused : Nat → Int32} {q_owned : Nat → Int64} {q_litIn : Nat → Int64} {q_shapes : Nat → Int32} {q_readAt : Nat → Int32} {q_meant : Nat → Int32} {q_readSo : Nat → Int32} {r : Int32 × Int32 × (Nat → Int32) × (Nat → Int32) × (Nat → Int32) × (Nat → Int32) × (Nat → Int64)} (h : X5_addTenant_J29 fu q_tenants q_kinds q_painOf q_payFor q_refused q_owned = some r) : mm_Wp mX5_addTenant (mm_R (P_X5_addTenant q_wide q_high q_slackNow q_letters q_readings q_litIn q_shapes q_readAt q_meant q_readSo r)) 0 0 29 [] [] (W_X5 q_wide q_high q_slackNow q_tenants q_letters q_readings q_kinds q_painOf q_payFor q_refused q_owned q_litIn q_shapes q_readAt q_meant q_readSo) := by
  rw [X5_addTenant_J29] at h
  refine mm_bipush dX5_addTenant_29 kb_m2 (pc' := 31) rfl ?_
  have h9 := Option.some.inj h
  subst h9
  exact mm_iret rfl dX5_addTenant_31 ⟨rfl, rfl⟩
def f_X5_addTenant (fu : Nat) (q_tenants : Int32) (q_kinds : Nat → Int32) (q_painOf : Nat → Int32) (q_payFor : Nat → Int32) (q_refused : Nat → Int32) (q_owned : Nat → Int64) (v1 : Int32) (v2 : Int32) (v3 : Int32) : Option (Int32 × Int32 × (Nat → Int32) × (Nat → Int32) × (Nat → Int32) × (Nat → Int32) × (Nat → Int64)) := if v1 < 0 then (X5_addTenant_J29 fu q_tenants q_kinds q_painOf q_payFor q_refused q_owned) else (if (5 : Int32) < v1 then (X5_addTenant_J29 fu q_tenants q_kinds q_painOf q_payFor q_refused q_owned) else (if v2 < 0 then (X5_addTenant_J29 fu q_tenants q_kinds q_painOf q_payFor q_refused q_owned) else (if (9 : Int32) < v2 then (X5_addTenant_J29 fu q_tenants q_kinds q_painOf q_payFor q_refused q_owned) else (if v3 < 0 then (X5_addTenant_J29 fu q_tenants q_kinds q_painOf q_payFor q_refused q_owned) else (if v3 ≤ (99 : Int32) then (if q_tenants < (6 : Int32) then (mm_ck 6 q_tenants (mm_ck 6 q_tenants (mm_ck 6 q_tenants (mm_ck 6 q_tenants (mm_ck 6 q_tenants (some (((q_tenants + (1 : Int32)) - (1 : Int32)), q_tenants + (1 : Int32), upd q_kinds q_tenants.toNatClampNeg v1, upd q_painOf q_tenants.toNatClampNeg v2, upd q_payFor q_tenants.toNatClampNeg v3, upd q_refused q_tenants.toNatClampNeg (-1 : Int32), vp_updL q_owned q_tenants.toNatClampNeg (0 : Int64)))))))) else (some ((-4 : Int32), q_tenants, q_kinds, q_painOf, q_payFor, q_refused, q_owned))) else (X5_addTenant_J29 fu q_tenants q_kinds q_painOf q_payFor q_refused q_owned))))))
set_option maxHeartbeats 4000000 in
set_option maxRecDepth 100000 in
theorem ok_X5_addTenant {fu : Nat} {q_wide : Int32} {q_high : Int32} {q_slackNow : Int32} {q_tenants : Int32} {q_letters : Int32} {q_readings : Int32} {q_kinds : Nat → Int32} {q_painOf : Nat → Int32} {q_payFor : Nat → Int32} {q_refused : Nat → Int32} {q_owned : Nat → Int64} {q_litIn : Nat → Int64} {q_shapes : Nat → Int32} {q_readAt : Nat → Int32} {q_meant : Nat → Int32} {q_readSo : Nat → Int32} {r : Int32 × Int32 × (Nat → Int32) × (Nat → Int32) × (Nat → Int32) × (Nat → Int32) × (Nat → Int64)} {v1 : Int32} {v2 : Int32} {v3 : Int32} (h : f_X5_addTenant fu q_tenants q_kinds q_painOf q_payFor q_refused q_owned v1 v2 v3 = some r) : mm_Ok mX5_addTenant [.ref 0, .int v1, .int v2, .int v3] (W_X5 q_wide q_high q_slackNow q_tenants q_letters q_readings q_kinds q_painOf q_payFor q_refused q_owned q_litIn q_shapes q_readAt q_meant q_readSo) (P_X5_addTenant q_wide q_high q_slackNow q_letters q_readings q_litIn q_shapes q_readAt q_meant q_readSo r) := by
  rw [f_X5_addTenant] at h
  refine mm_Ok.of pn_X5 (l := [(0, .ref 0), (1, .int v1), (2, .int v2), (3, .int v3)]) rfl (Nat.le_of_ble_eq_true rfl) ?_
  refine mm_iload_n 1 dX5_addTenant_0 rfl rfl (pc' := 1) rfl ?_
  refine mm_if_lt (tgt := 29) dX5_addTenant_1 (by decide) (pc' := 4) rfl (fun c => ?_) (fun c => ?_)
  · replace h := mm_it h c
    clear c
    exact mm_sub [] rfl (s_X5_addTenant_J29  h)
  · replace h := mm_if h c
    clear c
    refine mm_iload_n 1 dX5_addTenant_4 rfl rfl (pc' := 5) rfl ?_
    refine mm_iconst dX5_addTenant_5 ki_5 (pc' := 6) rfl ?_
    refine mm_icmp_gt (tgt := 29) dX5_addTenant_6 (by decide) (pc' := 9) rfl (fun c => ?_) (fun c => ?_)
    · replace h := mm_it h c
      clear c
      exact mm_sub [] rfl (s_X5_addTenant_J29  h)
    · replace h := mm_if h c
      clear c
      refine mm_iload_n 2 dX5_addTenant_9 rfl rfl (pc' := 10) rfl ?_
      refine mm_if_lt (tgt := 29) dX5_addTenant_10 (by decide) (pc' := 13) rfl (fun c => ?_) (fun c => ?_)
      · replace h := mm_it h c
        clear c
        exact mm_sub [] rfl (s_X5_addTenant_J29  h)
      · replace h := mm_if h c
        clear c
        refine mm_iload_n 2 dX5_addTenant_13 rfl rfl (pc' := 14) rfl ?_
        refine mm_bipush dX5_addTenant_14 kb_9 (pc' := 16) rfl ?_
        refine mm_icmp_gt (tgt := 29) dX5_addTenant_16 (by decide) (pc' := 19) rfl (fun c => ?_) (fun c => ?_)
        · replace h := mm_it h c
          clear c
          exact mm_sub [] rfl (s_X5_addTenant_J29  h)
        · replace h := mm_if h c
          clear c
          refine mm_iload_n 3 dX5_addTenant_19 rfl rfl (pc' := 20) rfl ?_
          refine mm_if_lt (tgt := 29) dX5_addTenant_20 (by decide) (pc' := 23) rfl (fun c => ?_) (fun c => ?_)
          · replace h := mm_it h c
            clear c
            exact mm_sub [] rfl (s_X5_addTenant_J29  h)
          · replace h := mm_if h c
            clear c
            refine mm_iload_n 3 dX5_addTenant_23 rfl rfl (pc' := 24) rfl ?_
            refine mm_bipush dX5_addTenant_24 kb_99 (pc' := 26) rfl ?_
            refine mm_icmp_le (tgt := 32) dX5_addTenant_26 (by decide) (pc' := 29) rfl (fun c => ?_) (fun c => ?_)
            · replace h := mm_it h c
              clear c
              refine mm_aload_n 0 dX5_addTenant_32 rfl rfl (pc' := 33) rfl ?_
              refine mm_getf fG_X5_21 dX5_addTenant_33 rfl rfl (pc' := 36) rfl ?_
              refine mm_bipush dX5_addTenant_36 kb_6 (pc' := 38) rfl ?_
              refine mm_icmp_lt (tgt := 44) dX5_addTenant_38 (by decide) (pc' := 41) rfl (fun c => ?_) (fun c => ?_)
              · replace h := mm_it h c
                clear c
                refine mm_aload_n 0 dX5_addTenant_44 rfl rfl (pc' := 45) rfl ?_
                refine mm_getf fG_X5_30 dX5_addTenant_45 rfl rfl (pc' := 48) rfl ?_
                refine mm_aload_n 0 dX5_addTenant_48 rfl rfl (pc' := 49) rfl ?_
                refine mm_getf fG_X5_21 dX5_addTenant_49 rfl rfl (pc' := 52) rfl ?_
                refine mm_iload_n 1 dX5_addTenant_52 rfl rfl (pc' := 53) rfl ?_
                obtain ⟨c53, h⟩ := mm_ck_of h
                refine mm_iast dX5_addTenant_53 rfl c53 rfl (ws' := (W_X5 q_wide q_high q_slackNow q_tenants q_letters q_readings (upd q_kinds q_tenants.toNatClampNeg v1) q_painOf q_payFor q_refused q_owned q_litIn q_shapes q_readAt q_meant q_readSo)) rfl (pc' := 54) rfl ?_
                clear c53
                refine mm_aload_n 0 dX5_addTenant_54 rfl rfl (pc' := 55) rfl ?_
                refine mm_getf fG_X5_34 dX5_addTenant_55 rfl rfl (pc' := 58) rfl ?_
                refine mm_aload_n 0 dX5_addTenant_58 rfl rfl (pc' := 59) rfl ?_
                refine mm_getf fG_X5_21 dX5_addTenant_59 rfl rfl (pc' := 62) rfl ?_
                refine mm_iload_n 2 dX5_addTenant_62 rfl rfl (pc' := 63) rfl ?_
                obtain ⟨c63, h⟩ := mm_ck_of h
                refine mm_iast dX5_addTenant_63 rfl c63 rfl (ws' := (W_X5 q_wide q_high q_slackNow q_tenants q_letters q_readings (upd q_kinds q_tenants.toNatClampNeg v1) (upd q_painOf q_tenants.toNatClampNeg v2) q_payFor q_refused q_owned q_litIn q_shapes q_readAt q_meant q_readSo)) rfl (pc' := 64) rfl ?_
                clear c63
                refine mm_aload_n 0 dX5_addTenant_64 rfl rfl (pc' := 65) rfl ?_
                refine mm_getf fG_X5_37 dX5_addTenant_65 rfl rfl (pc' := 68) rfl ?_
                refine mm_aload_n 0 dX5_addTenant_68 rfl rfl (pc' := 69) rfl ?_
                refine mm_getf fG_X5_21 dX5_addTenant_69 rfl rfl (pc' := 72) rfl ?_
                refine mm_iload_n 3 dX5_addTenant_72 rfl rfl (pc' := 73) rfl ?_
                obtain ⟨c73, h⟩ := mm_ck_of h
                refine mm_iast dX5_addTenant_73 rfl c73 rfl (ws' := (W_X5 q_wide q_high q_slackNow q_tenants q_letters q_readings (upd q_kinds q_tenants.toNatClampNeg v1) (upd q_painOf q_tenants.toNatClampNeg v2) (upd q_payFor q_tenants.toNatClampNeg v3) q_refused q_owned q_litIn q_shapes q_readAt q_meant q_readSo)) rfl (pc' := 74) rfl ?_
                clear c73
                refine mm_aload_n 0 dX5_addTenant_74 rfl rfl (pc' := 75) rfl ?_
                refine mm_getf fG_X5_40 dX5_addTenant_75 rfl rfl (pc' := 78) rfl ?_
                refine mm_aload_n 0 dX5_addTenant_78 rfl rfl (pc' := 79) rfl ?_
                refine mm_getf fG_X5_21 dX5_addTenant_79 rfl rfl (pc' := 82) rfl ?_
                refine mm_iconst dX5_addTenant_82 ki_m1 (pc' := 83) rfl ?_
                obtain ⟨c83, h⟩ := mm_ck_of h
                refine mm_iast dX5_addTenant_83 rfl c83 rfl (ws' := (W_X5 q_wide q_high q_slackNow q_tenants q_letters q_readings (upd q_kinds q_tenants.toNatClampNeg v1) (upd q_painOf q_tenants.toNatClampNeg v2) (upd q_payFor q_tenants.toNatClampNeg v3) (upd q_refused q_tenants.toNatClampNeg (-1 : Int32)) q_owned q_litIn q_shapes q_readAt q_meant q_readSo)) rfl (pc' := 84) rfl ?_
                clear c83
                refine mm_aload_n 0 dX5_addTenant_84 rfl rfl (pc' := 85) rfl ?_
                refine mm_getf fG_X5_43 dX5_addTenant_85 rfl rfl (pc' := 88) rfl ?_
                refine mm_aload_n 0 dX5_addTenant_88 rfl rfl (pc' := 89) rfl ?_
                refine mm_getf fG_X5_21 dX5_addTenant_89 rfl rfl (pc' := 92) rfl ?_
                refine mm_lconst dX5_addTenant_92 (by decide : _ = (0 : Int64)) (pc' := 93) rfl ?_
                obtain ⟨c93, h⟩ := mm_ck_of h
                refine mm_last dX5_addTenant_93 rfl c93 rfl (ws' := (W_X5 q_wide q_high q_slackNow q_tenants q_letters q_readings (upd q_kinds q_tenants.toNatClampNeg v1) (upd q_painOf q_tenants.toNatClampNeg v2) (upd q_payFor q_tenants.toNatClampNeg v3) (upd q_refused q_tenants.toNatClampNeg (-1 : Int32)) (vp_updL q_owned q_tenants.toNatClampNeg (0 : Int64)) q_litIn q_shapes q_readAt q_meant q_readSo)) rfl (pc' := 94) rfl ?_
                clear c93
                refine mm_aload_n 0 dX5_addTenant_94 rfl rfl (pc' := 95) rfl ?_
                refine mm_dup dX5_addTenant_95 rfl (pc' := 96) rfl ?_
                refine mm_getf fG_X5_21 dX5_addTenant_96 rfl rfl (pc' := 99) rfl ?_
                refine mm_iconst dX5_addTenant_99 ki_1 (pc' := 100) rfl ?_
                refine mm_iadd dX5_addTenant_100 (pc' := 101) rfl ?_
                refine mm_putf fP_X5_21 dX5_addTenant_101 rfl (Nat.le_of_ble_eq_true rfl) (fun _ => rfl) (fun _ => rfl) (ws' := (W_X5 q_wide q_high q_slackNow (q_tenants + (1 : Int32)) q_letters q_readings (upd q_kinds q_tenants.toNatClampNeg v1) (upd q_painOf q_tenants.toNatClampNeg v2) (upd q_payFor q_tenants.toNatClampNeg v3) (upd q_refused q_tenants.toNatClampNeg (-1 : Int32)) (vp_updL q_owned q_tenants.toNatClampNeg (0 : Int64)) q_litIn q_shapes q_readAt q_meant q_readSo)) rfl (pc' := 104) rfl ?_
                refine mm_aload_n 0 dX5_addTenant_104 rfl rfl (pc' := 105) rfl ?_
                refine mm_getf fG_X5_21 dX5_addTenant_105 rfl rfl (pc' := 108) rfl ?_
                refine mm_iconst dX5_addTenant_108 ki_1 (pc' := 109) rfl ?_
                refine mm_isub dX5_addTenant_109 (pc' := 110) rfl ?_
                have h9 := Option.some.inj h
                subst h9
                exact mm_iret rfl dX5_addTenant_110 ⟨rfl, rfl⟩
              · replace h := mm_if h c
                clear c
                refine mm_bipush dX5_addTenant_41 kb_m4 (pc' := 43) rfl ?_
                have h9 := Option.some.inj h
                subst h9
                exact mm_iret rfl dX5_addTenant_43 ⟨rfl, rfl⟩
            · replace h := mm_if h c
              clear c
              exact mm_sub [] rfl (s_X5_addTenant_J29  h)

def P_X7_isShape  (r : Int32) : Option Value → mm_W → Prop := fun rv w => rv = some (.int r) ∧ w = []
def X7_isShape_J15 (fu : Nat)     : Option (Int32) := some ((0 : Int32))
set_option maxHeartbeats 4000000 in
set_option maxRecDepth 100000 in
theorem s_X7_isShape_J15 {fu : Nat} {r : Int32} (h : X7_isShape_J15 fu = some r) : mm_Wp mX7_isShape (mm_R (P_X7_isShape r)) 0 0 15 [] [] [] := by
  rw [X7_isShape_J15] at h
  refine mm_iconst dX7_isShape_15 ki_0 (pc' := 16) rfl ?_
  have h9 := Option.some.inj h
  subst h9
  exact mm_zret rfl (by decide) dX7_isShape_16 ⟨rfl, rfl⟩
def f_X7_isShape (fu : Nat) (v0 : Int32) : Option (Int32) := if v0 < 0 then (X7_isShape_J15 fu) else (if (4095 : Int32) < v0 then (X7_isShape_J15 fu) else (some ((1 : Int32))))
set_option maxHeartbeats 4000000 in
set_option maxRecDepth 100000 in
theorem ok_X7_isShape {fu : Nat} {r : Int32} {v0 : Int32} (h : f_X7_isShape fu v0 = some r) : mm_Ok mX7_isShape [.int v0] [] (P_X7_isShape r) := by
  rw [f_X7_isShape] at h
  refine mm_Ok.of pn_X7 (l := [(0, .int v0)]) rfl (Nat.le_of_ble_eq_true rfl) ?_
  refine mm_iload_n 0 dX7_isShape_0 rfl rfl (pc' := 1) rfl ?_
  refine mm_if_lt (tgt := 15) dX7_isShape_1 (by decide) (pc' := 4) rfl (fun c => ?_) (fun c => ?_)
  · replace h := mm_it h c
    clear c
    exact mm_sub [] rfl (s_X7_isShape_J15  h)
  · replace h := mm_if h c
    clear c
    refine mm_iload_n 0 dX7_isShape_4 rfl rfl (pc' := 5) rfl ?_
    refine mm_sipush dX7_isShape_5 ks_4095 (pc' := 8) rfl ?_
    refine mm_icmp_gt (tgt := 15) dX7_isShape_8 (by decide) (pc' := 11) rfl (fun c => ?_) (fun c => ?_)
    · replace h := mm_it h c
      clear c
      exact mm_sub [] rfl (s_X7_isShape_J15  h)
    · replace h := mm_if h c
      clear c
      refine mm_iconst dX7_isShape_11 ki_1 (pc' := 12) rfl ?_
      refine mm_goto (tgt := 16) dX7_isShape_12 (by decide) ?_
      have h9 := Option.some.inj h
      subst h9
      exact mm_zret rfl (by decide) dX7_isShape_16 ⟨rfl, rfl⟩

def P_X5_addLetter (q_wide : Int32) (q_high : Int32) (q_slackNow : Int32) (q_tenants : Int32) (q_readings : Int32) (q_kinds : Nat → Int32) (q_painOf : Nat → Int32) (q_payFor : Nat → Int32) (q_refused : Nat → Int32) (q_owned : Nat → Int64) (q_litIn : Nat → Int64) (q_readAt : Nat → Int32) (q_meant : Nat → Int32) (q_readSo : Nat → Int32) (r : Int32 × Int32 × (Nat → Int32)) : Option Value → mm_W → Prop := fun rv w => rv = some (.int r.1) ∧ w = (W_X5 q_wide q_high q_slackNow q_tenants r.2.1 q_readings q_kinds q_painOf q_payFor q_refused q_owned q_litIn r.2.2 q_readAt q_meant q_readSo)
def X5_addLetter_L12 (fu : Nat)  (q_letters : Int32) (q_shapes : Nat → Int32) (v1 : Int32) : Nat → Int32 → Option (Int32 × Int32 × (Nat → Int32))
  | 0, _ => none
  | n + 1, v2 => if q_letters ≤ v2 then (if q_letters < (6 : Int32) then (mm_ck 6 q_letters (some (((q_letters + (1 : Int32)) - (1 : Int32)), q_letters + (1 : Int32), upd q_shapes q_letters.toNatClampNeg v1))) else (some ((-4 : Int32), q_letters, q_shapes))) else (mm_rd q_shapes 6 v2 fun x25 => if x25 = v1 then (some ((-2 : Int32), q_letters, q_shapes)) else ((X5_addLetter_L12 fu q_letters q_shapes v1 n) (v2 + (1 : Int32))))
set_option maxHeartbeats 4000000 in
set_option maxRecDepth 100000 in
theorem s_X5_addLetter_L12 {fu : Nat} {q_wide : Int32} {q_high : Int32} {q_slackNow : Int32} {q_tenants : Int32} {q_letters : Int32} {q_readings : Int32} {q_kinds : Nat → Int32} {q_painOf : Nat → Int32} {q_payFor : Nat → Int32} {q_refused : Nat → Int32} {q_owned : Nat → Int64} {q_litIn : Nat → Int64} {q_shapes : Nat → Int32} {q_readAt : Nat → Int32} {q_meant : Nat → Int32} {q_readSo : Nat → Int32} {r : Int32 × Int32 × (Nat → Int32)} {v1 : Int32} : ∀ (n : Nat) (v2 : Int32), X5_addLetter_L12 fu q_letters q_shapes v1 n v2 = some r → mm_Wp mX5_addLetter (mm_R (P_X5_addLetter q_wide q_high q_slackNow q_tenants q_readings q_kinds q_painOf q_payFor q_refused q_owned q_litIn q_readAt q_meant q_readSo r)) 0 0 12 [(0, .ref 0), (1, .int v1), (2, .int v2)] [] (W_X5 q_wide q_high q_slackNow q_tenants q_letters q_readings q_kinds q_painOf q_payFor q_refused q_owned q_litIn q_shapes q_readAt q_meant q_readSo) := by
  intro n
  induction n with
  | zero =>
    intro v2 h
    rw [X5_addLetter_L12] at h
    cases h
  | succ n hr12 =>
    intro v2 h
    rw [X5_addLetter_L12] at h
    refine mm_iload_n 2 dX5_addLetter_12 rfl rfl (pc' := 13) rfl ?_
    refine mm_aload_n 0 dX5_addLetter_13 rfl rfl (pc' := 14) rfl ?_
    refine mm_getf fG_X5_24 dX5_addLetter_14 rfl rfl (pc' := 17) rfl ?_
    refine mm_icmp_ge (tgt := 39) dX5_addLetter_17 (by decide) (pc' := 20) rfl (fun c => ?_) (fun c => ?_)
    · replace h := mm_it h c
      clear c
      refine mm_aload_n 0 dX5_addLetter_39 rfl rfl (pc' := 40) rfl ?_
      refine mm_getf fG_X5_24 dX5_addLetter_40 rfl rfl (pc' := 43) rfl ?_
      refine mm_bipush dX5_addLetter_43 kb_6 (pc' := 45) rfl ?_
      refine mm_icmp_lt (tgt := 51) dX5_addLetter_45 (by decide) (pc' := 48) rfl (fun c => ?_) (fun c => ?_)
      · replace h := mm_it h c
        clear c
        refine mm_aload_n 0 dX5_addLetter_51 rfl rfl (pc' := 52) rfl ?_
        refine mm_getf fG_X5_50 dX5_addLetter_52 rfl rfl (pc' := 55) rfl ?_
        refine mm_aload_n 0 dX5_addLetter_55 rfl rfl (pc' := 56) rfl ?_
        refine mm_getf fG_X5_24 dX5_addLetter_56 rfl rfl (pc' := 59) rfl ?_
        refine mm_iload_n 1 dX5_addLetter_59 rfl rfl (pc' := 60) rfl ?_
        obtain ⟨c60, h⟩ := mm_ck_of h
        refine mm_iast dX5_addLetter_60 rfl c60 rfl (ws' := (W_X5 q_wide q_high q_slackNow q_tenants q_letters q_readings q_kinds q_painOf q_payFor q_refused q_owned q_litIn (upd q_shapes q_letters.toNatClampNeg v1) q_readAt q_meant q_readSo)) rfl (pc' := 61) rfl ?_
        clear c60
        refine mm_aload_n 0 dX5_addLetter_61 rfl rfl (pc' := 62) rfl ?_
        refine mm_dup dX5_addLetter_62 rfl (pc' := 63) rfl ?_
        refine mm_getf fG_X5_24 dX5_addLetter_63 rfl rfl (pc' := 66) rfl ?_
        refine mm_iconst dX5_addLetter_66 ki_1 (pc' := 67) rfl ?_
        refine mm_iadd dX5_addLetter_67 (pc' := 68) rfl ?_
        refine mm_putf fP_X5_24 dX5_addLetter_68 rfl (Nat.le_of_ble_eq_true rfl) (fun _ => rfl) (fun _ => rfl) (ws' := (W_X5 q_wide q_high q_slackNow q_tenants (q_letters + (1 : Int32)) q_readings q_kinds q_painOf q_payFor q_refused q_owned q_litIn (upd q_shapes q_letters.toNatClampNeg v1) q_readAt q_meant q_readSo)) rfl (pc' := 71) rfl ?_
        refine mm_aload_n 0 dX5_addLetter_71 rfl rfl (pc' := 72) rfl ?_
        refine mm_getf fG_X5_24 dX5_addLetter_72 rfl rfl (pc' := 75) rfl ?_
        refine mm_iconst dX5_addLetter_75 ki_1 (pc' := 76) rfl ?_
        refine mm_isub dX5_addLetter_76 (pc' := 77) rfl ?_
        have h9 := Option.some.inj h
        subst h9
        exact mm_iret rfl dX5_addLetter_77 ⟨rfl, rfl⟩
      · replace h := mm_if h c
        clear c
        refine mm_bipush dX5_addLetter_48 kb_m4 (pc' := 50) rfl ?_
        have h9 := Option.some.inj h
        subst h9
        exact mm_iret rfl dX5_addLetter_50 ⟨rfl, rfl⟩
    · replace h := mm_if h c
      clear c
      refine mm_aload_n 0 dX5_addLetter_20 rfl rfl (pc' := 21) rfl ?_
      refine mm_getf fG_X5_50 dX5_addLetter_21 rfl rfl (pc' := 24) rfl ?_
      refine mm_iload_n 2 dX5_addLetter_24 rfl rfl (pc' := 25) rfl ?_
      obtain ⟨x25, c25, e25, h⟩ := mm_rd_of h
      refine mm_iald dX5_addLetter_25 rfl c25 e25 (pc' := 26) rfl ?_
      clear c25 e25
      refine mm_iload_n 1 dX5_addLetter_26 rfl rfl (pc' := 27) rfl ?_
      refine mm_icmp_ne (tgt := 33) dX5_addLetter_27 (by decide) (pc' := 30) rfl (fun c => ?_) (fun c => ?_)
      · replace h := mm_if h c
        clear c
        refine mm_iinc 2 dX5_addLetter_33 rfl ki_1 (by decide) (l' := [(2, .int (v2 + (1 : Int32))), (0, .ref 0), (1, .int v1)]) rfl (pc' := 36) rfl ?_
        refine mm_goto (tgt := 12) dX5_addLetter_36 (by decide) ?_
        exact mm_sub [1, 2, 0] rfl (hr12 _ h)
      · replace h := mm_it h c
        clear c
        refine mm_bipush dX5_addLetter_30 kb_m2 (pc' := 32) rfl ?_
        have h9 := Option.some.inj h
        subst h9
        exact mm_iret rfl dX5_addLetter_32 ⟨rfl, rfl⟩
def f_X5_addLetter (fu : Nat) (q_letters : Int32) (q_shapes : Nat → Int32) (v1 : Int32) : Option (Int32 × Int32 × (Nat → Int32)) := (f_X7_isShape fu v1).bind fun t1 => if t1 = 0 then (some ((-2 : Int32), q_letters, q_shapes)) else (X5_addLetter_L12 fu q_letters q_shapes v1 fu (0 : Int32))
set_option maxHeartbeats 4000000 in
set_option maxRecDepth 100000 in
theorem ok_X5_addLetter {fu : Nat} {q_wide : Int32} {q_high : Int32} {q_slackNow : Int32} {q_tenants : Int32} {q_letters : Int32} {q_readings : Int32} {q_kinds : Nat → Int32} {q_painOf : Nat → Int32} {q_payFor : Nat → Int32} {q_refused : Nat → Int32} {q_owned : Nat → Int64} {q_litIn : Nat → Int64} {q_shapes : Nat → Int32} {q_readAt : Nat → Int32} {q_meant : Nat → Int32} {q_readSo : Nat → Int32} {r : Int32 × Int32 × (Nat → Int32)} {v1 : Int32} (h : f_X5_addLetter fu q_letters q_shapes v1 = some r) : mm_Ok mX5_addLetter [.ref 0, .int v1] (W_X5 q_wide q_high q_slackNow q_tenants q_letters q_readings q_kinds q_painOf q_payFor q_refused q_owned q_litIn q_shapes q_readAt q_meant q_readSo) (P_X5_addLetter q_wide q_high q_slackNow q_tenants q_readings q_kinds q_painOf q_payFor q_refused q_owned q_litIn q_readAt q_meant q_readSo r) := by
  rw [f_X5_addLetter] at h
  refine mm_Ok.of pn_X5 (l := [(0, .ref 0), (1, .int v1)]) rfl (Nat.le_of_ble_eq_true rfl) ?_
  refine mm_iload_n 1 dX5_addLetter_0 rfl rfl (pc' := 1) rfl ?_
  obtain ⟨t1, h1, h⟩ := mm_bd h
  refine mm_callSN (As := [.int v1]) (rest := []) (av := [.int v1]) (wc := []) (is := []) cN_X5_95 (ok_X7_isShape h1) ⟨rfl, rfl, Nat.le_of_ble_eq_true rfl, Nat.le_of_ble_eq_true rfl⟩ dX5_addLetter_1 rfl rfl rfl ⟨rfl, by decide, by decide⟩ (by rintro _ _ ⟨-, rfl⟩; rfl) (Nat.le_of_ble_eq_true rfl) ⟨Nat.le_of_ble_eq_true rfl, Nat.le_of_ble_eq_true rfl⟩ (pc' := 4) rfl ?_
  rintro rv w ⟨rfl, rfl⟩
  show mm_Wp _ _ _ _ 4 [(0, .ref 0), (1, .int v1)] [.int t1] (W_X5 q_wide q_high q_slackNow q_tenants q_letters q_readings q_kinds q_painOf q_payFor q_refused q_owned q_litIn q_shapes q_readAt q_meant q_readSo)
  clear h1
  refine mm_if_ne (tgt := 10) dX5_addLetter_4 (by decide) (pc' := 7) rfl (fun c => ?_) (fun c => ?_)
  · replace h := mm_if h c
    clear c
    refine mm_iconst dX5_addLetter_10 ki_0 (pc' := 11) rfl ?_
    refine mm_istore_n dX5_addLetter_11 rfl (by decide) (l' := [(2, .int (0 : Int32)), (0, .ref 0), (1, .int v1)]) rfl (pc' := 12) rfl ?_
    exact mm_sub [1, 2, 0] rfl (s_X5_addLetter_L12  _ _ h)
  · replace h := mm_it h c
    clear c
    refine mm_bipush dX5_addLetter_7 kb_m2 (pc' := 9) rfl ?_
    have h9 := Option.some.inj h
    subst h9
    exact mm_iret rfl dX5_addLetter_9 ⟨rfl, rfl⟩

def P_X5_setSlack (q_wide : Int32) (q_high : Int32) (q_tenants : Int32) (q_letters : Int32) (q_readings : Int32) (q_kinds : Nat → Int32) (q_painOf : Nat → Int32) (q_payFor : Nat → Int32) (q_refused : Nat → Int32) (q_owned : Nat → Int64) (q_litIn : Nat → Int64) (q_shapes : Nat → Int32) (q_readAt : Nat → Int32) (q_meant : Nat → Int32) (q_readSo : Nat → Int32) (r : Int32 × Int32) : Option Value → mm_W → Prop := fun rv w => rv = some (.int r.1) ∧ w = (W_X5 q_wide q_high r.2 q_tenants q_letters q_readings q_kinds q_painOf q_payFor q_refused q_owned q_litIn q_shapes q_readAt q_meant q_readSo)
def X5_setSlack_J9 (fu : Nat)  (q_slackNow : Int32)   : Option (Int32 × Int32) := some ((-2 : Int32), q_slackNow)
set_option maxHeartbeats 4000000 in
set_option maxRecDepth 100000 in
theorem s_X5_setSlack_J9 {fu : Nat} {q_wide : Int32} {q_high : Int32} {q_slackNow : Int32} {q_tenants : Int32} {q_letters : Int32} {q_readings : Int32} {q_kinds : Nat → Int32} {q_painOf : Nat → Int32} {q_payFor : Nat → Int32} {q_refused : Nat → Int32} {q_owned : Nat → Int64} {q_litIn : Nat → Int64} {q_shapes : Nat → Int32} {q_readAt : Nat → Int32} {q_meant : Nat → Int32} {q_readSo : Nat → Int32} {r : Int32 × Int32} (h : X5_setSlack_J9 fu q_slackNow = some r) : mm_Wp mX5_setSlack (mm_R (P_X5_setSlack q_wide q_high q_tenants q_letters q_readings q_kinds q_painOf q_payFor q_refused q_owned q_litIn q_shapes q_readAt q_meant q_readSo r)) 0 0 9 [] [] (W_X5 q_wide q_high q_slackNow q_tenants q_letters q_readings q_kinds q_painOf q_payFor q_refused q_owned q_litIn q_shapes q_readAt q_meant q_readSo) := by
  rw [X5_setSlack_J9] at h
  refine mm_bipush dX5_setSlack_9 kb_m2 (pc' := 11) rfl ?_
  have h9 := Option.some.inj h
  subst h9
  exact mm_iret rfl dX5_setSlack_11 ⟨rfl, rfl⟩
def f_X5_setSlack (fu : Nat) (q_slackNow : Int32) (v1 : Int32) : Option (Int32 × Int32) := if v1 < 0 then (X5_setSlack_J9 fu q_slackNow) else (if v1 ≤ (3 : Int32) then (some (q_slackNow, v1)) else (X5_setSlack_J9 fu q_slackNow))
set_option maxHeartbeats 4000000 in
set_option maxRecDepth 100000 in
theorem ok_X5_setSlack {fu : Nat} {q_wide : Int32} {q_high : Int32} {q_slackNow : Int32} {q_tenants : Int32} {q_letters : Int32} {q_readings : Int32} {q_kinds : Nat → Int32} {q_painOf : Nat → Int32} {q_payFor : Nat → Int32} {q_refused : Nat → Int32} {q_owned : Nat → Int64} {q_litIn : Nat → Int64} {q_shapes : Nat → Int32} {q_readAt : Nat → Int32} {q_meant : Nat → Int32} {q_readSo : Nat → Int32} {r : Int32 × Int32} {v1 : Int32} (h : f_X5_setSlack fu q_slackNow v1 = some r) : mm_Ok mX5_setSlack [.ref 0, .int v1] (W_X5 q_wide q_high q_slackNow q_tenants q_letters q_readings q_kinds q_painOf q_payFor q_refused q_owned q_litIn q_shapes q_readAt q_meant q_readSo) (P_X5_setSlack q_wide q_high q_tenants q_letters q_readings q_kinds q_painOf q_payFor q_refused q_owned q_litIn q_shapes q_readAt q_meant q_readSo r) := by
  rw [f_X5_setSlack] at h
  refine mm_Ok.of pn_X5 (l := [(0, .ref 0), (1, .int v1)]) rfl (Nat.le_of_ble_eq_true rfl) ?_
  refine mm_iload_n 1 dX5_setSlack_0 rfl rfl (pc' := 1) rfl ?_
  refine mm_if_lt (tgt := 9) dX5_setSlack_1 (by decide) (pc' := 4) rfl (fun c => ?_) (fun c => ?_)
  · replace h := mm_it h c
    clear c
    exact mm_sub [] rfl (s_X5_setSlack_J9  h)
  · replace h := mm_if h c
    clear c
    refine mm_iload_n 1 dX5_setSlack_4 rfl rfl (pc' := 5) rfl ?_
    refine mm_iconst dX5_setSlack_5 ki_3 (pc' := 6) rfl ?_
    refine mm_icmp_le (tgt := 12) dX5_setSlack_6 (by decide) (pc' := 9) rfl (fun c => ?_) (fun c => ?_)
    · replace h := mm_it h c
      clear c
      refine mm_aload_n 0 dX5_setSlack_12 rfl rfl (pc' := 13) rfl ?_
      refine mm_getf fG_X5_18 dX5_setSlack_13 rfl rfl (pc' := 16) rfl ?_
      refine mm_istore_n dX5_setSlack_16 rfl (by decide) (l' := [(2, .int q_slackNow), (0, .ref 0), (1, .int v1)]) rfl (pc' := 17) rfl ?_
      refine mm_aload_n 1 dX5_setSlack_17 rfl rfl (pc' := 18) rfl ?_
      refine mm_iload_n 2 dX5_setSlack_18 rfl rfl (pc' := 19) rfl ?_
      refine mm_putf fP_X5_18 dX5_setSlack_19 rfl (Nat.le_of_ble_eq_true rfl) (fun _ => rfl) (fun _ => rfl) (ws' := (W_X5 q_wide q_high v1 q_tenants q_letters q_readings q_kinds q_painOf q_payFor q_refused q_owned q_litIn q_shapes q_readAt q_meant q_readSo)) rfl (pc' := 22) rfl ?_
      refine mm_iload_n 0 dX5_setSlack_22 rfl rfl (pc' := 23) rfl ?_
      have h9 := Option.some.inj h
      subst h9
      exact mm_iret rfl dX5_setSlack_23 ⟨rfl, rfl⟩
    · replace h := mm_if h c
      clear c
      exact mm_sub [] rfl (s_X5_setSlack_J9  h)

def P_X5_isTenant (q_wide : Int32) (q_high : Int32) (q_slackNow : Int32) (q_tenants : Int32) (q_letters : Int32) (q_readings : Int32) (q_kinds : Nat → Int32) (q_painOf : Nat → Int32) (q_payFor : Nat → Int32) (q_refused : Nat → Int32) (q_owned : Nat → Int64) (q_litIn : Nat → Int64) (q_shapes : Nat → Int32) (q_readAt : Nat → Int32) (q_meant : Nat → Int32) (q_readSo : Nat → Int32) (r : Int32) : Option Value → mm_W → Prop := fun rv w => rv = some (.int r) ∧ w = (W_X5 q_wide q_high q_slackNow q_tenants q_letters q_readings q_kinds q_painOf q_payFor q_refused q_owned q_litIn q_shapes q_readAt q_meant q_readSo)
def X5_isTenant_J22 (fu : Nat)  (q_tenants : Int32)   : Option (Int32) := some ((0 : Int32))
set_option maxHeartbeats 4000000 in
set_option maxRecDepth 100000 in
theorem s_X5_isTenant_J22 {fu : Nat} {q_wide : Int32} {q_high : Int32} {q_slackNow : Int32} {q_tenants : Int32} {q_letters : Int32} {q_readings : Int32} {q_kinds : Nat → Int32} {q_painOf : Nat → Int32} {q_payFor : Nat → Int32} {q_refused : Nat → Int32} {q_owned : Nat → Int64} {q_litIn : Nat → Int64} {q_shapes : Nat → Int32} {q_readAt : Nat → Int32} {q_meant : Nat → Int32} {q_readSo : Nat → Int32} {r : Int32} (h : X5_isTenant_J22 fu q_tenants = some r) : mm_Wp mX5_isTenant (mm_R (P_X5_isTenant q_wide q_high q_slackNow q_tenants q_letters q_readings q_kinds q_painOf q_payFor q_refused q_owned q_litIn q_shapes q_readAt q_meant q_readSo r)) 0 0 22 [] [] (W_X5 q_wide q_high q_slackNow q_tenants q_letters q_readings q_kinds q_painOf q_payFor q_refused q_owned q_litIn q_shapes q_readAt q_meant q_readSo) := by
  rw [X5_isTenant_J22] at h
  refine mm_iconst dX5_isTenant_22 ki_0 (pc' := 23) rfl ?_
  have h9 := Option.some.inj h
  subst h9
  exact mm_zret rfl (by decide) dX5_isTenant_23 ⟨rfl, rfl⟩
def f_X5_isTenant (fu : Nat) (q_tenants : Int32) (v1 : Int32) : Option (Int32) := if v1 < 0 then (X5_isTenant_J22 fu q_tenants) else (if q_tenants ≤ v1 then (X5_isTenant_J22 fu q_tenants) else (if (6 : Int32) ≤ v1 then (X5_isTenant_J22 fu q_tenants) else (some ((1 : Int32)))))
set_option maxHeartbeats 4000000 in
set_option maxRecDepth 100000 in
theorem ok_X5_isTenant {fu : Nat} {q_wide : Int32} {q_high : Int32} {q_slackNow : Int32} {q_tenants : Int32} {q_letters : Int32} {q_readings : Int32} {q_kinds : Nat → Int32} {q_painOf : Nat → Int32} {q_payFor : Nat → Int32} {q_refused : Nat → Int32} {q_owned : Nat → Int64} {q_litIn : Nat → Int64} {q_shapes : Nat → Int32} {q_readAt : Nat → Int32} {q_meant : Nat → Int32} {q_readSo : Nat → Int32} {r : Int32} {v1 : Int32} (h : f_X5_isTenant fu q_tenants v1 = some r) : mm_Ok mX5_isTenant [.ref 0, .int v1] (W_X5 q_wide q_high q_slackNow q_tenants q_letters q_readings q_kinds q_painOf q_payFor q_refused q_owned q_litIn q_shapes q_readAt q_meant q_readSo) (P_X5_isTenant q_wide q_high q_slackNow q_tenants q_letters q_readings q_kinds q_painOf q_payFor q_refused q_owned q_litIn q_shapes q_readAt q_meant q_readSo r) := by
  rw [f_X5_isTenant] at h
  refine mm_Ok.of pn_X5 (l := [(0, .ref 0), (1, .int v1)]) rfl (Nat.le_of_ble_eq_true rfl) ?_
  refine mm_iload_n 1 dX5_isTenant_0 rfl rfl (pc' := 1) rfl ?_
  refine mm_if_lt (tgt := 22) dX5_isTenant_1 (by decide) (pc' := 4) rfl (fun c => ?_) (fun c => ?_)
  · replace h := mm_it h c
    clear c
    exact mm_sub [] rfl (s_X5_isTenant_J22  h)
  · replace h := mm_if h c
    clear c
    refine mm_iload_n 1 dX5_isTenant_4 rfl rfl (pc' := 5) rfl ?_
    refine mm_aload_n 0 dX5_isTenant_5 rfl rfl (pc' := 6) rfl ?_
    refine mm_getf fG_X5_21 dX5_isTenant_6 rfl rfl (pc' := 9) rfl ?_
    refine mm_icmp_ge (tgt := 22) dX5_isTenant_9 (by decide) (pc' := 12) rfl (fun c => ?_) (fun c => ?_)
    · replace h := mm_it h c
      clear c
      exact mm_sub [] rfl (s_X5_isTenant_J22  h)
    · replace h := mm_if h c
      clear c
      refine mm_iload_n 1 dX5_isTenant_12 rfl rfl (pc' := 13) rfl ?_
      refine mm_bipush dX5_isTenant_13 kb_6 (pc' := 15) rfl ?_
      refine mm_icmp_ge (tgt := 22) dX5_isTenant_15 (by decide) (pc' := 18) rfl (fun c => ?_) (fun c => ?_)
      · replace h := mm_it h c
        clear c
        exact mm_sub [] rfl (s_X5_isTenant_J22  h)
      · replace h := mm_if h c
        clear c
        refine mm_iconst dX5_isTenant_18 ki_1 (pc' := 19) rfl ?_
        refine mm_goto (tgt := 23) dX5_isTenant_19 (by decide) ?_
        have h9 := Option.some.inj h
        subst h9
        exact mm_zret rfl (by decide) dX5_isTenant_23 ⟨rfl, rfl⟩

def P_X5_setOwner (q_wide : Int32) (q_high : Int32) (q_slackNow : Int32) (q_tenants : Int32) (q_letters : Int32) (q_readings : Int32) (q_kinds : Nat → Int32) (q_painOf : Nat → Int32) (q_payFor : Nat → Int32) (q_refused : Nat → Int32) (q_litIn : Nat → Int64) (q_shapes : Nat → Int32) (q_readAt : Nat → Int32) (q_meant : Nat → Int32) (q_readSo : Nat → Int32) (r : Int32 × (Nat → Int64)) : Option Value → mm_W → Prop := fun rv w => rv = some (.int r.1) ∧ w = (W_X5 q_wide q_high q_slackNow q_tenants q_letters q_readings q_kinds q_painOf q_payFor q_refused r.2 q_litIn q_shapes q_readAt q_meant q_readSo)
def X5_setOwner_J21 (fu : Nat)  (q_wide : Int32) (q_high : Int32) (q_tenants : Int32) (q_owned : Nat → Int64)   : Option (Int32 × (Nat → Int64)) := some ((-2 : Int32), q_owned)
set_option maxHeartbeats 4000000 in
set_option maxRecDepth 100000 in
theorem s_X5_setOwner_J21 {fu : Nat} {q_wide : Int32} {q_high : Int32} {q_slackNow : Int32} {q_tenants : Int32} {q_letters : Int32} {q_readings : Int32} {q_kinds : Nat → Int32} {q_painOf : Nat → Int32} {q_payFor : Nat → Int32} {q_refused : Nat → Int32} {q_owned : Nat → Int64} {q_litIn : Nat → Int64} {q_shapes : Nat → Int32} {q_readAt : Nat → Int32} {q_meant : Nat → Int32} {q_readSo : Nat → Int32} {r : Int32 × (Nat → Int64)} (h : X5_setOwner_J21 fu q_wide q_high q_tenants q_owned = some r) : mm_Wp mX5_setOwner (mm_R (P_X5_setOwner q_wide q_high q_slackNow q_tenants q_letters q_readings q_kinds q_painOf q_payFor q_refused q_litIn q_shapes q_readAt q_meant q_readSo r)) 0 0 21 [] [] (W_X5 q_wide q_high q_slackNow q_tenants q_letters q_readings q_kinds q_painOf q_payFor q_refused q_owned q_litIn q_shapes q_readAt q_meant q_readSo) := by
  rw [X5_setOwner_J21] at h
  refine mm_bipush dX5_setOwner_21 kb_m2 (pc' := 23) rfl ?_
  have h9 := Option.some.inj h
  subst h9
  exact mm_iret rfl dX5_setOwner_23 ⟨rfl, rfl⟩
def X5_setOwner_J68 (fu : Nat)  (q_wide : Int32) (q_high : Int32) (q_tenants : Int32) (q_owned : Nat → Int64) (v3 : Int32)  : Option (Int32 × (Nat → Int64)) := some (v3, q_owned)
set_option maxHeartbeats 4000000 in
set_option maxRecDepth 100000 in
theorem s_X5_setOwner_J68 {fu : Nat} {q_wide : Int32} {q_high : Int32} {q_slackNow : Int32} {q_tenants : Int32} {q_letters : Int32} {q_readings : Int32} {q_kinds : Nat → Int32} {q_painOf : Nat → Int32} {q_payFor : Nat → Int32} {q_refused : Nat → Int32} {q_owned : Nat → Int64} {q_litIn : Nat → Int64} {q_shapes : Nat → Int32} {q_readAt : Nat → Int32} {q_meant : Nat → Int32} {q_readSo : Nat → Int32} {r : Int32 × (Nat → Int64)} {v3 : Int32} (h : X5_setOwner_J68 fu q_wide q_high q_tenants q_owned v3 = some r) : mm_Wp mX5_setOwner (mm_R (P_X5_setOwner q_wide q_high q_slackNow q_tenants q_letters q_readings q_kinds q_painOf q_payFor q_refused q_litIn q_shapes q_readAt q_meant q_readSo r)) 0 0 68 [(3, .int v3)] [] (W_X5 q_wide q_high q_slackNow q_tenants q_letters q_readings q_kinds q_painOf q_payFor q_refused q_owned q_litIn q_shapes q_readAt q_meant q_readSo) := by
  rw [X5_setOwner_J68] at h
  refine mm_iload_n 0 dX5_setOwner_68 rfl rfl (pc' := 69) rfl ?_
  have h9 := Option.some.inj h
  subst h9
  exact mm_iret rfl dX5_setOwner_69 ⟨rfl, rfl⟩
def X5_setOwner_J51 (fu : Nat)  (q_wide : Int32) (q_high : Int32) (q_tenants : Int32) (q_owned : Nat → Int64) (v1 : Int32) (v2 : Int32) (v3 : Int32)  : Option (Int32 × (Nat → Int64)) := if v2 = (-1 : Int32) then (X5_setOwner_J68 fu q_wide q_high q_tenants q_owned v3) else (mm_rd q_owned 6 v2 fun x62 => mm_ck 6 v2 (X5_setOwner_J68 fu q_wide q_high q_tenants (vp_updL q_owned v2.toNatClampNeg (x62 ||| ((1 : Int64) <<< (v1.toInt64 &&& 63)))) v3))
set_option maxHeartbeats 4000000 in
set_option maxRecDepth 100000 in
theorem s_X5_setOwner_J51 {fu : Nat} {q_wide : Int32} {q_high : Int32} {q_slackNow : Int32} {q_tenants : Int32} {q_letters : Int32} {q_readings : Int32} {q_kinds : Nat → Int32} {q_painOf : Nat → Int32} {q_payFor : Nat → Int32} {q_refused : Nat → Int32} {q_owned : Nat → Int64} {q_litIn : Nat → Int64} {q_shapes : Nat → Int32} {q_readAt : Nat → Int32} {q_meant : Nat → Int32} {q_readSo : Nat → Int32} {r : Int32 × (Nat → Int64)} {v1 : Int32} {v2 : Int32} {v3 : Int32} (h : X5_setOwner_J51 fu q_wide q_high q_tenants q_owned v1 v2 v3 = some r) : mm_Wp mX5_setOwner (mm_R (P_X5_setOwner q_wide q_high q_slackNow q_tenants q_letters q_readings q_kinds q_painOf q_payFor q_refused q_litIn q_shapes q_readAt q_meant q_readSo r)) 0 0 51 [(0, .ref 0), (1, .int v1), (2, .int v2), (3, .int v3)] [] (W_X5 q_wide q_high q_slackNow q_tenants q_letters q_readings q_kinds q_painOf q_payFor q_refused q_owned q_litIn q_shapes q_readAt q_meant q_readSo) := by
  rw [X5_setOwner_J51] at h
  refine mm_iload_n 2 dX5_setOwner_51 rfl rfl (pc' := 52) rfl ?_
  refine mm_iconst dX5_setOwner_52 ki_m1 (pc' := 53) rfl ?_
  refine mm_icmp_eq (tgt := 68) dX5_setOwner_53 (by decide) (pc' := 56) rfl (fun c => ?_) (fun c => ?_)
  · replace h := mm_it h c
    clear c
    exact mm_sub [3] rfl (s_X5_setOwner_J68  h)
  · replace h := mm_if h c
    clear c
    refine mm_aload_n 0 dX5_setOwner_56 rfl rfl (pc' := 57) rfl ?_
    refine mm_getf fG_X5_43 dX5_setOwner_57 rfl rfl (pc' := 60) rfl ?_
    refine mm_iload_n 2 dX5_setOwner_60 rfl rfl (pc' := 61) rfl ?_
    refine mm_dup2 dX5_setOwner_61 rfl rfl (pc' := 62) rfl ?_
    obtain ⟨x62, c62, e62, h⟩ := mm_rd_of h
    refine mm_lald dX5_setOwner_62 rfl c62 e62 (pc' := 63) rfl ?_
    clear c62 e62
    refine mm_lconst dX5_setOwner_63 (by decide : _ = (1 : Int64)) (pc' := 64) rfl ?_
    refine mm_iload_n 1 dX5_setOwner_64 rfl rfl (pc' := 65) rfl ?_
    refine mm_lshl dX5_setOwner_65 (pc' := 66) rfl ?_
    refine mm_lor dX5_setOwner_66 (pc' := 67) rfl ?_
    obtain ⟨c67, h⟩ := mm_ck_of h
    refine mm_last dX5_setOwner_67 rfl c67 rfl (ws' := (W_X5 q_wide q_high q_slackNow q_tenants q_letters q_readings q_kinds q_painOf q_payFor q_refused (vp_updL q_owned v2.toNatClampNeg (x62 ||| ((1 : Int64) <<< (v1.toInt64 &&& 63)))) q_litIn q_shapes q_readAt q_meant q_readSo)) rfl (pc' := 68) rfl ?_
    clear c67
    exact mm_sub [3] rfl (s_X5_setOwner_J68  h)
def X5_setOwner_J24 (fu : Nat)  (q_wide : Int32) (q_high : Int32) (q_tenants : Int32) (q_owned : Nat → Int64) (v1 : Int32) (v2 : Int32)  : Option (Int32 × (Nat → Int64)) := (f_X5_ownerOf fu q_tenants q_owned v1).bind fun t26 => if t26 = (-1 : Int32) then (X5_setOwner_J51 fu q_wide q_high q_tenants q_owned v1 v2 t26) else (mm_rd q_owned 6 t26 fun x41 => mm_ck 6 t26 (X5_setOwner_J51 fu q_wide q_high q_tenants (vp_updL q_owned t26.toNatClampNeg (x41 &&& (((1 : Int64) <<< (v1.toInt64 &&& 63)) ^^^ (-1 : Int64)))) v1 v2 t26))
set_option maxHeartbeats 4000000 in
set_option maxRecDepth 100000 in
theorem s_X5_setOwner_J24 {fu : Nat} {q_wide : Int32} {q_high : Int32} {q_slackNow : Int32} {q_tenants : Int32} {q_letters : Int32} {q_readings : Int32} {q_kinds : Nat → Int32} {q_painOf : Nat → Int32} {q_payFor : Nat → Int32} {q_refused : Nat → Int32} {q_owned : Nat → Int64} {q_litIn : Nat → Int64} {q_shapes : Nat → Int32} {q_readAt : Nat → Int32} {q_meant : Nat → Int32} {q_readSo : Nat → Int32} {r : Int32 × (Nat → Int64)} {v1 : Int32} {v2 : Int32} (h : X5_setOwner_J24 fu q_wide q_high q_tenants q_owned v1 v2 = some r) : mm_Wp mX5_setOwner (mm_R (P_X5_setOwner q_wide q_high q_slackNow q_tenants q_letters q_readings q_kinds q_painOf q_payFor q_refused q_litIn q_shapes q_readAt q_meant q_readSo r)) 0 0 24 [(0, .ref 0), (1, .int v1), (2, .int v2)] [] (W_X5 q_wide q_high q_slackNow q_tenants q_letters q_readings q_kinds q_painOf q_payFor q_refused q_owned q_litIn q_shapes q_readAt q_meant q_readSo) := by
  rw [X5_setOwner_J24] at h
  refine mm_aload_n 0 dX5_setOwner_24 rfl rfl (pc' := 25) rfl ?_
  refine mm_iload_n 1 dX5_setOwner_25 rfl rfl (pc' := 26) rfl ?_
  obtain ⟨t26, h26, h⟩ := mm_bd h
  refine mm_call0 (As := [.int v1]) (rest := []) cV_X5_89 (ok_X5_ownerOf h26) ⟨rfl, rfl, Nat.le_of_ble_eq_true rfl, Nat.le_of_ble_eq_true rfl⟩ dX5_setOwner_26 rfl rfl rfl rfl (by rintro _ _ ⟨-, rfl⟩; rfl) (Nat.le_of_ble_eq_true rfl) ⟨Nat.le_of_ble_eq_true rfl, Nat.le_of_ble_eq_true rfl⟩ (pc' := 29) rfl ?_
  rintro rv w ⟨rfl, rfl⟩
  show mm_Wp _ _ _ _ 29 [(0, .ref 0), (1, .int v1), (2, .int v2)] [.int t26] (W_X5 q_wide q_high q_slackNow q_tenants q_letters q_readings q_kinds q_painOf q_payFor q_refused q_owned q_litIn q_shapes q_readAt q_meant q_readSo)
  clear h26
  refine mm_istore_n dX5_setOwner_29 rfl (by decide) (l' := [(3, .int t26), (0, .ref 0), (1, .int v1), (2, .int v2)]) rfl (pc' := 30) rfl ?_
  refine mm_iload_n 0 dX5_setOwner_30 rfl rfl (pc' := 31) rfl ?_
  refine mm_iconst dX5_setOwner_31 ki_m1 (pc' := 32) rfl ?_
  refine mm_icmp_eq (tgt := 51) dX5_setOwner_32 (by decide) (pc' := 35) rfl (fun c => ?_) (fun c => ?_)
  · replace h := mm_it h c
    clear c
    exact mm_sub [1, 2, 3, 0] rfl (s_X5_setOwner_J51  h)
  · replace h := mm_if h c
    clear c
    refine mm_aload_n 1 dX5_setOwner_35 rfl rfl (pc' := 36) rfl ?_
    refine mm_getf fG_X5_43 dX5_setOwner_36 rfl rfl (pc' := 39) rfl ?_
    refine mm_iload_n 0 dX5_setOwner_39 rfl rfl (pc' := 40) rfl ?_
    refine mm_dup2 dX5_setOwner_40 rfl rfl (pc' := 41) rfl ?_
    obtain ⟨x41, c41, e41, h⟩ := mm_rd_of h
    refine mm_lald dX5_setOwner_41 rfl c41 e41 (pc' := 42) rfl ?_
    clear c41 e41
    refine mm_lconst dX5_setOwner_42 (by decide : _ = (1 : Int64)) (pc' := 43) rfl ?_
    refine mm_iload_n 2 dX5_setOwner_43 rfl rfl (pc' := 44) rfl ?_
    refine mm_lshl dX5_setOwner_44 (pc' := 45) rfl ?_
    refine mm_ldc2 kC_X5_93 dX5_setOwner_45 (pc' := 48) rfl ?_
    refine mm_lxor dX5_setOwner_48 (pc' := 49) rfl ?_
    refine mm_land dX5_setOwner_49 (pc' := 50) rfl ?_
    obtain ⟨c50, h⟩ := mm_ck_of h
    refine mm_last dX5_setOwner_50 rfl c50 rfl (ws' := (W_X5 q_wide q_high q_slackNow q_tenants q_letters q_readings q_kinds q_painOf q_payFor q_refused (vp_updL q_owned t26.toNatClampNeg (x41 &&& (((1 : Int64) <<< (v1.toInt64 &&& 63)) ^^^ (-1 : Int64)))) q_litIn q_shapes q_readAt q_meant q_readSo)) rfl (pc' := 51) rfl ?_
    clear c50
    exact mm_sub [1, 2, 3, 0] rfl (s_X5_setOwner_J51  h)
def f_X5_setOwner (fu : Nat) (q_wide : Int32) (q_high : Int32) (q_tenants : Int32) (q_owned : Nat → Int64) (v1 : Int32) (v2 : Int32) : Option (Int32 × (Nat → Int64)) := (f_X5_isWindow fu q_wide q_high v1).bind fun t2 => if t2 = 0 then (X5_setOwner_J21 fu q_wide q_high q_tenants q_owned) else (if v2 = (-1 : Int32) then (X5_setOwner_J24 fu q_wide q_high q_tenants q_owned v1 v2) else ((f_X5_isTenant fu q_tenants v2).bind fun t15 => if t15 = 0 then (X5_setOwner_J21 fu q_wide q_high q_tenants q_owned) else (X5_setOwner_J24 fu q_wide q_high q_tenants q_owned v1 v2)))
set_option maxHeartbeats 4000000 in
set_option maxRecDepth 100000 in
theorem ok_X5_setOwner {fu : Nat} {q_wide : Int32} {q_high : Int32} {q_slackNow : Int32} {q_tenants : Int32} {q_letters : Int32} {q_readings : Int32} {q_kinds : Nat → Int32} {q_painOf : Nat → Int32} {q_payFor : Nat → Int32} {q_refused : Nat → Int32} {q_owned : Nat → Int64} {q_litIn : Nat → Int64} {q_shapes : Nat → Int32} {q_readAt : Nat → Int32} {q_meant : Nat → Int32} {q_readSo : Nat → Int32} {r : Int32 × (Nat → Int64)} {v1 : Int32} {v2 : Int32} (h : f_X5_setOwner fu q_wide q_high q_tenants q_owned v1 v2 = some r) : mm_Ok mX5_setOwner [.ref 0, .int v1, .int v2] (W_X5 q_wide q_high q_slackNow q_tenants q_letters q_readings q_kinds q_painOf q_payFor q_refused q_owned q_litIn q_shapes q_readAt q_meant q_readSo) (P_X5_setOwner q_wide q_high q_slackNow q_tenants q_letters q_readings q_kinds q_painOf q_payFor q_refused q_litIn q_shapes q_readAt q_meant q_readSo r) := by
  rw [f_X5_setOwner] at h
  refine mm_Ok.of pn_X5 (l := [(0, .ref 0), (1, .int v1), (2, .int v2)]) rfl (Nat.le_of_ble_eq_true rfl) ?_
  refine mm_aload_n 0 dX5_setOwner_0 rfl rfl (pc' := 1) rfl ?_
  refine mm_iload_n 1 dX5_setOwner_1 rfl rfl (pc' := 2) rfl ?_
  obtain ⟨t2, h2, h⟩ := mm_bd h
  refine mm_call0 (As := [.int v1]) (rest := []) cV_X5_72 (ok_X5_isWindow h2) ⟨rfl, rfl, Nat.le_of_ble_eq_true rfl, Nat.le_of_ble_eq_true rfl⟩ dX5_setOwner_2 rfl rfl rfl rfl (by rintro _ _ ⟨-, rfl⟩; rfl) (Nat.le_of_ble_eq_true rfl) ⟨Nat.le_of_ble_eq_true rfl, Nat.le_of_ble_eq_true rfl⟩ (pc' := 5) rfl ?_
  rintro rv w ⟨rfl, rfl⟩
  show mm_Wp _ _ _ _ 5 [(0, .ref 0), (1, .int v1), (2, .int v2)] [.int t2] (W_X5 q_wide q_high q_slackNow q_tenants q_letters q_readings q_kinds q_painOf q_payFor q_refused q_owned q_litIn q_shapes q_readAt q_meant q_readSo)
  clear h2
  refine mm_if_eq (tgt := 21) dX5_setOwner_5 (by decide) (pc' := 8) rfl (fun c => ?_) (fun c => ?_)
  · replace h := mm_it h c
    clear c
    exact mm_sub [] rfl (s_X5_setOwner_J21  h)
  · replace h := mm_if h c
    clear c
    refine mm_iload_n 2 dX5_setOwner_8 rfl rfl (pc' := 9) rfl ?_
    refine mm_iconst dX5_setOwner_9 ki_m1 (pc' := 10) rfl ?_
    refine mm_icmp_eq (tgt := 24) dX5_setOwner_10 (by decide) (pc' := 13) rfl (fun c => ?_) (fun c => ?_)
    · replace h := mm_it h c
      clear c
      exact s_X5_setOwner_J24  h
    · replace h := mm_if h c
      clear c
      refine mm_aload_n 0 dX5_setOwner_13 rfl rfl (pc' := 14) rfl ?_
      refine mm_iload_n 2 dX5_setOwner_14 rfl rfl (pc' := 15) rfl ?_
      obtain ⟨t15, h15, h⟩ := mm_bd h
      refine mm_call0 (As := [.int v2]) (rest := []) cV_X5_83 (ok_X5_isTenant h15) ⟨rfl, rfl, Nat.le_of_ble_eq_true rfl, Nat.le_of_ble_eq_true rfl⟩ dX5_setOwner_15 rfl rfl rfl rfl (by rintro _ _ ⟨-, rfl⟩; rfl) (Nat.le_of_ble_eq_true rfl) ⟨Nat.le_of_ble_eq_true rfl, Nat.le_of_ble_eq_true rfl⟩ (pc' := 18) rfl ?_
      rintro rv w ⟨rfl, rfl⟩
      show mm_Wp _ _ _ _ 18 [(0, .ref 0), (1, .int v1), (2, .int v2)] [.int t15] (W_X5 q_wide q_high q_slackNow q_tenants q_letters q_readings q_kinds q_painOf q_payFor q_refused q_owned q_litIn q_shapes q_readAt q_meant q_readSo)
      clear h15
      refine mm_if_ne (tgt := 24) dX5_setOwner_18 (by decide) (pc' := 21) rfl (fun c => ?_) (fun c => ?_)
      · replace h := mm_if h c
        clear c
        exact s_X5_setOwner_J24  h
      · replace h := mm_it h c
        clear c
        exact mm_sub [] rfl (s_X5_setOwner_J21  h)

def P_X7_isHour  (r : Int32) : Option Value → mm_W → Prop := fun rv w => rv = some (.int r) ∧ w = []
def X7_isHour_J13 (fu : Nat)     : Option (Int32) := some ((0 : Int32))
set_option maxHeartbeats 4000000 in
set_option maxRecDepth 100000 in
theorem s_X7_isHour_J13 {fu : Nat} {r : Int32} (h : X7_isHour_J13 fu = some r) : mm_Wp mX7_isHour (mm_R (P_X7_isHour r)) 0 0 13 [] [] [] := by
  rw [X7_isHour_J13] at h
  refine mm_iconst dX7_isHour_13 ki_0 (pc' := 14) rfl ?_
  have h9 := Option.some.inj h
  subst h9
  exact mm_zret rfl (by decide) dX7_isHour_14 ⟨rfl, rfl⟩
def f_X7_isHour (fu : Nat) (v0 : Int32) : Option (Int32) := if v0 < 0 then (X7_isHour_J13 fu) else (if (4 : Int32) ≤ v0 then (X7_isHour_J13 fu) else (some ((1 : Int32))))
set_option maxHeartbeats 4000000 in
set_option maxRecDepth 100000 in
theorem ok_X7_isHour {fu : Nat} {r : Int32} {v0 : Int32} (h : f_X7_isHour fu v0 = some r) : mm_Ok mX7_isHour [.int v0] [] (P_X7_isHour r) := by
  rw [f_X7_isHour] at h
  refine mm_Ok.of pn_X7 (l := [(0, .int v0)]) rfl (Nat.le_of_ble_eq_true rfl) ?_
  refine mm_iload_n 0 dX7_isHour_0 rfl rfl (pc' := 1) rfl ?_
  refine mm_if_lt (tgt := 13) dX7_isHour_1 (by decide) (pc' := 4) rfl (fun c => ?_) (fun c => ?_)
  · replace h := mm_it h c
    clear c
    exact mm_sub [] rfl (s_X7_isHour_J13  h)
  · replace h := mm_if h c
    clear c
    refine mm_iload_n 0 dX7_isHour_4 rfl rfl (pc' := 5) rfl ?_
    refine mm_iconst dX7_isHour_5 ki_4 (pc' := 6) rfl ?_
    refine mm_icmp_ge (tgt := 13) dX7_isHour_6 (by decide) (pc' := 9) rfl (fun c => ?_) (fun c => ?_)
    · replace h := mm_it h c
      clear c
      exact mm_sub [] rfl (s_X7_isHour_J13  h)
    · replace h := mm_if h c
      clear c
      refine mm_iconst dX7_isHour_9 ki_1 (pc' := 10) rfl ?_
      refine mm_goto (tgt := 14) dX7_isHour_10 (by decide) ?_
      have h9 := Option.some.inj h
      subst h9
      exact mm_zret rfl (by decide) dX7_isHour_14 ⟨rfl, rfl⟩

def P_X5_setLit (q_wide : Int32) (q_high : Int32) (q_slackNow : Int32) (q_tenants : Int32) (q_letters : Int32) (q_readings : Int32) (q_kinds : Nat → Int32) (q_painOf : Nat → Int32) (q_payFor : Nat → Int32) (q_refused : Nat → Int32) (q_owned : Nat → Int64) (q_shapes : Nat → Int32) (q_readAt : Nat → Int32) (q_meant : Nat → Int32) (q_readSo : Nat → Int32) (r : Int32 × (Nat → Int64)) : Option Value → mm_W → Prop := fun rv w => rv = some (.int r.1) ∧ w = (W_X5 q_wide q_high q_slackNow q_tenants q_letters q_readings q_kinds q_painOf q_payFor q_refused q_owned r.2 q_shapes q_readAt q_meant q_readSo)
def X5_setLit_J15 (fu : Nat)  (q_wide : Int32) (q_high : Int32) (q_litIn : Nat → Int64)   : Option (Int32 × (Nat → Int64)) := some ((-2 : Int32), q_litIn)
set_option maxHeartbeats 4000000 in
set_option maxRecDepth 100000 in
theorem s_X5_setLit_J15 {fu : Nat} {q_wide : Int32} {q_high : Int32} {q_slackNow : Int32} {q_tenants : Int32} {q_letters : Int32} {q_readings : Int32} {q_kinds : Nat → Int32} {q_painOf : Nat → Int32} {q_payFor : Nat → Int32} {q_refused : Nat → Int32} {q_owned : Nat → Int64} {q_litIn : Nat → Int64} {q_shapes : Nat → Int32} {q_readAt : Nat → Int32} {q_meant : Nat → Int32} {q_readSo : Nat → Int32} {r : Int32 × (Nat → Int64)} (h : X5_setLit_J15 fu q_wide q_high q_litIn = some r) : mm_Wp mX5_setLit (mm_R (P_X5_setLit q_wide q_high q_slackNow q_tenants q_letters q_readings q_kinds q_painOf q_payFor q_refused q_owned q_shapes q_readAt q_meant q_readSo r)) 0 0 15 [] [] (W_X5 q_wide q_high q_slackNow q_tenants q_letters q_readings q_kinds q_painOf q_payFor q_refused q_owned q_litIn q_shapes q_readAt q_meant q_readSo) := by
  rw [X5_setLit_J15] at h
  refine mm_bipush dX5_setLit_15 kb_m2 (pc' := 17) rfl ?_
  have h9 := Option.some.inj h
  subst h9
  exact mm_iret rfl dX5_setLit_17 ⟨rfl, rfl⟩
def f_X5_setLit (fu : Nat) (q_wide : Int32) (q_high : Int32) (q_litIn : Nat → Int64) (v1 : Int32) (v2 : Int32) (v3 : Int32) : Option (Int32 × (Nat → Int64)) := (f_X7_isHour fu v1).bind fun t1 => if t1 = 0 then (X5_setLit_J15 fu q_wide q_high q_litIn) else ((f_X5_isWindow fu q_wide q_high v2).bind fun t9 => if t9 = 0 then (X5_setLit_J15 fu q_wide q_high q_litIn) else ((f_X5_isLit fu q_litIn v1 v2).bind fun t21 => if t21 = v3 then (some ((-3 : Int32), q_litIn)) else (mm_rd q_litIn 4 v1 fun x37 => mm_ck 4 v1 (some ((1 : Int32), vp_updL q_litIn v1.toNatClampNeg (x37 ^^^ ((1 : Int64) <<< (v2.toInt64 &&& 63))))))))
set_option maxHeartbeats 4000000 in
set_option maxRecDepth 100000 in
theorem ok_X5_setLit {fu : Nat} {q_wide : Int32} {q_high : Int32} {q_slackNow : Int32} {q_tenants : Int32} {q_letters : Int32} {q_readings : Int32} {q_kinds : Nat → Int32} {q_painOf : Nat → Int32} {q_payFor : Nat → Int32} {q_refused : Nat → Int32} {q_owned : Nat → Int64} {q_litIn : Nat → Int64} {q_shapes : Nat → Int32} {q_readAt : Nat → Int32} {q_meant : Nat → Int32} {q_readSo : Nat → Int32} {r : Int32 × (Nat → Int64)} {v1 : Int32} {v2 : Int32} {v3 : Int32} (h : f_X5_setLit fu q_wide q_high q_litIn v1 v2 v3 = some r) : mm_Ok mX5_setLit [.ref 0, .int v1, .int v2, .int v3] (W_X5 q_wide q_high q_slackNow q_tenants q_letters q_readings q_kinds q_painOf q_payFor q_refused q_owned q_litIn q_shapes q_readAt q_meant q_readSo) (P_X5_setLit q_wide q_high q_slackNow q_tenants q_letters q_readings q_kinds q_painOf q_payFor q_refused q_owned q_shapes q_readAt q_meant q_readSo r) := by
  rw [f_X5_setLit] at h
  refine mm_Ok.of pn_X5 (l := [(0, .ref 0), (1, .int v1), (2, .int v2), (3, .int v3)]) rfl (Nat.le_of_ble_eq_true rfl) ?_
  refine mm_iload_n 1 dX5_setLit_0 rfl rfl (pc' := 1) rfl ?_
  obtain ⟨t1, h1, h⟩ := mm_bd h
  refine mm_callSN (As := [.int v1]) (rest := []) (av := [.int v1]) (wc := []) (is := []) cN_X5_98 (ok_X7_isHour h1) ⟨rfl, rfl, Nat.le_of_ble_eq_true rfl, Nat.le_of_ble_eq_true rfl⟩ dX5_setLit_1 rfl rfl rfl ⟨rfl, by decide, by decide⟩ (by rintro _ _ ⟨-, rfl⟩; rfl) (Nat.le_of_ble_eq_true rfl) ⟨Nat.le_of_ble_eq_true rfl, Nat.le_of_ble_eq_true rfl⟩ (pc' := 4) rfl ?_
  rintro rv w ⟨rfl, rfl⟩
  show mm_Wp _ _ _ _ 4 [(0, .ref 0), (1, .int v1), (2, .int v2), (3, .int v3)] [.int t1] (W_X5 q_wide q_high q_slackNow q_tenants q_letters q_readings q_kinds q_painOf q_payFor q_refused q_owned q_litIn q_shapes q_readAt q_meant q_readSo)
  clear h1
  refine mm_if_eq (tgt := 15) dX5_setLit_4 (by decide) (pc' := 7) rfl (fun c => ?_) (fun c => ?_)
  · replace h := mm_it h c
    clear c
    exact mm_sub [] rfl (s_X5_setLit_J15  h)
  · replace h := mm_if h c
    clear c
    refine mm_aload_n 0 dX5_setLit_7 rfl rfl (pc' := 8) rfl ?_
    refine mm_iload_n 2 dX5_setLit_8 rfl rfl (pc' := 9) rfl ?_
    obtain ⟨t9, h9, h⟩ := mm_bd h
    refine mm_call0 (As := [.int v2]) (rest := []) cV_X5_72 (ok_X5_isWindow h9) ⟨rfl, rfl, Nat.le_of_ble_eq_true rfl, Nat.le_of_ble_eq_true rfl⟩ dX5_setLit_9 rfl rfl rfl rfl (by rintro _ _ ⟨-, rfl⟩; rfl) (Nat.le_of_ble_eq_true rfl) ⟨Nat.le_of_ble_eq_true rfl, Nat.le_of_ble_eq_true rfl⟩ (pc' := 12) rfl ?_
    rintro rv w ⟨rfl, rfl⟩
    show mm_Wp _ _ _ _ 12 [(0, .ref 0), (1, .int v1), (2, .int v2), (3, .int v3)] [.int t9] (W_X5 q_wide q_high q_slackNow q_tenants q_letters q_readings q_kinds q_painOf q_payFor q_refused q_owned q_litIn q_shapes q_readAt q_meant q_readSo)
    clear h9
    refine mm_if_ne (tgt := 18) dX5_setLit_12 (by decide) (pc' := 15) rfl (fun c => ?_) (fun c => ?_)
    · replace h := mm_if h c
      clear c
      refine mm_aload_n 0 dX5_setLit_18 rfl rfl (pc' := 19) rfl ?_
      refine mm_iload_n 1 dX5_setLit_19 rfl rfl (pc' := 20) rfl ?_
      refine mm_iload_n 2 dX5_setLit_20 rfl rfl (pc' := 21) rfl ?_
      obtain ⟨t21, h21, h⟩ := mm_bd h
      refine mm_call0 (As := [.int v1, .int v2]) (rest := []) cV_X5_101 (ok_X5_isLit h21) ⟨rfl, rfl, Nat.le_of_ble_eq_true rfl, Nat.le_of_ble_eq_true rfl⟩ dX5_setLit_21 rfl rfl rfl rfl (by rintro _ _ ⟨-, rfl⟩; rfl) (Nat.le_of_ble_eq_true rfl) ⟨Nat.le_of_ble_eq_true rfl, Nat.le_of_ble_eq_true rfl⟩ (pc' := 24) rfl ?_
      rintro rv w ⟨rfl, rfl⟩
      show mm_Wp _ _ _ _ 24 [(0, .ref 0), (1, .int v1), (2, .int v2), (3, .int v3)] [.int t21] (W_X5 q_wide q_high q_slackNow q_tenants q_letters q_readings q_kinds q_painOf q_payFor q_refused q_owned q_litIn q_shapes q_readAt q_meant q_readSo)
      clear h21
      refine mm_iload_n 3 dX5_setLit_24 rfl rfl (pc' := 25) rfl ?_
      refine mm_icmp_ne (tgt := 31) dX5_setLit_25 (by decide) (pc' := 28) rfl (fun c => ?_) (fun c => ?_)
      · replace h := mm_if h c
        clear c
        refine mm_aload_n 0 dX5_setLit_31 rfl rfl (pc' := 32) rfl ?_
        refine mm_getf fG_X5_47 dX5_setLit_32 rfl rfl (pc' := 35) rfl ?_
        refine mm_iload_n 1 dX5_setLit_35 rfl rfl (pc' := 36) rfl ?_
        refine mm_dup2 dX5_setLit_36 rfl rfl (pc' := 37) rfl ?_
        obtain ⟨x37, c37, e37, h⟩ := mm_rd_of h
        refine mm_lald dX5_setLit_37 rfl c37 e37 (pc' := 38) rfl ?_
        clear c37 e37
        refine mm_lconst dX5_setLit_38 (by decide : _ = (1 : Int64)) (pc' := 39) rfl ?_
        refine mm_iload_n 2 dX5_setLit_39 rfl rfl (pc' := 40) rfl ?_
        refine mm_lshl dX5_setLit_40 (pc' := 41) rfl ?_
        refine mm_lxor dX5_setLit_41 (pc' := 42) rfl ?_
        obtain ⟨c42, h⟩ := mm_ck_of h
        refine mm_last dX5_setLit_42 rfl c42 rfl (ws' := (W_X5 q_wide q_high q_slackNow q_tenants q_letters q_readings q_kinds q_painOf q_payFor q_refused q_owned (vp_updL q_litIn v1.toNatClampNeg (x37 ^^^ ((1 : Int64) <<< (v2.toInt64 &&& 63)))) q_shapes q_readAt q_meant q_readSo)) rfl (pc' := 43) rfl ?_
        clear c42
        refine mm_iconst dX5_setLit_43 ki_1 (pc' := 44) rfl ?_
        have h9 := Option.some.inj h
        subst h9
        exact mm_iret rfl dX5_setLit_44 ⟨rfl, rfl⟩
      · replace h := mm_it h c
        clear c
        refine mm_bipush dX5_setLit_28 kb_m3 (pc' := 30) rfl ?_
        have h9 := Option.some.inj h
        subst h9
        exact mm_iret rfl dX5_setLit_30 ⟨rfl, rfl⟩
    · replace h := mm_it h c
      clear c
      exact mm_sub [] rfl (s_X5_setLit_J15  h)

def P_X5_beLike (u_wide : Int32) (u_high : Int32) (u_slackNow : Int32) (u_tenants : Int32) (u_letters : Int32) (u_readings : Int32) (u_kinds : Nat → Int32) (u_painOf : Nat → Int32) (u_payFor : Nat → Int32) (u_refused : Nat → Int32) (u_owned : Nat → Int64) (u_litIn : Nat → Int64) (u_shapes : Nat → Int32) (u_readAt : Nat → Int32) (u_meant : Nat → Int32) (u_readSo : Nat → Int32) (r : Int32 × Int32 × Int32 × Int32 × Int32 × Int32 × (Nat → Int32) × (Nat → Int32) × (Nat → Int32) × (Nat → Int32) × (Nat → Int64) × (Nat → Int64) × (Nat → Int32) × (Nat → Int32) × (Nat → Int32) × (Nat → Int32)) : Option Value → mm_W → Prop := fun rv w => rv = none ∧ w = (W_X5_X5 r.1 r.2.1 r.2.2.1 r.2.2.2.1 r.2.2.2.2.1 r.2.2.2.2.2.1 r.2.2.2.2.2.2.1 r.2.2.2.2.2.2.2.1 r.2.2.2.2.2.2.2.2.1 r.2.2.2.2.2.2.2.2.2.1 r.2.2.2.2.2.2.2.2.2.2.1 r.2.2.2.2.2.2.2.2.2.2.2.1 r.2.2.2.2.2.2.2.2.2.2.2.2.1 r.2.2.2.2.2.2.2.2.2.2.2.2.2.1 r.2.2.2.2.2.2.2.2.2.2.2.2.2.2.1 r.2.2.2.2.2.2.2.2.2.2.2.2.2.2.2 u_wide u_high u_slackNow u_tenants u_letters u_readings u_kinds u_painOf u_payFor u_refused u_owned u_litIn u_shapes u_readAt u_meant u_readSo)
def f_X5_beLike (fu : Nat) (q_wide : Int32) (q_high : Int32) (q_slackNow : Int32) (q_tenants : Int32) (q_letters : Int32) (q_readings : Int32) (q_kinds : Nat → Int32) (q_painOf : Nat → Int32) (q_payFor : Nat → Int32) (q_refused : Nat → Int32) (q_owned : Nat → Int64) (q_litIn : Nat → Int64) (q_shapes : Nat → Int32) (q_readAt : Nat → Int32) (q_meant : Nat → Int32) (q_readSo : Nat → Int32) (u_wide : Int32) (u_high : Int32) (u_slackNow : Int32) (u_tenants : Int32) (u_letters : Int32) (u_readings : Int32) (u_kinds : Nat → Int32) (u_painOf : Nat → Int32) (u_payFor : Nat → Int32) (u_refused : Nat → Int32) (u_owned : Nat → Int64) (u_litIn : Nat → Int64) (u_shapes : Nat → Int32) (u_readAt : Nat → Int32) (u_meant : Nat → Int32) (u_readSo : Nat → Int32) : Option (Int32 × Int32 × Int32 × Int32 × Int32 × Int32 × (Nat → Int32) × (Nat → Int32) × (Nat → Int32) × (Nat → Int32) × (Nat → Int64) × (Nat → Int64) × (Nat → Int32) × (Nat → Int32) × (Nat → Int32) × (Nat → Int32)) := some (u_wide, u_high, u_slackNow, u_tenants, u_letters, u_readings, va_cpy u_kinds q_kinds 0 0 6, va_cpy u_painOf q_painOf 0 0 6, va_cpy u_payFor q_payFor 0 0 6, va_cpy u_refused q_refused 0 0 6, va_cpy u_owned q_owned 0 0 6, va_cpy u_litIn q_litIn 0 0 4, va_cpy u_shapes q_shapes 0 0 6, va_cpy u_readAt q_readAt 0 0 6, va_cpy u_meant q_meant 0 0 6, va_cpy u_readSo q_readSo 0 0 6)
set_option maxHeartbeats 4000000 in
set_option maxRecDepth 100000 in
theorem ok_X5_beLike {fu : Nat} {q_wide : Int32} {q_high : Int32} {q_slackNow : Int32} {q_tenants : Int32} {q_letters : Int32} {q_readings : Int32} {q_kinds : Nat → Int32} {q_painOf : Nat → Int32} {q_payFor : Nat → Int32} {q_refused : Nat → Int32} {q_owned : Nat → Int64} {q_litIn : Nat → Int64} {q_shapes : Nat → Int32} {q_readAt : Nat → Int32} {q_meant : Nat → Int32} {q_readSo : Nat → Int32} {u_wide : Int32} {u_high : Int32} {u_slackNow : Int32} {u_tenants : Int32} {u_letters : Int32} {u_readings : Int32} {u_kinds : Nat → Int32} {u_painOf : Nat → Int32} {u_payFor : Nat → Int32} {u_refused : Nat → Int32} {u_owned : Nat → Int64} {u_litIn : Nat → Int64} {u_shapes : Nat → Int32} {u_readAt : Nat → Int32} {u_meant : Nat → Int32} {u_readSo : Nat → Int32} {r : Int32 × Int32 × Int32 × Int32 × Int32 × Int32 × (Nat → Int32) × (Nat → Int32) × (Nat → Int32) × (Nat → Int32) × (Nat → Int64) × (Nat → Int64) × (Nat → Int32) × (Nat → Int32) × (Nat → Int32) × (Nat → Int32)} (h : f_X5_beLike fu q_wide q_high q_slackNow q_tenants q_letters q_readings q_kinds q_painOf q_payFor q_refused q_owned q_litIn q_shapes q_readAt q_meant q_readSo u_wide u_high u_slackNow u_tenants u_letters u_readings u_kinds u_painOf u_payFor u_refused u_owned u_litIn u_shapes u_readAt u_meant u_readSo = some r) : mm_Ok mX5_beLike [.ref 0, .ref 11] (W_X5_X5 q_wide q_high q_slackNow q_tenants q_letters q_readings q_kinds q_painOf q_payFor q_refused q_owned q_litIn q_shapes q_readAt q_meant q_readSo u_wide u_high u_slackNow u_tenants u_letters u_readings u_kinds u_painOf u_payFor u_refused u_owned u_litIn u_shapes u_readAt u_meant u_readSo) (P_X5_beLike u_wide u_high u_slackNow u_tenants u_letters u_readings u_kinds u_painOf u_payFor u_refused u_owned u_litIn u_shapes u_readAt u_meant u_readSo r) := by
  rw [f_X5_beLike] at h
  refine mm_Ok.of pn_X5 (l := [(0, .ref 0), (1, .ref 11)]) rfl (Nat.le_of_ble_eq_true rfl) ?_
  refine mm_aload_n 0 dX5_beLike_0 rfl rfl (pc' := 1) rfl ?_
  refine mm_aload_n 1 dX5_beLike_1 rfl rfl (pc' := 2) rfl ?_
  refine mm_getf fG_X5_9 dX5_beLike_2 rfl rfl (pc' := 5) rfl ?_
  refine mm_putf fP_X5_9 dX5_beLike_5 rfl (Nat.le_of_ble_eq_true rfl) (fun _ => rfl) (fun _ => rfl) (ws' := (W_X5_X5 u_wide q_high q_slackNow q_tenants q_letters q_readings q_kinds q_painOf q_payFor q_refused q_owned q_litIn q_shapes q_readAt q_meant q_readSo u_wide u_high u_slackNow u_tenants u_letters u_readings u_kinds u_painOf u_payFor u_refused u_owned u_litIn u_shapes u_readAt u_meant u_readSo)) rfl (pc' := 8) rfl ?_
  refine mm_aload_n 0 dX5_beLike_8 rfl rfl (pc' := 9) rfl ?_
  refine mm_aload_n 1 dX5_beLike_9 rfl rfl (pc' := 10) rfl ?_
  refine mm_getf fG_X5_15 dX5_beLike_10 rfl rfl (pc' := 13) rfl ?_
  refine mm_putf fP_X5_15 dX5_beLike_13 rfl (Nat.le_of_ble_eq_true rfl) (fun _ => rfl) (fun _ => rfl) (ws' := (W_X5_X5 u_wide u_high q_slackNow q_tenants q_letters q_readings q_kinds q_painOf q_payFor q_refused q_owned q_litIn q_shapes q_readAt q_meant q_readSo u_wide u_high u_slackNow u_tenants u_letters u_readings u_kinds u_painOf u_payFor u_refused u_owned u_litIn u_shapes u_readAt u_meant u_readSo)) rfl (pc' := 16) rfl ?_
  refine mm_aload_n 0 dX5_beLike_16 rfl rfl (pc' := 17) rfl ?_
  refine mm_aload_n 1 dX5_beLike_17 rfl rfl (pc' := 18) rfl ?_
  refine mm_getf fG_X5_18 dX5_beLike_18 rfl rfl (pc' := 21) rfl ?_
  refine mm_putf fP_X5_18 dX5_beLike_21 rfl (Nat.le_of_ble_eq_true rfl) (fun _ => rfl) (fun _ => rfl) (ws' := (W_X5_X5 u_wide u_high u_slackNow q_tenants q_letters q_readings q_kinds q_painOf q_payFor q_refused q_owned q_litIn q_shapes q_readAt q_meant q_readSo u_wide u_high u_slackNow u_tenants u_letters u_readings u_kinds u_painOf u_payFor u_refused u_owned u_litIn u_shapes u_readAt u_meant u_readSo)) rfl (pc' := 24) rfl ?_
  refine mm_aload_n 0 dX5_beLike_24 rfl rfl (pc' := 25) rfl ?_
  refine mm_aload_n 1 dX5_beLike_25 rfl rfl (pc' := 26) rfl ?_
  refine mm_getf fG_X5_21 dX5_beLike_26 rfl rfl (pc' := 29) rfl ?_
  refine mm_putf fP_X5_21 dX5_beLike_29 rfl (Nat.le_of_ble_eq_true rfl) (fun _ => rfl) (fun _ => rfl) (ws' := (W_X5_X5 u_wide u_high u_slackNow u_tenants q_letters q_readings q_kinds q_painOf q_payFor q_refused q_owned q_litIn q_shapes q_readAt q_meant q_readSo u_wide u_high u_slackNow u_tenants u_letters u_readings u_kinds u_painOf u_payFor u_refused u_owned u_litIn u_shapes u_readAt u_meant u_readSo)) rfl (pc' := 32) rfl ?_
  refine mm_aload_n 0 dX5_beLike_32 rfl rfl (pc' := 33) rfl ?_
  refine mm_aload_n 1 dX5_beLike_33 rfl rfl (pc' := 34) rfl ?_
  refine mm_getf fG_X5_24 dX5_beLike_34 rfl rfl (pc' := 37) rfl ?_
  refine mm_putf fP_X5_24 dX5_beLike_37 rfl (Nat.le_of_ble_eq_true rfl) (fun _ => rfl) (fun _ => rfl) (ws' := (W_X5_X5 u_wide u_high u_slackNow u_tenants u_letters q_readings q_kinds q_painOf q_payFor q_refused q_owned q_litIn q_shapes q_readAt q_meant q_readSo u_wide u_high u_slackNow u_tenants u_letters u_readings u_kinds u_painOf u_payFor u_refused u_owned u_litIn u_shapes u_readAt u_meant u_readSo)) rfl (pc' := 40) rfl ?_
  refine mm_aload_n 0 dX5_beLike_40 rfl rfl (pc' := 41) rfl ?_
  refine mm_aload_n 1 dX5_beLike_41 rfl rfl (pc' := 42) rfl ?_
  refine mm_getf fG_X5_27 dX5_beLike_42 rfl rfl (pc' := 45) rfl ?_
  refine mm_putf fP_X5_27 dX5_beLike_45 rfl (Nat.le_of_ble_eq_true rfl) (fun _ => rfl) (fun _ => rfl) (ws' := (W_X5_X5 u_wide u_high u_slackNow u_tenants u_letters u_readings q_kinds q_painOf q_payFor q_refused q_owned q_litIn q_shapes q_readAt q_meant q_readSo u_wide u_high u_slackNow u_tenants u_letters u_readings u_kinds u_painOf u_payFor u_refused u_owned u_litIn u_shapes u_readAt u_meant u_readSo)) rfl (pc' := 48) rfl ?_
  refine mm_aload_n 1 dX5_beLike_48 rfl rfl (pc' := 49) rfl ?_
  refine mm_getf fG_X5_30 dX5_beLike_49 rfl rfl (pc' := 52) rfl ?_
  refine mm_iconst dX5_beLike_52 ki_0 (pc' := 53) rfl ?_
  refine mm_aload_n 0 dX5_beLike_53 rfl rfl (pc' := 54) rfl ?_
  refine mm_getf fG_X5_30 dX5_beLike_54 rfl rfl (pc' := 57) rfl ?_
  refine mm_iconst dX5_beLike_57 ki_0 (pc' := 58) rfl ?_
  refine mm_bipush dX5_beLike_58 kb_6 (pc' := 60) rfl ?_
  refine mm_copyi cA_X5_62 dX5_beLike_60 rfl rfl (by decide) (by decide) (by decide) kt_0 kt_0 kt_6 (by decide) (by decide) (by decide) (by decide) (ws' := (W_X5_X5 u_wide u_high u_slackNow u_tenants u_letters u_readings (va_cpy u_kinds q_kinds 0 0 6) q_painOf q_payFor q_refused q_owned q_litIn q_shapes q_readAt q_meant q_readSo u_wide u_high u_slackNow u_tenants u_letters u_readings u_kinds u_painOf u_payFor u_refused u_owned u_litIn u_shapes u_readAt u_meant u_readSo)) rfl (pc' := 63) rfl ?_
  refine mm_aload_n 1 dX5_beLike_63 rfl rfl (pc' := 64) rfl ?_
  refine mm_getf fG_X5_34 dX5_beLike_64 rfl rfl (pc' := 67) rfl ?_
  refine mm_iconst dX5_beLike_67 ki_0 (pc' := 68) rfl ?_
  refine mm_aload_n 0 dX5_beLike_68 rfl rfl (pc' := 69) rfl ?_
  refine mm_getf fG_X5_34 dX5_beLike_69 rfl rfl (pc' := 72) rfl ?_
  refine mm_iconst dX5_beLike_72 ki_0 (pc' := 73) rfl ?_
  refine mm_bipush dX5_beLike_73 kb_6 (pc' := 75) rfl ?_
  refine mm_copyi cA_X5_62 dX5_beLike_75 rfl rfl (by decide) (by decide) (by decide) kt_0 kt_0 kt_6 (by decide) (by decide) (by decide) (by decide) (ws' := (W_X5_X5 u_wide u_high u_slackNow u_tenants u_letters u_readings (va_cpy u_kinds q_kinds 0 0 6) (va_cpy u_painOf q_painOf 0 0 6) q_payFor q_refused q_owned q_litIn q_shapes q_readAt q_meant q_readSo u_wide u_high u_slackNow u_tenants u_letters u_readings u_kinds u_painOf u_payFor u_refused u_owned u_litIn u_shapes u_readAt u_meant u_readSo)) rfl (pc' := 78) rfl ?_
  refine mm_aload_n 1 dX5_beLike_78 rfl rfl (pc' := 79) rfl ?_
  refine mm_getf fG_X5_37 dX5_beLike_79 rfl rfl (pc' := 82) rfl ?_
  refine mm_iconst dX5_beLike_82 ki_0 (pc' := 83) rfl ?_
  refine mm_aload_n 0 dX5_beLike_83 rfl rfl (pc' := 84) rfl ?_
  refine mm_getf fG_X5_37 dX5_beLike_84 rfl rfl (pc' := 87) rfl ?_
  refine mm_iconst dX5_beLike_87 ki_0 (pc' := 88) rfl ?_
  refine mm_bipush dX5_beLike_88 kb_6 (pc' := 90) rfl ?_
  refine mm_copyi cA_X5_62 dX5_beLike_90 rfl rfl (by decide) (by decide) (by decide) kt_0 kt_0 kt_6 (by decide) (by decide) (by decide) (by decide) (ws' := (W_X5_X5 u_wide u_high u_slackNow u_tenants u_letters u_readings (va_cpy u_kinds q_kinds 0 0 6) (va_cpy u_painOf q_painOf 0 0 6) (va_cpy u_payFor q_payFor 0 0 6) q_refused q_owned q_litIn q_shapes q_readAt q_meant q_readSo u_wide u_high u_slackNow u_tenants u_letters u_readings u_kinds u_painOf u_payFor u_refused u_owned u_litIn u_shapes u_readAt u_meant u_readSo)) rfl (pc' := 93) rfl ?_
  refine mm_aload_n 1 dX5_beLike_93 rfl rfl (pc' := 94) rfl ?_
  refine mm_getf fG_X5_40 dX5_beLike_94 rfl rfl (pc' := 97) rfl ?_
  refine mm_iconst dX5_beLike_97 ki_0 (pc' := 98) rfl ?_
  refine mm_aload_n 0 dX5_beLike_98 rfl rfl (pc' := 99) rfl ?_
  refine mm_getf fG_X5_40 dX5_beLike_99 rfl rfl (pc' := 102) rfl ?_
  refine mm_iconst dX5_beLike_102 ki_0 (pc' := 103) rfl ?_
  refine mm_bipush dX5_beLike_103 kb_6 (pc' := 105) rfl ?_
  refine mm_copyi cA_X5_62 dX5_beLike_105 rfl rfl (by decide) (by decide) (by decide) kt_0 kt_0 kt_6 (by decide) (by decide) (by decide) (by decide) (ws' := (W_X5_X5 u_wide u_high u_slackNow u_tenants u_letters u_readings (va_cpy u_kinds q_kinds 0 0 6) (va_cpy u_painOf q_painOf 0 0 6) (va_cpy u_payFor q_payFor 0 0 6) (va_cpy u_refused q_refused 0 0 6) q_owned q_litIn q_shapes q_readAt q_meant q_readSo u_wide u_high u_slackNow u_tenants u_letters u_readings u_kinds u_painOf u_payFor u_refused u_owned u_litIn u_shapes u_readAt u_meant u_readSo)) rfl (pc' := 108) rfl ?_
  refine mm_aload_n 1 dX5_beLike_108 rfl rfl (pc' := 109) rfl ?_
  refine mm_getf fG_X5_43 dX5_beLike_109 rfl rfl (pc' := 112) rfl ?_
  refine mm_iconst dX5_beLike_112 ki_0 (pc' := 113) rfl ?_
  refine mm_aload_n 0 dX5_beLike_113 rfl rfl (pc' := 114) rfl ?_
  refine mm_getf fG_X5_43 dX5_beLike_114 rfl rfl (pc' := 117) rfl ?_
  refine mm_iconst dX5_beLike_117 ki_0 (pc' := 118) rfl ?_
  refine mm_bipush dX5_beLike_118 kb_6 (pc' := 120) rfl ?_
  refine mm_copyl cA_X5_62 dX5_beLike_120 rfl rfl (by decide) (by decide) (by decide) kt_0 kt_0 kt_6 (by decide) (by decide) (by decide) (by decide) (ws' := (W_X5_X5 u_wide u_high u_slackNow u_tenants u_letters u_readings (va_cpy u_kinds q_kinds 0 0 6) (va_cpy u_painOf q_painOf 0 0 6) (va_cpy u_payFor q_payFor 0 0 6) (va_cpy u_refused q_refused 0 0 6) (va_cpy u_owned q_owned 0 0 6) q_litIn q_shapes q_readAt q_meant q_readSo u_wide u_high u_slackNow u_tenants u_letters u_readings u_kinds u_painOf u_payFor u_refused u_owned u_litIn u_shapes u_readAt u_meant u_readSo)) rfl (pc' := 123) rfl ?_
  refine mm_aload_n 1 dX5_beLike_123 rfl rfl (pc' := 124) rfl ?_
  refine mm_getf fG_X5_47 dX5_beLike_124 rfl rfl (pc' := 127) rfl ?_
  refine mm_iconst dX5_beLike_127 ki_0 (pc' := 128) rfl ?_
  refine mm_aload_n 0 dX5_beLike_128 rfl rfl (pc' := 129) rfl ?_
  refine mm_getf fG_X5_47 dX5_beLike_129 rfl rfl (pc' := 132) rfl ?_
  refine mm_iconst dX5_beLike_132 ki_0 (pc' := 133) rfl ?_
  refine mm_iconst dX5_beLike_133 ki_4 (pc' := 134) rfl ?_
  refine mm_copyl cA_X5_62 dX5_beLike_134 rfl rfl (by decide) (by decide) (by decide) kt_0 kt_0 kt_4 (by decide) (by decide) (by decide) (by decide) (ws' := (W_X5_X5 u_wide u_high u_slackNow u_tenants u_letters u_readings (va_cpy u_kinds q_kinds 0 0 6) (va_cpy u_painOf q_painOf 0 0 6) (va_cpy u_payFor q_payFor 0 0 6) (va_cpy u_refused q_refused 0 0 6) (va_cpy u_owned q_owned 0 0 6) (va_cpy u_litIn q_litIn 0 0 4) q_shapes q_readAt q_meant q_readSo u_wide u_high u_slackNow u_tenants u_letters u_readings u_kinds u_painOf u_payFor u_refused u_owned u_litIn u_shapes u_readAt u_meant u_readSo)) rfl (pc' := 137) rfl ?_
  refine mm_aload_n 1 dX5_beLike_137 rfl rfl (pc' := 138) rfl ?_
  refine mm_getf fG_X5_50 dX5_beLike_138 rfl rfl (pc' := 141) rfl ?_
  refine mm_iconst dX5_beLike_141 ki_0 (pc' := 142) rfl ?_
  refine mm_aload_n 0 dX5_beLike_142 rfl rfl (pc' := 143) rfl ?_
  refine mm_getf fG_X5_50 dX5_beLike_143 rfl rfl (pc' := 146) rfl ?_
  refine mm_iconst dX5_beLike_146 ki_0 (pc' := 147) rfl ?_
  refine mm_bipush dX5_beLike_147 kb_6 (pc' := 149) rfl ?_
  refine mm_copyi cA_X5_62 dX5_beLike_149 rfl rfl (by decide) (by decide) (by decide) kt_0 kt_0 kt_6 (by decide) (by decide) (by decide) (by decide) (ws' := (W_X5_X5 u_wide u_high u_slackNow u_tenants u_letters u_readings (va_cpy u_kinds q_kinds 0 0 6) (va_cpy u_painOf q_painOf 0 0 6) (va_cpy u_payFor q_payFor 0 0 6) (va_cpy u_refused q_refused 0 0 6) (va_cpy u_owned q_owned 0 0 6) (va_cpy u_litIn q_litIn 0 0 4) (va_cpy u_shapes q_shapes 0 0 6) q_readAt q_meant q_readSo u_wide u_high u_slackNow u_tenants u_letters u_readings u_kinds u_painOf u_payFor u_refused u_owned u_litIn u_shapes u_readAt u_meant u_readSo)) rfl (pc' := 152) rfl ?_
  refine mm_aload_n 1 dX5_beLike_152 rfl rfl (pc' := 153) rfl ?_
  refine mm_getf fG_X5_53 dX5_beLike_153 rfl rfl (pc' := 156) rfl ?_
  refine mm_iconst dX5_beLike_156 ki_0 (pc' := 157) rfl ?_
  refine mm_aload_n 0 dX5_beLike_157 rfl rfl (pc' := 158) rfl ?_
  refine mm_getf fG_X5_53 dX5_beLike_158 rfl rfl (pc' := 161) rfl ?_
  refine mm_iconst dX5_beLike_161 ki_0 (pc' := 162) rfl ?_
  refine mm_bipush dX5_beLike_162 kb_6 (pc' := 164) rfl ?_
  refine mm_copyi cA_X5_62 dX5_beLike_164 rfl rfl (by decide) (by decide) (by decide) kt_0 kt_0 kt_6 (by decide) (by decide) (by decide) (by decide) (ws' := (W_X5_X5 u_wide u_high u_slackNow u_tenants u_letters u_readings (va_cpy u_kinds q_kinds 0 0 6) (va_cpy u_painOf q_painOf 0 0 6) (va_cpy u_payFor q_payFor 0 0 6) (va_cpy u_refused q_refused 0 0 6) (va_cpy u_owned q_owned 0 0 6) (va_cpy u_litIn q_litIn 0 0 4) (va_cpy u_shapes q_shapes 0 0 6) (va_cpy u_readAt q_readAt 0 0 6) q_meant q_readSo u_wide u_high u_slackNow u_tenants u_letters u_readings u_kinds u_painOf u_payFor u_refused u_owned u_litIn u_shapes u_readAt u_meant u_readSo)) rfl (pc' := 167) rfl ?_
  refine mm_aload_n 1 dX5_beLike_167 rfl rfl (pc' := 168) rfl ?_
  refine mm_getf fG_X5_56 dX5_beLike_168 rfl rfl (pc' := 171) rfl ?_
  refine mm_iconst dX5_beLike_171 ki_0 (pc' := 172) rfl ?_
  refine mm_aload_n 0 dX5_beLike_172 rfl rfl (pc' := 173) rfl ?_
  refine mm_getf fG_X5_56 dX5_beLike_173 rfl rfl (pc' := 176) rfl ?_
  refine mm_iconst dX5_beLike_176 ki_0 (pc' := 177) rfl ?_
  refine mm_bipush dX5_beLike_177 kb_6 (pc' := 179) rfl ?_
  refine mm_copyi cA_X5_62 dX5_beLike_179 rfl rfl (by decide) (by decide) (by decide) kt_0 kt_0 kt_6 (by decide) (by decide) (by decide) (by decide) (ws' := (W_X5_X5 u_wide u_high u_slackNow u_tenants u_letters u_readings (va_cpy u_kinds q_kinds 0 0 6) (va_cpy u_painOf q_painOf 0 0 6) (va_cpy u_payFor q_payFor 0 0 6) (va_cpy u_refused q_refused 0 0 6) (va_cpy u_owned q_owned 0 0 6) (va_cpy u_litIn q_litIn 0 0 4) (va_cpy u_shapes q_shapes 0 0 6) (va_cpy u_readAt q_readAt 0 0 6) (va_cpy u_meant q_meant 0 0 6) q_readSo u_wide u_high u_slackNow u_tenants u_letters u_readings u_kinds u_painOf u_payFor u_refused u_owned u_litIn u_shapes u_readAt u_meant u_readSo)) rfl (pc' := 182) rfl ?_
  refine mm_aload_n 1 dX5_beLike_182 rfl rfl (pc' := 183) rfl ?_
  refine mm_getf fG_X5_59 dX5_beLike_183 rfl rfl (pc' := 186) rfl ?_
  refine mm_iconst dX5_beLike_186 ki_0 (pc' := 187) rfl ?_
  refine mm_aload_n 0 dX5_beLike_187 rfl rfl (pc' := 188) rfl ?_
  refine mm_getf fG_X5_59 dX5_beLike_188 rfl rfl (pc' := 191) rfl ?_
  refine mm_iconst dX5_beLike_191 ki_0 (pc' := 192) rfl ?_
  refine mm_bipush dX5_beLike_192 kb_6 (pc' := 194) rfl ?_
  refine mm_copyi cA_X5_62 dX5_beLike_194 rfl rfl (by decide) (by decide) (by decide) kt_0 kt_0 kt_6 (by decide) (by decide) (by decide) (by decide) (ws' := (W_X5_X5 u_wide u_high u_slackNow u_tenants u_letters u_readings (va_cpy u_kinds q_kinds 0 0 6) (va_cpy u_painOf q_painOf 0 0 6) (va_cpy u_payFor q_payFor 0 0 6) (va_cpy u_refused q_refused 0 0 6) (va_cpy u_owned q_owned 0 0 6) (va_cpy u_litIn q_litIn 0 0 4) (va_cpy u_shapes q_shapes 0 0 6) (va_cpy u_readAt q_readAt 0 0 6) (va_cpy u_meant q_meant 0 0 6) (va_cpy u_readSo q_readSo 0 0 6) u_wide u_high u_slackNow u_tenants u_letters u_readings u_kinds u_painOf u_payFor u_refused u_owned u_litIn u_shapes u_readAt u_meant u_readSo)) rfl (pc' := 197) rfl ?_
  have h9 := Option.some.inj h
  subst h9
  exact mm_vret rfl dX5_beLike_197 ⟨rfl, rfl⟩

def P_X5_isTop (q_wide : Int32) (q_high : Int32) (q_slackNow : Int32) (q_tenants : Int32) (q_letters : Int32) (q_readings : Int32) (q_kinds : Nat → Int32) (q_painOf : Nat → Int32) (q_payFor : Nat → Int32) (q_refused : Nat → Int32) (q_owned : Nat → Int64) (q_litIn : Nat → Int64) (q_shapes : Nat → Int32) (q_readAt : Nat → Int32) (q_meant : Nat → Int32) (q_readSo : Nat → Int32) (r : Int32) : Option Value → mm_W → Prop := fun rv w => rv = some (.int r) ∧ w = (W_X5 q_wide q_high q_slackNow q_tenants q_letters q_readings q_kinds q_painOf q_payFor q_refused q_owned q_litIn q_shapes q_readAt q_meant q_readSo)
def X5_isTop_J18 (fu : Nat)  (q_high : Int32)   : Option (Int32) := some ((0 : Int32))
set_option maxHeartbeats 4000000 in
set_option maxRecDepth 100000 in
theorem s_X5_isTop_J18 {fu : Nat} {q_wide : Int32} {q_high : Int32} {q_slackNow : Int32} {q_tenants : Int32} {q_letters : Int32} {q_readings : Int32} {q_kinds : Nat → Int32} {q_painOf : Nat → Int32} {q_payFor : Nat → Int32} {q_refused : Nat → Int32} {q_owned : Nat → Int64} {q_litIn : Nat → Int64} {q_shapes : Nat → Int32} {q_readAt : Nat → Int32} {q_meant : Nat → Int32} {q_readSo : Nat → Int32} {r : Int32} (h : X5_isTop_J18 fu q_high = some r) : mm_Wp mX5_isTop (mm_R (P_X5_isTop q_wide q_high q_slackNow q_tenants q_letters q_readings q_kinds q_painOf q_payFor q_refused q_owned q_litIn q_shapes q_readAt q_meant q_readSo r)) 0 0 18 [] [] (W_X5 q_wide q_high q_slackNow q_tenants q_letters q_readings q_kinds q_painOf q_payFor q_refused q_owned q_litIn q_shapes q_readAt q_meant q_readSo) := by
  rw [X5_isTop_J18] at h
  refine mm_iconst dX5_isTop_18 ki_0 (pc' := 19) rfl ?_
  have h9 := Option.some.inj h
  subst h9
  exact mm_zret rfl (by decide) dX5_isTop_19 ⟨rfl, rfl⟩
def f_X5_isTop (fu : Nat) (q_high : Int32) (v1 : Int32) : Option (Int32) := if v1 < 0 then (X5_isTop_J18 fu q_high) else (if (q_high - (4 : Int32)) < v1 then (X5_isTop_J18 fu q_high) else (some ((1 : Int32))))
set_option maxHeartbeats 4000000 in
set_option maxRecDepth 100000 in
theorem ok_X5_isTop {fu : Nat} {q_wide : Int32} {q_high : Int32} {q_slackNow : Int32} {q_tenants : Int32} {q_letters : Int32} {q_readings : Int32} {q_kinds : Nat → Int32} {q_painOf : Nat → Int32} {q_payFor : Nat → Int32} {q_refused : Nat → Int32} {q_owned : Nat → Int64} {q_litIn : Nat → Int64} {q_shapes : Nat → Int32} {q_readAt : Nat → Int32} {q_meant : Nat → Int32} {q_readSo : Nat → Int32} {r : Int32} {v1 : Int32} (h : f_X5_isTop fu q_high v1 = some r) : mm_Ok mX5_isTop [.ref 0, .int v1] (W_X5 q_wide q_high q_slackNow q_tenants q_letters q_readings q_kinds q_painOf q_payFor q_refused q_owned q_litIn q_shapes q_readAt q_meant q_readSo) (P_X5_isTop q_wide q_high q_slackNow q_tenants q_letters q_readings q_kinds q_painOf q_payFor q_refused q_owned q_litIn q_shapes q_readAt q_meant q_readSo r) := by
  rw [f_X5_isTop] at h
  refine mm_Ok.of pn_X5 (l := [(0, .ref 0), (1, .int v1)]) rfl (Nat.le_of_ble_eq_true rfl) ?_
  refine mm_iload_n 1 dX5_isTop_0 rfl rfl (pc' := 1) rfl ?_
  refine mm_if_lt (tgt := 18) dX5_isTop_1 (by decide) (pc' := 4) rfl (fun c => ?_) (fun c => ?_)
  · replace h := mm_it h c
    clear c
    exact mm_sub [] rfl (s_X5_isTop_J18  h)
  · replace h := mm_if h c
    clear c
    refine mm_iload_n 1 dX5_isTop_4 rfl rfl (pc' := 5) rfl ?_
    refine mm_aload_n 0 dX5_isTop_5 rfl rfl (pc' := 6) rfl ?_
    refine mm_getf fG_X5_15 dX5_isTop_6 rfl rfl (pc' := 9) rfl ?_
    refine mm_iconst dX5_isTop_9 ki_4 (pc' := 10) rfl ?_
    refine mm_isub dX5_isTop_10 (pc' := 11) rfl ?_
    refine mm_icmp_gt (tgt := 18) dX5_isTop_11 (by decide) (pc' := 14) rfl (fun c => ?_) (fun c => ?_)
    · replace h := mm_it h c
      clear c
      exact mm_sub [] rfl (s_X5_isTop_J18  h)
    · replace h := mm_if h c
      clear c
      refine mm_iconst dX5_isTop_14 ki_1 (pc' := 15) rfl ?_
      refine mm_goto (tgt := 19) dX5_isTop_15 (by decide) ?_
      have h9 := Option.some.inj h
      subst h9
      exact mm_zret rfl (by decide) dX5_isTop_19 ⟨rfl, rfl⟩

def P_X5_isBox (q_wide : Int32) (q_high : Int32) (q_slackNow : Int32) (q_tenants : Int32) (q_letters : Int32) (q_readings : Int32) (q_kinds : Nat → Int32) (q_painOf : Nat → Int32) (q_payFor : Nat → Int32) (q_refused : Nat → Int32) (q_owned : Nat → Int64) (q_litIn : Nat → Int64) (q_shapes : Nat → Int32) (q_readAt : Nat → Int32) (q_meant : Nat → Int32) (q_readSo : Nat → Int32) (r : Int32) : Option Value → mm_W → Prop := fun rv w => rv = some (.int r) ∧ w = (W_X5 q_wide q_high q_slackNow q_tenants q_letters q_readings q_kinds q_painOf q_payFor q_refused q_owned q_litIn q_shapes q_readAt q_meant q_readSo)
def X5_isBox_J36 (fu : Nat)  (q_wide : Int32) (q_high : Int32)   : Option (Int32) := some ((0 : Int32))
set_option maxHeartbeats 4000000 in
set_option maxRecDepth 100000 in
theorem s_X5_isBox_J36 {fu : Nat} {q_wide : Int32} {q_high : Int32} {q_slackNow : Int32} {q_tenants : Int32} {q_letters : Int32} {q_readings : Int32} {q_kinds : Nat → Int32} {q_painOf : Nat → Int32} {q_payFor : Nat → Int32} {q_refused : Nat → Int32} {q_owned : Nat → Int64} {q_litIn : Nat → Int64} {q_shapes : Nat → Int32} {q_readAt : Nat → Int32} {q_meant : Nat → Int32} {q_readSo : Nat → Int32} {r : Int32} (h : X5_isBox_J36 fu q_wide q_high = some r) : mm_Wp mX5_isBox (mm_R (P_X5_isBox q_wide q_high q_slackNow q_tenants q_letters q_readings q_kinds q_painOf q_payFor q_refused q_owned q_litIn q_shapes q_readAt q_meant q_readSo r)) 0 0 36 [] [] (W_X5 q_wide q_high q_slackNow q_tenants q_letters q_readings q_kinds q_painOf q_payFor q_refused q_owned q_litIn q_shapes q_readAt q_meant q_readSo) := by
  rw [X5_isBox_J36] at h
  refine mm_iconst dX5_isBox_36 ki_0 (pc' := 37) rfl ?_
  have h9 := Option.some.inj h
  subst h9
  exact mm_zret rfl (by decide) dX5_isBox_37 ⟨rfl, rfl⟩
def f_X5_isBox (fu : Nat) (q_wide : Int32) (q_high : Int32) (v1 : Int32) : Option (Int32) := (f_X5_isWindow fu q_wide q_high v1).bind fun t2 => if t2 = 0 then (X5_isBox_J36 fu q_wide q_high) else (if (q_wide - (3 : Int32)) < (v1 - v1 / (12 : Int32) * (12 : Int32)) then (X5_isBox_J36 fu q_wide q_high) else ((f_X5_isTop fu q_high (v1 / (12 : Int32))).bind fun t26 => if t26 = 0 then (X5_isBox_J36 fu q_wide q_high) else (some ((1 : Int32)))))
set_option maxHeartbeats 4000000 in
set_option maxRecDepth 100000 in
theorem ok_X5_isBox {fu : Nat} {q_wide : Int32} {q_high : Int32} {q_slackNow : Int32} {q_tenants : Int32} {q_letters : Int32} {q_readings : Int32} {q_kinds : Nat → Int32} {q_painOf : Nat → Int32} {q_payFor : Nat → Int32} {q_refused : Nat → Int32} {q_owned : Nat → Int64} {q_litIn : Nat → Int64} {q_shapes : Nat → Int32} {q_readAt : Nat → Int32} {q_meant : Nat → Int32} {q_readSo : Nat → Int32} {r : Int32} {v1 : Int32} (h : f_X5_isBox fu q_wide q_high v1 = some r) : mm_Ok mX5_isBox [.ref 0, .int v1] (W_X5 q_wide q_high q_slackNow q_tenants q_letters q_readings q_kinds q_painOf q_payFor q_refused q_owned q_litIn q_shapes q_readAt q_meant q_readSo) (P_X5_isBox q_wide q_high q_slackNow q_tenants q_letters q_readings q_kinds q_painOf q_payFor q_refused q_owned q_litIn q_shapes q_readAt q_meant q_readSo r) := by
  rw [f_X5_isBox] at h
  refine mm_Ok.of pn_X5 (l := [(0, .ref 0), (1, .int v1)]) rfl (Nat.le_of_ble_eq_true rfl) ?_
  refine mm_aload_n 0 dX5_isBox_0 rfl rfl (pc' := 1) rfl ?_
  refine mm_iload_n 1 dX5_isBox_1 rfl rfl (pc' := 2) rfl ?_
  obtain ⟨t2, h2, h⟩ := mm_bd h
  refine mm_call0 (As := [.int v1]) (rest := []) cV_X5_72 (ok_X5_isWindow h2) ⟨rfl, rfl, Nat.le_of_ble_eq_true rfl, Nat.le_of_ble_eq_true rfl⟩ dX5_isBox_2 rfl rfl rfl rfl (by rintro _ _ ⟨-, rfl⟩; rfl) (Nat.le_of_ble_eq_true rfl) ⟨Nat.le_of_ble_eq_true rfl, Nat.le_of_ble_eq_true rfl⟩ (pc' := 5) rfl ?_
  rintro rv w ⟨rfl, rfl⟩
  show mm_Wp _ _ _ _ 5 [(0, .ref 0), (1, .int v1)] [.int t2] (W_X5 q_wide q_high q_slackNow q_tenants q_letters q_readings q_kinds q_painOf q_payFor q_refused q_owned q_litIn q_shapes q_readAt q_meant q_readSo)
  clear h2
  refine mm_if_eq (tgt := 36) dX5_isBox_5 (by decide) (pc' := 8) rfl (fun c => ?_) (fun c => ?_)
  · replace h := mm_it h c
    clear c
    exact mm_sub [] rfl (s_X5_isBox_J36  h)
  · replace h := mm_if h c
    clear c
    refine mm_iload_n 1 dX5_isBox_8 rfl rfl (pc' := 9) rfl ?_
    refine mm_bipush dX5_isBox_9 kb_12 (pc' := 11) rfl ?_
    refine mm_irem dX5_isBox_11 (by decide) (pc' := 12) rfl ?_
    refine mm_aload_n 0 dX5_isBox_12 rfl rfl (pc' := 13) rfl ?_
    refine mm_getf fG_X5_9 dX5_isBox_13 rfl rfl (pc' := 16) rfl ?_
    refine mm_iconst dX5_isBox_16 ki_3 (pc' := 17) rfl ?_
    refine mm_isub dX5_isBox_17 (pc' := 18) rfl ?_
    refine mm_icmp_gt (tgt := 36) dX5_isBox_18 (by decide) (pc' := 21) rfl (fun c => ?_) (fun c => ?_)
    · replace h := mm_it h c
      clear c
      exact mm_sub [] rfl (s_X5_isBox_J36  h)
    · replace h := mm_if h c
      clear c
      refine mm_aload_n 0 dX5_isBox_21 rfl rfl (pc' := 22) rfl ?_
      refine mm_iload_n 1 dX5_isBox_22 rfl rfl (pc' := 23) rfl ?_
      refine mm_bipush dX5_isBox_23 kb_12 (pc' := 25) rfl ?_
      refine mm_idiv dX5_isBox_25 (by decide) (pc' := 26) rfl ?_
      obtain ⟨t26, h26, h⟩ := mm_bd h
      refine mm_call0 (As := [.int (v1 / (12 : Int32))]) (rest := []) cV_X5_76 (ok_X5_isTop h26) ⟨rfl, rfl, Nat.le_of_ble_eq_true rfl, Nat.le_of_ble_eq_true rfl⟩ dX5_isBox_26 rfl rfl rfl rfl (by rintro _ _ ⟨-, rfl⟩; rfl) (Nat.le_of_ble_eq_true rfl) ⟨Nat.le_of_ble_eq_true rfl, Nat.le_of_ble_eq_true rfl⟩ (pc' := 29) rfl ?_
      rintro rv w ⟨rfl, rfl⟩
      show mm_Wp _ _ _ _ 29 [(0, .ref 0), (1, .int v1)] [.int t26] (W_X5 q_wide q_high q_slackNow q_tenants q_letters q_readings q_kinds q_painOf q_payFor q_refused q_owned q_litIn q_shapes q_readAt q_meant q_readSo)
      clear h26
      refine mm_if_eq (tgt := 36) dX5_isBox_29 (by decide) (pc' := 32) rfl (fun c => ?_) (fun c => ?_)
      · replace h := mm_it h c
        clear c
        exact mm_sub [] rfl (s_X5_isBox_J36  h)
      · replace h := mm_if h c
        clear c
        refine mm_iconst dX5_isBox_32 ki_1 (pc' := 33) rfl ?_
        refine mm_goto (tgt := 37) dX5_isBox_33 (by decide) ?_
        have h9 := Option.some.inj h
        subst h9
        exact mm_zret rfl (by decide) dX5_isBox_37 ⟨rfl, rfl⟩

def P_X5_isLetter (q_wide : Int32) (q_high : Int32) (q_slackNow : Int32) (q_tenants : Int32) (q_letters : Int32) (q_readings : Int32) (q_kinds : Nat → Int32) (q_painOf : Nat → Int32) (q_payFor : Nat → Int32) (q_refused : Nat → Int32) (q_owned : Nat → Int64) (q_litIn : Nat → Int64) (q_shapes : Nat → Int32) (q_readAt : Nat → Int32) (q_meant : Nat → Int32) (q_readSo : Nat → Int32) (r : Int32) : Option Value → mm_W → Prop := fun rv w => rv = some (.int r) ∧ w = (W_X5 q_wide q_high q_slackNow q_tenants q_letters q_readings q_kinds q_painOf q_payFor q_refused q_owned q_litIn q_shapes q_readAt q_meant q_readSo)
def X5_isLetter_J22 (fu : Nat)  (q_letters : Int32)   : Option (Int32) := some ((0 : Int32))
set_option maxHeartbeats 4000000 in
set_option maxRecDepth 100000 in
theorem s_X5_isLetter_J22 {fu : Nat} {q_wide : Int32} {q_high : Int32} {q_slackNow : Int32} {q_tenants : Int32} {q_letters : Int32} {q_readings : Int32} {q_kinds : Nat → Int32} {q_painOf : Nat → Int32} {q_payFor : Nat → Int32} {q_refused : Nat → Int32} {q_owned : Nat → Int64} {q_litIn : Nat → Int64} {q_shapes : Nat → Int32} {q_readAt : Nat → Int32} {q_meant : Nat → Int32} {q_readSo : Nat → Int32} {r : Int32} (h : X5_isLetter_J22 fu q_letters = some r) : mm_Wp mX5_isLetter (mm_R (P_X5_isLetter q_wide q_high q_slackNow q_tenants q_letters q_readings q_kinds q_painOf q_payFor q_refused q_owned q_litIn q_shapes q_readAt q_meant q_readSo r)) 0 0 22 [] [] (W_X5 q_wide q_high q_slackNow q_tenants q_letters q_readings q_kinds q_painOf q_payFor q_refused q_owned q_litIn q_shapes q_readAt q_meant q_readSo) := by
  rw [X5_isLetter_J22] at h
  refine mm_iconst dX5_isLetter_22 ki_0 (pc' := 23) rfl ?_
  have h9 := Option.some.inj h
  subst h9
  exact mm_zret rfl (by decide) dX5_isLetter_23 ⟨rfl, rfl⟩
def f_X5_isLetter (fu : Nat) (q_letters : Int32) (v1 : Int32) : Option (Int32) := if v1 < 0 then (X5_isLetter_J22 fu q_letters) else (if q_letters ≤ v1 then (X5_isLetter_J22 fu q_letters) else (if (6 : Int32) ≤ v1 then (X5_isLetter_J22 fu q_letters) else (some ((1 : Int32)))))
set_option maxHeartbeats 4000000 in
set_option maxRecDepth 100000 in
theorem ok_X5_isLetter {fu : Nat} {q_wide : Int32} {q_high : Int32} {q_slackNow : Int32} {q_tenants : Int32} {q_letters : Int32} {q_readings : Int32} {q_kinds : Nat → Int32} {q_painOf : Nat → Int32} {q_payFor : Nat → Int32} {q_refused : Nat → Int32} {q_owned : Nat → Int64} {q_litIn : Nat → Int64} {q_shapes : Nat → Int32} {q_readAt : Nat → Int32} {q_meant : Nat → Int32} {q_readSo : Nat → Int32} {r : Int32} {v1 : Int32} (h : f_X5_isLetter fu q_letters v1 = some r) : mm_Ok mX5_isLetter [.ref 0, .int v1] (W_X5 q_wide q_high q_slackNow q_tenants q_letters q_readings q_kinds q_painOf q_payFor q_refused q_owned q_litIn q_shapes q_readAt q_meant q_readSo) (P_X5_isLetter q_wide q_high q_slackNow q_tenants q_letters q_readings q_kinds q_painOf q_payFor q_refused q_owned q_litIn q_shapes q_readAt q_meant q_readSo r) := by
  rw [f_X5_isLetter] at h
  refine mm_Ok.of pn_X5 (l := [(0, .ref 0), (1, .int v1)]) rfl (Nat.le_of_ble_eq_true rfl) ?_
  refine mm_iload_n 1 dX5_isLetter_0 rfl rfl (pc' := 1) rfl ?_
  refine mm_if_lt (tgt := 22) dX5_isLetter_1 (by decide) (pc' := 4) rfl (fun c => ?_) (fun c => ?_)
  · replace h := mm_it h c
    clear c
    exact mm_sub [] rfl (s_X5_isLetter_J22  h)
  · replace h := mm_if h c
    clear c
    refine mm_iload_n 1 dX5_isLetter_4 rfl rfl (pc' := 5) rfl ?_
    refine mm_aload_n 0 dX5_isLetter_5 rfl rfl (pc' := 6) rfl ?_
    refine mm_getf fG_X5_24 dX5_isLetter_6 rfl rfl (pc' := 9) rfl ?_
    refine mm_icmp_ge (tgt := 22) dX5_isLetter_9 (by decide) (pc' := 12) rfl (fun c => ?_) (fun c => ?_)
    · replace h := mm_it h c
      clear c
      exact mm_sub [] rfl (s_X5_isLetter_J22  h)
    · replace h := mm_if h c
      clear c
      refine mm_iload_n 1 dX5_isLetter_12 rfl rfl (pc' := 13) rfl ?_
      refine mm_bipush dX5_isLetter_13 kb_6 (pc' := 15) rfl ?_
      refine mm_icmp_ge (tgt := 22) dX5_isLetter_15 (by decide) (pc' := 18) rfl (fun c => ?_) (fun c => ?_)
      · replace h := mm_it h c
        clear c
        exact mm_sub [] rfl (s_X5_isLetter_J22  h)
      · replace h := mm_if h c
        clear c
        refine mm_iconst dX5_isLetter_18 ki_1 (pc' := 19) rfl ?_
        refine mm_goto (tgt := 23) dX5_isLetter_19 (by decide) ?_
        have h9 := Option.some.inj h
        subst h9
        exact mm_zret rfl (by decide) dX5_isLetter_23 ⟨rfl, rfl⟩

def P_X5_setRefused (q_wide : Int32) (q_high : Int32) (q_slackNow : Int32) (q_tenants : Int32) (q_letters : Int32) (q_readings : Int32) (q_kinds : Nat → Int32) (q_painOf : Nat → Int32) (q_payFor : Nat → Int32) (q_owned : Nat → Int64) (q_litIn : Nat → Int64) (q_shapes : Nat → Int32) (q_readAt : Nat → Int32) (q_meant : Nat → Int32) (q_readSo : Nat → Int32) (r : Int32 × (Nat → Int32)) : Option Value → mm_W → Prop := fun rv w => rv = some (.int r.1) ∧ w = (W_X5 q_wide q_high q_slackNow q_tenants q_letters q_readings q_kinds q_painOf q_payFor r.2 q_owned q_litIn q_shapes q_readAt q_meant q_readSo)
def X5_setRefused_J21 (fu : Nat)  (q_tenants : Int32) (q_letters : Int32) (q_refused : Nat → Int32)   : Option (Int32 × (Nat → Int32)) := some ((-2 : Int32), q_refused)
set_option maxHeartbeats 4000000 in
set_option maxRecDepth 100000 in
theorem s_X5_setRefused_J21 {fu : Nat} {q_wide : Int32} {q_high : Int32} {q_slackNow : Int32} {q_tenants : Int32} {q_letters : Int32} {q_readings : Int32} {q_kinds : Nat → Int32} {q_painOf : Nat → Int32} {q_payFor : Nat → Int32} {q_refused : Nat → Int32} {q_owned : Nat → Int64} {q_litIn : Nat → Int64} {q_shapes : Nat → Int32} {q_readAt : Nat → Int32} {q_meant : Nat → Int32} {q_readSo : Nat → Int32} {r : Int32 × (Nat → Int32)} (h : X5_setRefused_J21 fu q_tenants q_letters q_refused = some r) : mm_Wp mX5_setRefused (mm_R (P_X5_setRefused q_wide q_high q_slackNow q_tenants q_letters q_readings q_kinds q_painOf q_payFor q_owned q_litIn q_shapes q_readAt q_meant q_readSo r)) 0 0 21 [] [] (W_X5 q_wide q_high q_slackNow q_tenants q_letters q_readings q_kinds q_painOf q_payFor q_refused q_owned q_litIn q_shapes q_readAt q_meant q_readSo) := by
  rw [X5_setRefused_J21] at h
  refine mm_bipush dX5_setRefused_21 kb_m2 (pc' := 23) rfl ?_
  have h9 := Option.some.inj h
  subst h9
  exact mm_iret rfl dX5_setRefused_23 ⟨rfl, rfl⟩
def X5_setRefused_J24 (fu : Nat)  (q_tenants : Int32) (q_letters : Int32) (q_refused : Nat → Int32) (v1 : Int32) (v2 : Int32)  : Option (Int32 × (Nat → Int32)) := mm_rd q_refused 6 v1 fun x29 => mm_ck 6 v1 (some (x29, upd q_refused v1.toNatClampNeg v2))
set_option maxHeartbeats 4000000 in
set_option maxRecDepth 100000 in
theorem s_X5_setRefused_J24 {fu : Nat} {q_wide : Int32} {q_high : Int32} {q_slackNow : Int32} {q_tenants : Int32} {q_letters : Int32} {q_readings : Int32} {q_kinds : Nat → Int32} {q_painOf : Nat → Int32} {q_payFor : Nat → Int32} {q_refused : Nat → Int32} {q_owned : Nat → Int64} {q_litIn : Nat → Int64} {q_shapes : Nat → Int32} {q_readAt : Nat → Int32} {q_meant : Nat → Int32} {q_readSo : Nat → Int32} {r : Int32 × (Nat → Int32)} {v1 : Int32} {v2 : Int32} (h : X5_setRefused_J24 fu q_tenants q_letters q_refused v1 v2 = some r) : mm_Wp mX5_setRefused (mm_R (P_X5_setRefused q_wide q_high q_slackNow q_tenants q_letters q_readings q_kinds q_painOf q_payFor q_owned q_litIn q_shapes q_readAt q_meant q_readSo r)) 0 0 24 [(0, .ref 0), (1, .int v1), (2, .int v2)] [] (W_X5 q_wide q_high q_slackNow q_tenants q_letters q_readings q_kinds q_painOf q_payFor q_refused q_owned q_litIn q_shapes q_readAt q_meant q_readSo) := by
  rw [X5_setRefused_J24] at h
  refine mm_aload_n 0 dX5_setRefused_24 rfl rfl (pc' := 25) rfl ?_
  refine mm_getf fG_X5_40 dX5_setRefused_25 rfl rfl (pc' := 28) rfl ?_
  refine mm_iload_n 1 dX5_setRefused_28 rfl rfl (pc' := 29) rfl ?_
  obtain ⟨x29, c29, e29, h⟩ := mm_rd_of h
  refine mm_iald dX5_setRefused_29 rfl c29 e29 (pc' := 30) rfl ?_
  clear c29 e29
  refine mm_istore_n dX5_setRefused_30 rfl (by decide) (l' := [(3, .int x29), (0, .ref 0), (1, .int v1), (2, .int v2)]) rfl (pc' := 31) rfl ?_
  refine mm_aload_n 1 dX5_setRefused_31 rfl rfl (pc' := 32) rfl ?_
  refine mm_getf fG_X5_40 dX5_setRefused_32 rfl rfl (pc' := 35) rfl ?_
  refine mm_iload_n 2 dX5_setRefused_35 rfl rfl (pc' := 36) rfl ?_
  refine mm_iload_n 3 dX5_setRefused_36 rfl rfl (pc' := 37) rfl ?_
  obtain ⟨c37, h⟩ := mm_ck_of h
  refine mm_iast dX5_setRefused_37 rfl c37 rfl (ws' := (W_X5 q_wide q_high q_slackNow q_tenants q_letters q_readings q_kinds q_painOf q_payFor (upd q_refused v1.toNatClampNeg v2) q_owned q_litIn q_shapes q_readAt q_meant q_readSo)) rfl (pc' := 38) rfl ?_
  clear c37
  refine mm_iload_n 0 dX5_setRefused_38 rfl rfl (pc' := 39) rfl ?_
  have h9 := Option.some.inj h
  subst h9
  exact mm_iret rfl dX5_setRefused_39 ⟨rfl, rfl⟩
def f_X5_setRefused (fu : Nat) (q_tenants : Int32) (q_letters : Int32) (q_refused : Nat → Int32) (v1 : Int32) (v2 : Int32) : Option (Int32 × (Nat → Int32)) := (f_X5_isTenant fu q_tenants v1).bind fun t2 => if t2 = 0 then (X5_setRefused_J21 fu q_tenants q_letters q_refused) else (if v2 = (-1 : Int32) then (X5_setRefused_J24 fu q_tenants q_letters q_refused v1 v2) else ((f_X5_isLetter fu q_letters v2).bind fun t15 => if t15 = 0 then (X5_setRefused_J21 fu q_tenants q_letters q_refused) else (X5_setRefused_J24 fu q_tenants q_letters q_refused v1 v2)))
set_option maxHeartbeats 4000000 in
set_option maxRecDepth 100000 in
theorem ok_X5_setRefused {fu : Nat} {q_wide : Int32} {q_high : Int32} {q_slackNow : Int32} {q_tenants : Int32} {q_letters : Int32} {q_readings : Int32} {q_kinds : Nat → Int32} {q_painOf : Nat → Int32} {q_payFor : Nat → Int32} {q_refused : Nat → Int32} {q_owned : Nat → Int64} {q_litIn : Nat → Int64} {q_shapes : Nat → Int32} {q_readAt : Nat → Int32} {q_meant : Nat → Int32} {q_readSo : Nat → Int32} {r : Int32 × (Nat → Int32)} {v1 : Int32} {v2 : Int32} (h : f_X5_setRefused fu q_tenants q_letters q_refused v1 v2 = some r) : mm_Ok mX5_setRefused [.ref 0, .int v1, .int v2] (W_X5 q_wide q_high q_slackNow q_tenants q_letters q_readings q_kinds q_painOf q_payFor q_refused q_owned q_litIn q_shapes q_readAt q_meant q_readSo) (P_X5_setRefused q_wide q_high q_slackNow q_tenants q_letters q_readings q_kinds q_painOf q_payFor q_owned q_litIn q_shapes q_readAt q_meant q_readSo r) := by
  rw [f_X5_setRefused] at h
  refine mm_Ok.of pn_X5 (l := [(0, .ref 0), (1, .int v1), (2, .int v2)]) rfl (Nat.le_of_ble_eq_true rfl) ?_
  refine mm_aload_n 0 dX5_setRefused_0 rfl rfl (pc' := 1) rfl ?_
  refine mm_iload_n 1 dX5_setRefused_1 rfl rfl (pc' := 2) rfl ?_
  obtain ⟨t2, h2, h⟩ := mm_bd h
  refine mm_call0 (As := [.int v1]) (rest := []) cV_X5_83 (ok_X5_isTenant h2) ⟨rfl, rfl, Nat.le_of_ble_eq_true rfl, Nat.le_of_ble_eq_true rfl⟩ dX5_setRefused_2 rfl rfl rfl rfl (by rintro _ _ ⟨-, rfl⟩; rfl) (Nat.le_of_ble_eq_true rfl) ⟨Nat.le_of_ble_eq_true rfl, Nat.le_of_ble_eq_true rfl⟩ (pc' := 5) rfl ?_
  rintro rv w ⟨rfl, rfl⟩
  show mm_Wp _ _ _ _ 5 [(0, .ref 0), (1, .int v1), (2, .int v2)] [.int t2] (W_X5 q_wide q_high q_slackNow q_tenants q_letters q_readings q_kinds q_painOf q_payFor q_refused q_owned q_litIn q_shapes q_readAt q_meant q_readSo)
  clear h2
  refine mm_if_eq (tgt := 21) dX5_setRefused_5 (by decide) (pc' := 8) rfl (fun c => ?_) (fun c => ?_)
  · replace h := mm_it h c
    clear c
    exact mm_sub [] rfl (s_X5_setRefused_J21  h)
  · replace h := mm_if h c
    clear c
    refine mm_iload_n 2 dX5_setRefused_8 rfl rfl (pc' := 9) rfl ?_
    refine mm_iconst dX5_setRefused_9 ki_m1 (pc' := 10) rfl ?_
    refine mm_icmp_eq (tgt := 24) dX5_setRefused_10 (by decide) (pc' := 13) rfl (fun c => ?_) (fun c => ?_)
    · replace h := mm_it h c
      clear c
      exact s_X5_setRefused_J24  h
    · replace h := mm_if h c
      clear c
      refine mm_aload_n 0 dX5_setRefused_13 rfl rfl (pc' := 14) rfl ?_
      refine mm_iload_n 2 dX5_setRefused_14 rfl rfl (pc' := 15) rfl ?_
      obtain ⟨t15, h15, h⟩ := mm_bd h
      refine mm_call0 (As := [.int v2]) (rest := []) cV_X5_86 (ok_X5_isLetter h15) ⟨rfl, rfl, Nat.le_of_ble_eq_true rfl, Nat.le_of_ble_eq_true rfl⟩ dX5_setRefused_15 rfl rfl rfl rfl (by rintro _ _ ⟨-, rfl⟩; rfl) (Nat.le_of_ble_eq_true rfl) ⟨Nat.le_of_ble_eq_true rfl, Nat.le_of_ble_eq_true rfl⟩ (pc' := 18) rfl ?_
      rintro rv w ⟨rfl, rfl⟩
      show mm_Wp _ _ _ _ 18 [(0, .ref 0), (1, .int v1), (2, .int v2)] [.int t15] (W_X5 q_wide q_high q_slackNow q_tenants q_letters q_readings q_kinds q_painOf q_payFor q_refused q_owned q_litIn q_shapes q_readAt q_meant q_readSo)
      clear h15
      refine mm_if_ne (tgt := 24) dX5_setRefused_18 (by decide) (pc' := 21) rfl (fun c => ?_) (fun c => ?_)
      · replace h := mm_if h c
        clear c
        exact s_X5_setRefused_J24  h
      · replace h := mm_it h c
        clear c
        exact mm_sub [] rfl (s_X5_setRefused_J21  h)

def P_X5_addReading (q_wide : Int32) (q_high : Int32) (q_slackNow : Int32) (q_tenants : Int32) (q_letters : Int32) (q_kinds : Nat → Int32) (q_painOf : Nat → Int32) (q_payFor : Nat → Int32) (q_refused : Nat → Int32) (q_owned : Nat → Int64) (q_litIn : Nat → Int64) (q_shapes : Nat → Int32) (r : Int32 × Int32 × (Nat → Int32) × (Nat → Int32) × (Nat → Int32)) : Option Value → mm_W → Prop := fun rv w => rv = some (.int r.1) ∧ w = (W_X5 q_wide q_high q_slackNow q_tenants q_letters r.2.1 q_kinds q_painOf q_payFor q_refused q_owned q_litIn q_shapes r.2.2.1 r.2.2.2.1 r.2.2.2.2)
def X5_addReading_J29 (fu : Nat)  (q_wide : Int32) (q_high : Int32) (q_letters : Int32) (q_readings : Int32) (q_readAt : Nat → Int32) (q_meant : Nat → Int32) (q_readSo : Nat → Int32)   : Option (Int32 × Int32 × (Nat → Int32) × (Nat → Int32) × (Nat → Int32)) := some ((-2 : Int32), q_readings, q_readAt, q_meant, q_readSo)
set_option maxHeartbeats 4000000 in
set_option maxRecDepth 100000 in
theorem s_X5_addReading_J29 {fu : Nat} {q_wide : Int32} {q_high : Int32} {q_slackNow : Int32} {q_tenants : Int32} {q_letters : Int32} {q_readings : Int32} {q_kinds : Nat → Int32} {q_painOf : Nat → Int32} {q_payFor : Nat → Int32} {q_refused : Nat → Int32} {q_owned : Nat → Int64} {q_litIn : Nat → Int64} {q_shapes : Nat → Int32} {q_readAt : Nat → Int32} {q_meant : Nat → Int32} {q_readSo : Nat → Int32} {r : Int32 × Int32 × (Nat → Int32) × (Nat → Int32) × (Nat → Int32)} (h : X5_addReading_J29 fu q_wide q_high q_letters q_readings q_readAt q_meant q_readSo = some r) : mm_Wp mX5_addReading (mm_R (P_X5_addReading q_wide q_high q_slackNow q_tenants q_letters q_kinds q_painOf q_payFor q_refused q_owned q_litIn q_shapes r)) 0 0 29 [] [] (W_X5 q_wide q_high q_slackNow q_tenants q_letters q_readings q_kinds q_painOf q_payFor q_refused q_owned q_litIn q_shapes q_readAt q_meant q_readSo) := by
  rw [X5_addReading_J29] at h
  refine mm_bipush dX5_addReading_29 kb_m2 (pc' := 31) rfl ?_
  have h9 := Option.some.inj h
  subst h9
  exact mm_iret rfl dX5_addReading_31 ⟨rfl, rfl⟩
def X5_addReading_J32 (fu : Nat)  (q_wide : Int32) (q_high : Int32) (q_letters : Int32) (q_readings : Int32) (q_readAt : Nat → Int32) (q_meant : Nat → Int32) (q_readSo : Nat → Int32) (v1 : Int32) (v2 : Int32) (v3 : Int32)  : Option (Int32 × Int32 × (Nat → Int32) × (Nat → Int32) × (Nat → Int32)) := if q_readings < (6 : Int32) then (mm_ck 6 q_readings (mm_ck 6 q_readings (mm_ck 6 q_readings (some (((q_readings + (1 : Int32)) - (1 : Int32)), q_readings + (1 : Int32), upd q_readAt q_readings.toNatClampNeg v1, upd q_meant q_readings.toNatClampNeg v2, upd q_readSo q_readings.toNatClampNeg v3))))) else (some ((-4 : Int32), q_readings, q_readAt, q_meant, q_readSo))
set_option maxHeartbeats 4000000 in
set_option maxRecDepth 100000 in
theorem s_X5_addReading_J32 {fu : Nat} {q_wide : Int32} {q_high : Int32} {q_slackNow : Int32} {q_tenants : Int32} {q_letters : Int32} {q_readings : Int32} {q_kinds : Nat → Int32} {q_painOf : Nat → Int32} {q_payFor : Nat → Int32} {q_refused : Nat → Int32} {q_owned : Nat → Int64} {q_litIn : Nat → Int64} {q_shapes : Nat → Int32} {q_readAt : Nat → Int32} {q_meant : Nat → Int32} {q_readSo : Nat → Int32} {r : Int32 × Int32 × (Nat → Int32) × (Nat → Int32) × (Nat → Int32)} {v1 : Int32} {v2 : Int32} {v3 : Int32} (h : X5_addReading_J32 fu q_wide q_high q_letters q_readings q_readAt q_meant q_readSo v1 v2 v3 = some r) : mm_Wp mX5_addReading (mm_R (P_X5_addReading q_wide q_high q_slackNow q_tenants q_letters q_kinds q_painOf q_payFor q_refused q_owned q_litIn q_shapes r)) 0 0 32 [(0, .ref 0), (1, .int v1), (2, .int v2), (3, .int v3)] [] (W_X5 q_wide q_high q_slackNow q_tenants q_letters q_readings q_kinds q_painOf q_payFor q_refused q_owned q_litIn q_shapes q_readAt q_meant q_readSo) := by
  rw [X5_addReading_J32] at h
  refine mm_aload_n 0 dX5_addReading_32 rfl rfl (pc' := 33) rfl ?_
  refine mm_getf fG_X5_27 dX5_addReading_33 rfl rfl (pc' := 36) rfl ?_
  refine mm_bipush dX5_addReading_36 kb_6 (pc' := 38) rfl ?_
  refine mm_icmp_lt (tgt := 44) dX5_addReading_38 (by decide) (pc' := 41) rfl (fun c => ?_) (fun c => ?_)
  · replace h := mm_it h c
    clear c
    refine mm_aload_n 0 dX5_addReading_44 rfl rfl (pc' := 45) rfl ?_
    refine mm_getf fG_X5_53 dX5_addReading_45 rfl rfl (pc' := 48) rfl ?_
    refine mm_aload_n 0 dX5_addReading_48 rfl rfl (pc' := 49) rfl ?_
    refine mm_getf fG_X5_27 dX5_addReading_49 rfl rfl (pc' := 52) rfl ?_
    refine mm_iload_n 1 dX5_addReading_52 rfl rfl (pc' := 53) rfl ?_
    obtain ⟨c53, h⟩ := mm_ck_of h
    refine mm_iast dX5_addReading_53 rfl c53 rfl (ws' := (W_X5 q_wide q_high q_slackNow q_tenants q_letters q_readings q_kinds q_painOf q_payFor q_refused q_owned q_litIn q_shapes (upd q_readAt q_readings.toNatClampNeg v1) q_meant q_readSo)) rfl (pc' := 54) rfl ?_
    clear c53
    refine mm_aload_n 0 dX5_addReading_54 rfl rfl (pc' := 55) rfl ?_
    refine mm_getf fG_X5_56 dX5_addReading_55 rfl rfl (pc' := 58) rfl ?_
    refine mm_aload_n 0 dX5_addReading_58 rfl rfl (pc' := 59) rfl ?_
    refine mm_getf fG_X5_27 dX5_addReading_59 rfl rfl (pc' := 62) rfl ?_
    refine mm_iload_n 2 dX5_addReading_62 rfl rfl (pc' := 63) rfl ?_
    obtain ⟨c63, h⟩ := mm_ck_of h
    refine mm_iast dX5_addReading_63 rfl c63 rfl (ws' := (W_X5 q_wide q_high q_slackNow q_tenants q_letters q_readings q_kinds q_painOf q_payFor q_refused q_owned q_litIn q_shapes (upd q_readAt q_readings.toNatClampNeg v1) (upd q_meant q_readings.toNatClampNeg v2) q_readSo)) rfl (pc' := 64) rfl ?_
    clear c63
    refine mm_aload_n 0 dX5_addReading_64 rfl rfl (pc' := 65) rfl ?_
    refine mm_getf fG_X5_59 dX5_addReading_65 rfl rfl (pc' := 68) rfl ?_
    refine mm_aload_n 0 dX5_addReading_68 rfl rfl (pc' := 69) rfl ?_
    refine mm_getf fG_X5_27 dX5_addReading_69 rfl rfl (pc' := 72) rfl ?_
    refine mm_iload_n 3 dX5_addReading_72 rfl rfl (pc' := 73) rfl ?_
    obtain ⟨c73, h⟩ := mm_ck_of h
    refine mm_iast dX5_addReading_73 rfl c73 rfl (ws' := (W_X5 q_wide q_high q_slackNow q_tenants q_letters q_readings q_kinds q_painOf q_payFor q_refused q_owned q_litIn q_shapes (upd q_readAt q_readings.toNatClampNeg v1) (upd q_meant q_readings.toNatClampNeg v2) (upd q_readSo q_readings.toNatClampNeg v3))) rfl (pc' := 74) rfl ?_
    clear c73
    refine mm_aload_n 0 dX5_addReading_74 rfl rfl (pc' := 75) rfl ?_
    refine mm_dup dX5_addReading_75 rfl (pc' := 76) rfl ?_
    refine mm_getf fG_X5_27 dX5_addReading_76 rfl rfl (pc' := 79) rfl ?_
    refine mm_iconst dX5_addReading_79 ki_1 (pc' := 80) rfl ?_
    refine mm_iadd dX5_addReading_80 (pc' := 81) rfl ?_
    refine mm_putf fP_X5_27 dX5_addReading_81 rfl (Nat.le_of_ble_eq_true rfl) (fun _ => rfl) (fun _ => rfl) (ws' := (W_X5 q_wide q_high q_slackNow q_tenants q_letters (q_readings + (1 : Int32)) q_kinds q_painOf q_payFor q_refused q_owned q_litIn q_shapes (upd q_readAt q_readings.toNatClampNeg v1) (upd q_meant q_readings.toNatClampNeg v2) (upd q_readSo q_readings.toNatClampNeg v3))) rfl (pc' := 84) rfl ?_
    refine mm_aload_n 0 dX5_addReading_84 rfl rfl (pc' := 85) rfl ?_
    refine mm_getf fG_X5_27 dX5_addReading_85 rfl rfl (pc' := 88) rfl ?_
    refine mm_iconst dX5_addReading_88 ki_1 (pc' := 89) rfl ?_
    refine mm_isub dX5_addReading_89 (pc' := 90) rfl ?_
    have h9 := Option.some.inj h
    subst h9
    exact mm_iret rfl dX5_addReading_90 ⟨rfl, rfl⟩
  · replace h := mm_if h c
    clear c
    refine mm_bipush dX5_addReading_41 kb_m4 (pc' := 43) rfl ?_
    have h9 := Option.some.inj h
    subst h9
    exact mm_iret rfl dX5_addReading_43 ⟨rfl, rfl⟩
def f_X5_addReading (fu : Nat) (q_wide : Int32) (q_high : Int32) (q_letters : Int32) (q_readings : Int32) (q_readAt : Nat → Int32) (q_meant : Nat → Int32) (q_readSo : Nat → Int32) (v1 : Int32) (v2 : Int32) (v3 : Int32) : Option (Int32 × Int32 × (Nat → Int32) × (Nat → Int32) × (Nat → Int32)) := (f_X5_isBox fu q_wide q_high v1).bind fun t2 => if t2 = 0 then (X5_addReading_J29 fu q_wide q_high q_letters q_readings q_readAt q_meant q_readSo) else ((f_X5_isLetter fu q_letters v2).bind fun t10 => if t10 = 0 then (X5_addReading_J29 fu q_wide q_high q_letters q_readings q_readAt q_meant q_readSo) else (if v3 = (-1 : Int32) then (X5_addReading_J32 fu q_wide q_high q_letters q_readings q_readAt q_meant q_readSo v1 v2 v3) else ((f_X5_isLetter fu q_letters v3).bind fun t23 => if t23 = 0 then (X5_addReading_J29 fu q_wide q_high q_letters q_readings q_readAt q_meant q_readSo) else (X5_addReading_J32 fu q_wide q_high q_letters q_readings q_readAt q_meant q_readSo v1 v2 v3))))
set_option maxHeartbeats 4000000 in
set_option maxRecDepth 100000 in
theorem ok_X5_addReading {fu : Nat} {q_wide : Int32} {q_high : Int32} {q_slackNow : Int32} {q_tenants : Int32} {q_letters : Int32} {q_readings : Int32} {q_kinds : Nat → Int32} {q_painOf : Nat → Int32} {q_payFor : Nat → Int32} {q_refused : Nat → Int32} {q_owned : Nat → Int64} {q_litIn : Nat → Int64} {q_shapes : Nat → Int32} {q_readAt : Nat → Int32} {q_meant : Nat → Int32} {q_readSo : Nat → Int32} {r : Int32 × Int32 × (Nat → Int32) × (Nat → Int32) × (Nat → Int32)} {v1 : Int32} {v2 : Int32} {v3 : Int32} (h : f_X5_addReading fu q_wide q_high q_letters q_readings q_readAt q_meant q_readSo v1 v2 v3 = some r) : mm_Ok mX5_addReading [.ref 0, .int v1, .int v2, .int v3] (W_X5 q_wide q_high q_slackNow q_tenants q_letters q_readings q_kinds q_painOf q_payFor q_refused q_owned q_litIn q_shapes q_readAt q_meant q_readSo) (P_X5_addReading q_wide q_high q_slackNow q_tenants q_letters q_kinds q_painOf q_payFor q_refused q_owned q_litIn q_shapes r) := by
  rw [f_X5_addReading] at h
  refine mm_Ok.of pn_X5 (l := [(0, .ref 0), (1, .int v1), (2, .int v2), (3, .int v3)]) rfl (Nat.le_of_ble_eq_true rfl) ?_
  refine mm_aload_n 0 dX5_addReading_0 rfl rfl (pc' := 1) rfl ?_
  refine mm_iload_n 1 dX5_addReading_1 rfl rfl (pc' := 2) rfl ?_
  obtain ⟨t2, h2, h⟩ := mm_bd h
  refine mm_call0 (As := [.int v1]) (rest := []) cV_X5_104 (ok_X5_isBox h2) ⟨rfl, rfl, Nat.le_of_ble_eq_true rfl, Nat.le_of_ble_eq_true rfl⟩ dX5_addReading_2 rfl rfl rfl rfl (by rintro _ _ ⟨-, rfl⟩; rfl) (Nat.le_of_ble_eq_true rfl) ⟨Nat.le_of_ble_eq_true rfl, Nat.le_of_ble_eq_true rfl⟩ (pc' := 5) rfl ?_
  rintro rv w ⟨rfl, rfl⟩
  show mm_Wp _ _ _ _ 5 [(0, .ref 0), (1, .int v1), (2, .int v2), (3, .int v3)] [.int t2] (W_X5 q_wide q_high q_slackNow q_tenants q_letters q_readings q_kinds q_painOf q_payFor q_refused q_owned q_litIn q_shapes q_readAt q_meant q_readSo)
  clear h2
  refine mm_if_eq (tgt := 29) dX5_addReading_5 (by decide) (pc' := 8) rfl (fun c => ?_) (fun c => ?_)
  · replace h := mm_it h c
    clear c
    exact mm_sub [] rfl (s_X5_addReading_J29  h)
  · replace h := mm_if h c
    clear c
    refine mm_aload_n 0 dX5_addReading_8 rfl rfl (pc' := 9) rfl ?_
    refine mm_iload_n 2 dX5_addReading_9 rfl rfl (pc' := 10) rfl ?_
    obtain ⟨t10, h10, h⟩ := mm_bd h
    refine mm_call0 (As := [.int v2]) (rest := []) cV_X5_86 (ok_X5_isLetter h10) ⟨rfl, rfl, Nat.le_of_ble_eq_true rfl, Nat.le_of_ble_eq_true rfl⟩ dX5_addReading_10 rfl rfl rfl rfl (by rintro _ _ ⟨-, rfl⟩; rfl) (Nat.le_of_ble_eq_true rfl) ⟨Nat.le_of_ble_eq_true rfl, Nat.le_of_ble_eq_true rfl⟩ (pc' := 13) rfl ?_
    rintro rv w ⟨rfl, rfl⟩
    show mm_Wp _ _ _ _ 13 [(0, .ref 0), (1, .int v1), (2, .int v2), (3, .int v3)] [.int t10] (W_X5 q_wide q_high q_slackNow q_tenants q_letters q_readings q_kinds q_painOf q_payFor q_refused q_owned q_litIn q_shapes q_readAt q_meant q_readSo)
    clear h10
    refine mm_if_eq (tgt := 29) dX5_addReading_13 (by decide) (pc' := 16) rfl (fun c => ?_) (fun c => ?_)
    · replace h := mm_it h c
      clear c
      exact mm_sub [] rfl (s_X5_addReading_J29  h)
    · replace h := mm_if h c
      clear c
      refine mm_iload_n 3 dX5_addReading_16 rfl rfl (pc' := 17) rfl ?_
      refine mm_iconst dX5_addReading_17 ki_m1 (pc' := 18) rfl ?_
      refine mm_icmp_eq (tgt := 32) dX5_addReading_18 (by decide) (pc' := 21) rfl (fun c => ?_) (fun c => ?_)
      · replace h := mm_it h c
        clear c
        exact s_X5_addReading_J32  h
      · replace h := mm_if h c
        clear c
        refine mm_aload_n 0 dX5_addReading_21 rfl rfl (pc' := 22) rfl ?_
        refine mm_iload_n 3 dX5_addReading_22 rfl rfl (pc' := 23) rfl ?_
        obtain ⟨t23, h23, h⟩ := mm_bd h
        refine mm_call0 (As := [.int v3]) (rest := []) cV_X5_86 (ok_X5_isLetter h23) ⟨rfl, rfl, Nat.le_of_ble_eq_true rfl, Nat.le_of_ble_eq_true rfl⟩ dX5_addReading_23 rfl rfl rfl rfl (by rintro _ _ ⟨-, rfl⟩; rfl) (Nat.le_of_ble_eq_true rfl) ⟨Nat.le_of_ble_eq_true rfl, Nat.le_of_ble_eq_true rfl⟩ (pc' := 26) rfl ?_
        rintro rv w ⟨rfl, rfl⟩
        show mm_Wp _ _ _ _ 26 [(0, .ref 0), (1, .int v1), (2, .int v2), (3, .int v3)] [.int t23] (W_X5 q_wide q_high q_slackNow q_tenants q_letters q_readings q_kinds q_painOf q_payFor q_refused q_owned q_litIn q_shapes q_readAt q_meant q_readSo)
        clear h23
        refine mm_if_ne (tgt := 32) dX5_addReading_26 (by decide) (pc' := 29) rfl (fun c => ?_) (fun c => ?_)
        · replace h := mm_if h c
          clear c
          exact s_X5_addReading_J32  h
        · replace h := mm_it h c
          clear c
          exact mm_sub [] rfl (s_X5_addReading_J29  h)

def P_X5_payOf (q_wide : Int32) (q_high : Int32) (q_slackNow : Int32) (q_tenants : Int32) (q_letters : Int32) (q_readings : Int32) (q_kinds : Nat → Int32) (q_painOf : Nat → Int32) (q_payFor : Nat → Int32) (q_refused : Nat → Int32) (q_owned : Nat → Int64) (q_litIn : Nat → Int64) (q_shapes : Nat → Int32) (q_readAt : Nat → Int32) (q_meant : Nat → Int32) (q_readSo : Nat → Int32) (r : Int32) : Option Value → mm_W → Prop := fun rv w => rv = some (.int r) ∧ w = (W_X5 q_wide q_high q_slackNow q_tenants q_letters q_readings q_kinds q_painOf q_payFor q_refused q_owned q_litIn q_shapes q_readAt q_meant q_readSo)
def X5_payOf_J30 (fu : Nat) (rec4 : Int32 → Int32 → Option (Int32)) (q_tenants : Int32) (q_payFor : Nat → Int32) (v1 : Int32) (v2 : Int32) (v3 : Int32)  : Option (Int32) := rec4 v2 (v3 + (1 : Int32))
set_option maxHeartbeats 4000000 in
set_option maxRecDepth 100000 in
theorem s_X5_payOf_J30 {fu : Nat} {q_wide : Int32} {q_high : Int32} {q_slackNow : Int32} {q_tenants : Int32} {q_letters : Int32} {q_readings : Int32} {q_kinds : Nat → Int32} {q_painOf : Nat → Int32} {q_payFor : Nat → Int32} {q_refused : Nat → Int32} {q_owned : Nat → Int64} {q_litIn : Nat → Int64} {q_shapes : Nat → Int32} {q_readAt : Nat → Int32} {q_meant : Nat → Int32} {q_readSo : Nat → Int32} {r : Int32} {rec4 : Int32 → Int32 → Option (Int32)} {v1 : Int32} {v2 : Int32} {v3 : Int32} (hr4 : ∀ (y2 : Int32) (y3 : Int32), rec4 y2 y3 = some r → mm_Wp mX5_payOf (mm_R (P_X5_payOf q_wide q_high q_slackNow q_tenants q_letters q_readings q_kinds q_painOf q_payFor q_refused q_owned q_litIn q_shapes q_readAt q_meant q_readSo r)) 0 0 4 [(0, .ref 0), (1, .int v1), (2, .int y2), (3, .int y3)] [] (W_X5 q_wide q_high q_slackNow q_tenants q_letters q_readings q_kinds q_painOf q_payFor q_refused q_owned q_litIn q_shapes q_readAt q_meant q_readSo)) (h : X5_payOf_J30 fu rec4 q_tenants q_payFor v1 v2 v3 = some r) : mm_Wp mX5_payOf (mm_R (P_X5_payOf q_wide q_high q_slackNow q_tenants q_letters q_readings q_kinds q_painOf q_payFor q_refused q_owned q_litIn q_shapes q_readAt q_meant q_readSo r)) 0 0 30 [(0, .ref 0), (1, .int v1), (2, .int v2), (3, .int v3)] [] (W_X5 q_wide q_high q_slackNow q_tenants q_letters q_readings q_kinds q_painOf q_payFor q_refused q_owned q_litIn q_shapes q_readAt q_meant q_readSo) := by
  rw [X5_payOf_J30] at h
  refine mm_iinc 3 dX5_payOf_30 rfl ki_1 (by decide) (l' := [(3, .int (v3 + (1 : Int32))), (0, .ref 0), (1, .int v1), (2, .int v2)]) rfl (pc' := 33) rfl ?_
  refine mm_goto (tgt := 4) dX5_payOf_33 (by decide) ?_
  exact mm_sub [1, 2, 3, 0] rfl (hr4 _ _ h)
def X5_payOf_L4 (fu : Nat)  (q_tenants : Int32) (q_payFor : Nat → Int32) (v1 : Int32) : Nat → Int32 → Int32 → Option (Int32)
  | 0, _, _ => none
  | n + 1, v2, v3 => if q_tenants ≤ v3 then (some (v2)) else (if ((v1 >>> (v3 &&& 31)) &&& (1 : Int32)) = (1 : Int32) then (mm_rd q_payFor 6 v3 fun x27 => X5_payOf_J30 fu (X5_payOf_L4 fu q_tenants q_payFor v1 n) q_tenants q_payFor v1 (v2 + x27) v3) else (X5_payOf_J30 fu (X5_payOf_L4 fu q_tenants q_payFor v1 n) q_tenants q_payFor v1 v2 v3))
set_option maxHeartbeats 4000000 in
set_option maxRecDepth 100000 in
theorem s_X5_payOf_L4 {fu : Nat} {q_wide : Int32} {q_high : Int32} {q_slackNow : Int32} {q_tenants : Int32} {q_letters : Int32} {q_readings : Int32} {q_kinds : Nat → Int32} {q_painOf : Nat → Int32} {q_payFor : Nat → Int32} {q_refused : Nat → Int32} {q_owned : Nat → Int64} {q_litIn : Nat → Int64} {q_shapes : Nat → Int32} {q_readAt : Nat → Int32} {q_meant : Nat → Int32} {q_readSo : Nat → Int32} {r : Int32} {v1 : Int32} : ∀ (n : Nat) (v2 : Int32) (v3 : Int32), X5_payOf_L4 fu q_tenants q_payFor v1 n v2 v3 = some r → mm_Wp mX5_payOf (mm_R (P_X5_payOf q_wide q_high q_slackNow q_tenants q_letters q_readings q_kinds q_painOf q_payFor q_refused q_owned q_litIn q_shapes q_readAt q_meant q_readSo r)) 0 0 4 [(0, .ref 0), (1, .int v1), (2, .int v2), (3, .int v3)] [] (W_X5 q_wide q_high q_slackNow q_tenants q_letters q_readings q_kinds q_painOf q_payFor q_refused q_owned q_litIn q_shapes q_readAt q_meant q_readSo) := by
  intro n
  induction n with
  | zero =>
    intro v2 v3 h
    rw [X5_payOf_L4] at h
    cases h
  | succ n hr4 =>
    intro v2 v3 h
    rw [X5_payOf_L4] at h
    refine mm_iload_n 3 dX5_payOf_4 rfl rfl (pc' := 5) rfl ?_
    refine mm_aload_n 0 dX5_payOf_5 rfl rfl (pc' := 6) rfl ?_
    refine mm_getf fG_X5_21 dX5_payOf_6 rfl rfl (pc' := 9) rfl ?_
    refine mm_icmp_ge (tgt := 36) dX5_payOf_9 (by decide) (pc' := 12) rfl (fun c => ?_) (fun c => ?_)
    · replace h := mm_it h c
      clear c
      refine mm_iload_n 2 dX5_payOf_36 rfl rfl (pc' := 37) rfl ?_
      have h9 := Option.some.inj h
      subst h9
      exact mm_iret rfl dX5_payOf_37 ⟨rfl, rfl⟩
    · replace h := mm_if h c
      clear c
      refine mm_iload_n 1 dX5_payOf_12 rfl rfl (pc' := 13) rfl ?_
      refine mm_iload_n 3 dX5_payOf_13 rfl rfl (pc' := 14) rfl ?_
      refine mm_ishr dX5_payOf_14 (pc' := 15) rfl ?_
      refine mm_iconst dX5_payOf_15 ki_1 (pc' := 16) rfl ?_
      refine mm_iand dX5_payOf_16 (pc' := 17) rfl ?_
      refine mm_iconst dX5_payOf_17 ki_1 (pc' := 18) rfl ?_
      refine mm_icmp_ne (tgt := 30) dX5_payOf_18 (by decide) (pc' := 21) rfl (fun c => ?_) (fun c => ?_)
      · replace h := mm_if h c
        clear c
        exact s_X5_payOf_J30 (hr4 := hr4) h
      · replace h := mm_it h c
        clear c
        refine mm_iload_n 2 dX5_payOf_21 rfl rfl (pc' := 22) rfl ?_
        refine mm_aload_n 0 dX5_payOf_22 rfl rfl (pc' := 23) rfl ?_
        refine mm_getf fG_X5_37 dX5_payOf_23 rfl rfl (pc' := 26) rfl ?_
        refine mm_iload_n 3 dX5_payOf_26 rfl rfl (pc' := 27) rfl ?_
        obtain ⟨x27, c27, e27, h⟩ := mm_rd_of h
        refine mm_iald dX5_payOf_27 rfl c27 e27 (pc' := 28) rfl ?_
        clear c27 e27
        refine mm_iadd dX5_payOf_28 (pc' := 29) rfl ?_
        refine mm_istore_n dX5_payOf_29 rfl (by decide) (l' := [(2, .int (v2 + x27)), (0, .ref 0), (1, .int v1), (3, .int v3)]) rfl (pc' := 30) rfl ?_
        exact mm_sub [1, 2, 0, 3] rfl (s_X5_payOf_J30 (hr4 := hr4) h)
def f_X5_payOf (fu : Nat) (q_tenants : Int32) (q_payFor : Nat → Int32) (v1 : Int32) : Option (Int32) := X5_payOf_L4 fu q_tenants q_payFor v1 fu (0 : Int32) (0 : Int32)
set_option maxHeartbeats 4000000 in
set_option maxRecDepth 100000 in
theorem ok_X5_payOf {fu : Nat} {q_wide : Int32} {q_high : Int32} {q_slackNow : Int32} {q_tenants : Int32} {q_letters : Int32} {q_readings : Int32} {q_kinds : Nat → Int32} {q_painOf : Nat → Int32} {q_payFor : Nat → Int32} {q_refused : Nat → Int32} {q_owned : Nat → Int64} {q_litIn : Nat → Int64} {q_shapes : Nat → Int32} {q_readAt : Nat → Int32} {q_meant : Nat → Int32} {q_readSo : Nat → Int32} {r : Int32} {v1 : Int32} (h : f_X5_payOf fu q_tenants q_payFor v1 = some r) : mm_Ok mX5_payOf [.ref 0, .int v1] (W_X5 q_wide q_high q_slackNow q_tenants q_letters q_readings q_kinds q_painOf q_payFor q_refused q_owned q_litIn q_shapes q_readAt q_meant q_readSo) (P_X5_payOf q_wide q_high q_slackNow q_tenants q_letters q_readings q_kinds q_painOf q_payFor q_refused q_owned q_litIn q_shapes q_readAt q_meant q_readSo r) := by
  rw [f_X5_payOf] at h
  refine mm_Ok.of pn_X5 (l := [(0, .ref 0), (1, .int v1)]) rfl (Nat.le_of_ble_eq_true rfl) ?_
  refine mm_iconst dX5_payOf_0 ki_0 (pc' := 1) rfl ?_
  refine mm_istore_n dX5_payOf_1 rfl (by decide) (l' := [(2, .int (0 : Int32)), (0, .ref 0), (1, .int v1)]) rfl (pc' := 2) rfl ?_
  refine mm_iconst dX5_payOf_2 ki_0 (pc' := 3) rfl ?_
  refine mm_istore_n dX5_payOf_3 rfl (by decide) (l' := [(3, .int (0 : Int32)), (2, .int (0 : Int32)), (0, .ref 0), (1, .int v1)]) rfl (pc' := 4) rfl ?_
  exact mm_sub [2, 3, 1, 0] rfl (s_X5_payOf_L4  _ _ _ h)

def P_X5_fits (q_wide : Int32) (q_high : Int32) (q_slackNow : Int32) (q_tenants : Int32) (q_letters : Int32) (q_readings : Int32) (q_kinds : Nat → Int32) (q_painOf : Nat → Int32) (q_payFor : Nat → Int32) (q_refused : Nat → Int32) (q_owned : Nat → Int64) (q_litIn : Nat → Int64) (q_shapes : Nat → Int32) (q_readAt : Nat → Int32) (q_meant : Nat → Int32) (q_readSo : Nat → Int32) (r : Int32) : Option Value → mm_W → Prop := fun rv w => rv = some (.int r) ∧ w = (W_X5 q_wide q_high q_slackNow q_tenants q_letters q_readings q_kinds q_painOf q_payFor q_refused q_owned q_litIn q_shapes q_readAt q_meant q_readSo)
def f_X5_fits (fu : Nat) (q_slackNow : Int32) (q_letters : Int32) (q_litIn : Nat → Int64) (q_shapes : Nat → Int32) (v1 : Int32) (v2 : Int32) (v3 : Int32) (v4 : Int64) : Option (Int32) := (f_X7_shapeIn fu v4 v2).bind fun t3 => mm_let ((t3 ^^^ (-1 : Int32)) &&& (4095 : Int32)) fun y12 => mm_rd q_shapes 6 v1 fun x19 => mm_rd q_litIn 4 v3 fun x25 => (f_X7_shapeIn fu x25 v2).bind fun t27 => mm_rd q_shapes 6 v1 fun x42 => (f_X5_readAs fu q_slackNow q_letters q_shapes (x42 ^^^ ((x19 ^^^ t27) &&& y12))).bind fun t46 => if t46 = v1 then (some ((1 : Int32))) else (some ((0 : Int32)))
set_option maxHeartbeats 4000000 in
set_option maxRecDepth 100000 in
theorem ok_X5_fits {fu : Nat} {q_wide : Int32} {q_high : Int32} {q_slackNow : Int32} {q_tenants : Int32} {q_letters : Int32} {q_readings : Int32} {q_kinds : Nat → Int32} {q_painOf : Nat → Int32} {q_payFor : Nat → Int32} {q_refused : Nat → Int32} {q_owned : Nat → Int64} {q_litIn : Nat → Int64} {q_shapes : Nat → Int32} {q_readAt : Nat → Int32} {q_meant : Nat → Int32} {q_readSo : Nat → Int32} {r : Int32} {v1 : Int32} {v2 : Int32} {v3 : Int32} {v4 : Int64} (h : f_X5_fits fu q_slackNow q_letters q_litIn q_shapes v1 v2 v3 v4 = some r) : mm_Ok mX5_fits [.ref 0, .int v1, .int v2, .int v3, .long v4] (W_X5 q_wide q_high q_slackNow q_tenants q_letters q_readings q_kinds q_painOf q_payFor q_refused q_owned q_litIn q_shapes q_readAt q_meant q_readSo) (P_X5_fits q_wide q_high q_slackNow q_tenants q_letters q_readings q_kinds q_painOf q_payFor q_refused q_owned q_litIn q_shapes q_readAt q_meant q_readSo r) := by
  rw [f_X5_fits] at h
  refine mm_Ok.of pn_X5 (l := [(0, .ref 0), (1, .int v1), (2, .int v2), (3, .int v3), (4, .long v4)]) rfl (Nat.le_of_ble_eq_true rfl) ?_
  refine mm_lload 4 dX5_fits_0 rfl (pc' := 2) rfl ?_
  refine mm_iload_n 2 dX5_fits_2 rfl rfl (pc' := 3) rfl ?_
  obtain ⟨t3, h3, h⟩ := mm_bd h
  refine mm_callSN (As := [.long v4, .int v2]) (rest := []) (av := [.long v4, .int v2]) (wc := []) (is := []) cN_X5_116 (ok_X7_shapeIn h3) ⟨rfl, rfl, Nat.le_of_ble_eq_true rfl, Nat.le_of_ble_eq_true rfl⟩ dX5_fits_3 rfl rfl rfl ⟨rfl, by decide, by decide⟩ (by rintro _ _ ⟨-, rfl⟩; rfl) (Nat.le_of_ble_eq_true rfl) ⟨Nat.le_of_ble_eq_true rfl, Nat.le_of_ble_eq_true rfl⟩ (pc' := 6) rfl ?_
  rintro rv w ⟨rfl, rfl⟩
  show mm_Wp _ _ _ _ 6 [(0, .ref 0), (1, .int v1), (2, .int v2), (3, .int v3), (4, .long v4)] [.int t3] (W_X5 q_wide q_high q_slackNow q_tenants q_letters q_readings q_kinds q_painOf q_payFor q_refused q_owned q_litIn q_shapes q_readAt q_meant q_readSo)
  clear h3
  refine mm_iconst dX5_fits_6 ki_m1 (pc' := 7) rfl ?_
  refine mm_ixor dX5_fits_7 (pc' := 8) rfl ?_
  refine mm_sipush dX5_fits_8 ks_4095 (pc' := 11) rfl ?_
  refine mm_iand dX5_fits_11 (pc' := 12) rfl ?_
  refine mm_topi (fun y12 e => ?_)
  replace h := mm_let_of h y12 e
  clear e
  refine mm_istore dX5_fits_12 (by decide) (l' := [(6, .int y12), (0, .ref 0), (1, .int v1), (2, .int v2), (3, .int v3), (4, .long v4)]) rfl (pc' := 14) rfl ?_
  refine mm_aload_n 1 dX5_fits_14 rfl rfl (pc' := 15) rfl ?_
  refine mm_getf fG_X5_50 dX5_fits_15 rfl rfl (pc' := 18) rfl ?_
  refine mm_iload_n 2 dX5_fits_18 rfl rfl (pc' := 19) rfl ?_
  obtain ⟨x19, c19, e19, h⟩ := mm_rd_of h
  refine mm_iald dX5_fits_19 rfl c19 e19 (pc' := 20) rfl ?_
  clear c19 e19
  refine mm_aload_n 1 dX5_fits_20 rfl rfl (pc' := 21) rfl ?_
  refine mm_getf fG_X5_47 dX5_fits_21 rfl rfl (pc' := 24) rfl ?_
  refine mm_iload_n 4 dX5_fits_24 rfl rfl (pc' := 25) rfl ?_
  obtain ⟨x25, c25, e25, h⟩ := mm_rd_of h
  refine mm_lald dX5_fits_25 rfl c25 e25 (pc' := 26) rfl ?_
  clear c25 e25
  refine mm_iload_n 3 dX5_fits_26 rfl rfl (pc' := 27) rfl ?_
  obtain ⟨t27, h27, h⟩ := mm_bd h
  refine mm_callSN (As := [.long x25, .int v2]) (rest := [.int x19]) (av := [.long x25, .int v2]) (wc := []) (is := []) cN_X5_116 (ok_X7_shapeIn h27) ⟨rfl, rfl, Nat.le_of_ble_eq_true rfl, Nat.le_of_ble_eq_true rfl⟩ dX5_fits_27 rfl rfl rfl ⟨rfl, by decide, by decide⟩ (by rintro _ _ ⟨-, rfl⟩; rfl) (Nat.le_of_ble_eq_true rfl) ⟨Nat.le_of_ble_eq_true rfl, Nat.le_of_ble_eq_true rfl⟩ (pc' := 30) rfl ?_
  rintro rv w ⟨rfl, rfl⟩
  show mm_Wp _ _ _ _ 30 [(6, .int y12), (0, .ref 0), (1, .int v1), (2, .int v2), (3, .int v3), (4, .long v4)] [.int t27, .int x19] (W_X5 q_wide q_high q_slackNow q_tenants q_letters q_readings q_kinds q_painOf q_payFor q_refused q_owned q_litIn q_shapes q_readAt q_meant q_readSo)
  clear h27
  refine mm_ixor dX5_fits_30 (pc' := 31) rfl ?_
  refine mm_iload 0 dX5_fits_31 rfl (pc' := 33) rfl ?_
  refine mm_iand dX5_fits_33 (pc' := 34) rfl ?_
  refine mm_istore dX5_fits_34 (by decide) (l' := [(7, .int ((x19 ^^^ t27) &&& y12)), (6, .int y12), (0, .ref 0), (1, .int v1), (2, .int v2), (3, .int v3), (4, .long v4)]) rfl (pc' := 36) rfl ?_
  refine mm_aload_n 2 dX5_fits_36 rfl rfl (pc' := 37) rfl ?_
  refine mm_aload_n 2 dX5_fits_37 rfl rfl (pc' := 38) rfl ?_
  refine mm_getf fG_X5_50 dX5_fits_38 rfl rfl (pc' := 41) rfl ?_
  refine mm_iload_n 3 dX5_fits_41 rfl rfl (pc' := 42) rfl ?_
  obtain ⟨x42, c42, e42, h⟩ := mm_rd_of h
  refine mm_iald dX5_fits_42 rfl c42 e42 (pc' := 43) rfl ?_
  clear c42 e42
  refine mm_iload 0 dX5_fits_43 rfl (pc' := 45) rfl ?_
  refine mm_ixor dX5_fits_45 (pc' := 46) rfl ?_
  obtain ⟨t46, h46, h⟩ := mm_bd h
  refine mm_call0 (As := [.int (x42 ^^^ ((x19 ^^^ t27) &&& y12))]) (rest := []) cV_X5_120 (ok_X5_readAs h46) ⟨rfl, rfl, Nat.le_of_ble_eq_true rfl, Nat.le_of_ble_eq_true rfl⟩ dX5_fits_46 rfl rfl rfl rfl (by rintro _ _ ⟨-, rfl⟩; rfl) (Nat.le_of_ble_eq_true rfl) ⟨Nat.le_of_ble_eq_true rfl, Nat.le_of_ble_eq_true rfl⟩ (pc' := 49) rfl ?_
  rintro rv w ⟨rfl, rfl⟩
  show mm_Wp _ _ _ _ 49 [(7, .int ((x19 ^^^ t27) &&& y12)), (6, .int y12), (0, .ref 0), (1, .int v1), (2, .int v2), (3, .int v3), (4, .long v4)] [.int t46] (W_X5 q_wide q_high q_slackNow q_tenants q_letters q_readings q_kinds q_painOf q_payFor q_refused q_owned q_litIn q_shapes q_readAt q_meant q_readSo)
  clear h46
  refine mm_iload_n 3 dX5_fits_49 rfl rfl (pc' := 50) rfl ?_
  refine mm_icmp_ne (tgt := 57) dX5_fits_50 (by decide) (pc' := 53) rfl (fun c => ?_) (fun c => ?_)
  · replace h := mm_if h c
    clear c
    refine mm_iconst dX5_fits_57 ki_0 (pc' := 58) rfl ?_
    have h9 := Option.some.inj h
    subst h9
    exact mm_zret rfl (by decide) dX5_fits_58 ⟨rfl, rfl⟩
  · replace h := mm_it h c
    clear c
    refine mm_iconst dX5_fits_53 ki_1 (pc' := 54) rfl ?_
    refine mm_goto (tgt := 58) dX5_fits_54 (by decide) ?_
    have h9 := Option.some.inj h
    subst h9
    exact mm_zret rfl (by decide) dX5_fits_58 ⟨rfl, rfl⟩

def P_X5_firstColumn (q_wide : Int32) (q_high : Int32) (q_slackNow : Int32) (q_tenants : Int32) (q_letters : Int32) (q_readings : Int32) (q_kinds : Nat → Int32) (q_painOf : Nat → Int32) (q_payFor : Nat → Int32) (q_refused : Nat → Int32) (q_owned : Nat → Int64) (q_litIn : Nat → Int64) (q_shapes : Nat → Int32) (q_readAt : Nat → Int32) (q_meant : Nat → Int32) (q_readSo : Nat → Int32) (r : Int32) : Option Value → mm_W → Prop := fun rv w => rv = some (.int r) ∧ w = (W_X5 q_wide q_high q_slackNow q_tenants q_letters q_readings q_kinds q_painOf q_payFor q_refused q_owned q_litIn q_shapes q_readAt q_meant q_readSo)
def X5_firstColumn_L3 (fu : Nat)  (q_wide : Int32) (q_slackNow : Int32) (q_letters : Int32) (q_litIn : Nat → Int64) (q_shapes : Nat → Int32) (v1 : Int32) (v2 : Int32) (v4 : Int32) (v5 : Int64) : Nat → Int32 → Option (Int32)
  | 0, _ => none
  | n + 1, v7 => if (q_wide - (3 : Int32)) < v7 then (some ((-1 : Int32))) else ((f_X5_fits fu q_slackNow q_letters q_litIn q_shapes v1 (((12 : Int32) * v2) + v7) v4 v5).bind fun t27 => if t27 = 0 then ((X5_firstColumn_L3 fu q_wide q_slackNow q_letters q_litIn q_shapes v1 v2 v4 v5 n) (v7 + (1 : Int32))) else (some (v7)))
set_option maxHeartbeats 4000000 in
set_option maxRecDepth 100000 in
theorem s_X5_firstColumn_L3 {fu : Nat} {q_wide : Int32} {q_high : Int32} {q_slackNow : Int32} {q_tenants : Int32} {q_letters : Int32} {q_readings : Int32} {q_kinds : Nat → Int32} {q_painOf : Nat → Int32} {q_payFor : Nat → Int32} {q_refused : Nat → Int32} {q_owned : Nat → Int64} {q_litIn : Nat → Int64} {q_shapes : Nat → Int32} {q_readAt : Nat → Int32} {q_meant : Nat → Int32} {q_readSo : Nat → Int32} {r : Int32} {v1 : Int32} {v2 : Int32} {v4 : Int32} {v5 : Int64} : ∀ (n : Nat) (v7 : Int32), X5_firstColumn_L3 fu q_wide q_slackNow q_letters q_litIn q_shapes v1 v2 v4 v5 n v7 = some r → mm_Wp mX5_firstColumn (mm_R (P_X5_firstColumn q_wide q_high q_slackNow q_tenants q_letters q_readings q_kinds q_painOf q_payFor q_refused q_owned q_litIn q_shapes q_readAt q_meant q_readSo r)) 0 0 3 [(0, .ref 0), (1, .int v1), (2, .int v2), (4, .int v4), (5, .long v5), (7, .int v7)] [] (W_X5 q_wide q_high q_slackNow q_tenants q_letters q_readings q_kinds q_painOf q_payFor q_refused q_owned q_litIn q_shapes q_readAt q_meant q_readSo) := by
  intro n
  induction n with
  | zero =>
    intro v7 h
    rw [X5_firstColumn_L3] at h
    cases h
  | succ n hr3 =>
    intro v7 h
    rw [X5_firstColumn_L3] at h
    refine mm_iload 5 dX5_firstColumn_3 rfl (pc' := 5) rfl ?_
    refine mm_aload_n 0 dX5_firstColumn_5 rfl rfl (pc' := 6) rfl ?_
    refine mm_getf fG_X5_9 dX5_firstColumn_6 rfl rfl (pc' := 9) rfl ?_
    refine mm_iconst dX5_firstColumn_9 ki_3 (pc' := 10) rfl ?_
    refine mm_isub dX5_firstColumn_10 (pc' := 11) rfl ?_
    refine mm_icmp_gt (tgt := 42) dX5_firstColumn_11 (by decide) (pc' := 14) rfl (fun c => ?_) (fun c => ?_)
    · replace h := mm_it h c
      clear c
      refine mm_iconst dX5_firstColumn_42 ki_m1 (pc' := 43) rfl ?_
      have h9 := Option.some.inj h
      subst h9
      exact mm_iret rfl dX5_firstColumn_43 ⟨rfl, rfl⟩
    · replace h := mm_if h c
      clear c
      refine mm_aload_n 0 dX5_firstColumn_14 rfl rfl (pc' := 15) rfl ?_
      refine mm_iload_n 1 dX5_firstColumn_15 rfl rfl (pc' := 16) rfl ?_
      refine mm_bipush dX5_firstColumn_16 kb_12 (pc' := 18) rfl ?_
      refine mm_iload_n 2 dX5_firstColumn_18 rfl rfl (pc' := 19) rfl ?_
      refine mm_imul dX5_firstColumn_19 (pc' := 20) rfl ?_
      refine mm_iload 5 dX5_firstColumn_20 rfl (pc' := 22) rfl ?_
      refine mm_iadd dX5_firstColumn_22 (pc' := 23) rfl ?_
      refine mm_iload 3 dX5_firstColumn_23 rfl (pc' := 25) rfl ?_
      refine mm_lload 4 dX5_firstColumn_25 rfl (pc' := 27) rfl ?_
      obtain ⟨t27, h27, h⟩ := mm_bd h
      refine mm_call0 (As := [.int v1, .int (((12 : Int32) * v2) + v7), .int v4, .long v5]) (rest := []) cV_X5_123 (ok_X5_fits h27) ⟨rfl, rfl, Nat.le_of_ble_eq_true rfl, Nat.le_of_ble_eq_true rfl⟩ dX5_firstColumn_27 rfl rfl rfl rfl (by rintro _ _ ⟨-, rfl⟩; rfl) (Nat.le_of_ble_eq_true rfl) ⟨Nat.le_of_ble_eq_true rfl, Nat.le_of_ble_eq_true rfl⟩ (pc' := 30) rfl ?_
      rintro rv w ⟨rfl, rfl⟩
      show mm_Wp _ _ _ _ 30 [(0, .ref 0), (1, .int v1), (2, .int v2), (4, .int v4), (5, .long v5), (7, .int v7)] [.int t27] (W_X5 q_wide q_high q_slackNow q_tenants q_letters q_readings q_kinds q_painOf q_payFor q_refused q_owned q_litIn q_shapes q_readAt q_meant q_readSo)
      clear h27
      refine mm_if_eq (tgt := 36) dX5_firstColumn_30 (by decide) (pc' := 33) rfl (fun c => ?_) (fun c => ?_)
      · replace h := mm_it h c
        clear c
        refine mm_iinc 5 dX5_firstColumn_36 rfl ki_1 (by decide) (l' := [(7, .int (v7 + (1 : Int32))), (0, .ref 0), (1, .int v1), (2, .int v2), (4, .int v4), (5, .long v5)]) rfl (pc' := 39) rfl ?_
        refine mm_goto (tgt := 3) dX5_firstColumn_39 (by decide) ?_
        exact mm_sub [1, 2, 3, 4, 5, 0] rfl (hr3 _ h)
      · replace h := mm_if h c
        clear c
        refine mm_iload 5 dX5_firstColumn_33 rfl (pc' := 35) rfl ?_
        have h9 := Option.some.inj h
        subst h9
        exact mm_iret rfl dX5_firstColumn_35 ⟨rfl, rfl⟩
def f_X5_firstColumn (fu : Nat) (q_wide : Int32) (q_slackNow : Int32) (q_letters : Int32) (q_litIn : Nat → Int64) (q_shapes : Nat → Int32) (v1 : Int32) (v2 : Int32) (v3 : Int32) (v4 : Int32) (v5 : Int64) : Option (Int32) := X5_firstColumn_L3 fu q_wide q_slackNow q_letters q_litIn q_shapes v1 v2 v4 v5 fu v3
set_option maxHeartbeats 4000000 in
set_option maxRecDepth 100000 in
theorem ok_X5_firstColumn {fu : Nat} {q_wide : Int32} {q_high : Int32} {q_slackNow : Int32} {q_tenants : Int32} {q_letters : Int32} {q_readings : Int32} {q_kinds : Nat → Int32} {q_painOf : Nat → Int32} {q_payFor : Nat → Int32} {q_refused : Nat → Int32} {q_owned : Nat → Int64} {q_litIn : Nat → Int64} {q_shapes : Nat → Int32} {q_readAt : Nat → Int32} {q_meant : Nat → Int32} {q_readSo : Nat → Int32} {r : Int32} {v1 : Int32} {v2 : Int32} {v3 : Int32} {v4 : Int32} {v5 : Int64} (h : f_X5_firstColumn fu q_wide q_slackNow q_letters q_litIn q_shapes v1 v2 v3 v4 v5 = some r) : mm_Ok mX5_firstColumn [.ref 0, .int v1, .int v2, .int v3, .int v4, .long v5] (W_X5 q_wide q_high q_slackNow q_tenants q_letters q_readings q_kinds q_painOf q_payFor q_refused q_owned q_litIn q_shapes q_readAt q_meant q_readSo) (P_X5_firstColumn q_wide q_high q_slackNow q_tenants q_letters q_readings q_kinds q_painOf q_payFor q_refused q_owned q_litIn q_shapes q_readAt q_meant q_readSo r) := by
  rw [f_X5_firstColumn] at h
  refine mm_Ok.of pn_X5 (l := [(0, .ref 0), (1, .int v1), (2, .int v2), (3, .int v3), (4, .int v4), (5, .long v5)]) rfl (Nat.le_of_ble_eq_true rfl) ?_
  refine mm_iload_n 3 dX5_firstColumn_0 rfl rfl (pc' := 1) rfl ?_
  refine mm_istore dX5_firstColumn_1 (by decide) (l' := [(7, .int v3), (0, .ref 0), (1, .int v1), (2, .int v2), (3, .int v3), (4, .int v4), (5, .long v5)]) rfl (pc' := 3) rfl ?_
  exact mm_sub [1, 2, 3, 5, 6, 0] rfl (s_X5_firstColumn_L3  _ _ h)

def P_X5_canBeSaidAt (q_wide : Int32) (q_high : Int32) (q_slackNow : Int32) (q_tenants : Int32) (q_letters : Int32) (q_readings : Int32) (q_kinds : Nat → Int32) (q_painOf : Nat → Int32) (q_payFor : Nat → Int32) (q_refused : Nat → Int32) (q_owned : Nat → Int64) (q_litIn : Nat → Int64) (q_shapes : Nat → Int32) (q_readAt : Nat → Int32) (q_meant : Nat → Int32) (q_readSo : Nat → Int32) (u_length : Int32) (u_bits : Int32) (u_letters : Nat → Int32) (r : Int32) : Option Value → mm_W → Prop := fun rv w => rv = some (.int r) ∧ w = (W_X5_X6 q_wide q_high q_slackNow q_tenants q_letters q_readings q_kinds q_painOf q_payFor q_refused q_owned q_litIn q_shapes q_readAt q_meant q_readSo u_length u_bits u_letters)
def X5_canBeSaidAt_L6 (fu : Nat)  (q_wide : Int32) (q_slackNow : Int32) (q_letters : Int32) (q_litIn : Nat → Int64) (q_shapes : Nat → Int32) (u_length : Int32) (u_letters : Nat → Int32) (v2 : Int32) (v3 : Int32) (v4 : Int64) : Nat → Int32 → Int32 → Option (Int32)
  | 0, _, _ => none
  | n + 1, v6, v7 => if u_length ≤ v7 then (some ((1 : Int32))) else (mm_rd u_letters 3 v7 fun x22 => (f_X5_firstColumn fu q_wide q_slackNow q_letters q_litIn q_shapes x22 v2 v6 v3 v4).bind fun t29 => if t29 = (-1 : Int32) then (some ((0 : Int32))) else ((X5_canBeSaidAt_L6 fu q_wide q_slackNow q_letters q_litIn q_shapes u_length u_letters v2 v3 v4 n) (t29 + (4 : Int32)) (v7 + (1 : Int32))))
set_option maxHeartbeats 4000000 in
set_option maxRecDepth 100000 in
theorem s_X5_canBeSaidAt_L6 {fu : Nat} {q_wide : Int32} {q_high : Int32} {q_slackNow : Int32} {q_tenants : Int32} {q_letters : Int32} {q_readings : Int32} {q_kinds : Nat → Int32} {q_painOf : Nat → Int32} {q_payFor : Nat → Int32} {q_refused : Nat → Int32} {q_owned : Nat → Int64} {q_litIn : Nat → Int64} {q_shapes : Nat → Int32} {q_readAt : Nat → Int32} {q_meant : Nat → Int32} {q_readSo : Nat → Int32} {u_length : Int32} {u_bits : Int32} {u_letters : Nat → Int32} {r : Int32} {v2 : Int32} {v3 : Int32} {v4 : Int64} : ∀ (n : Nat) (v6 : Int32) (v7 : Int32), X5_canBeSaidAt_L6 fu q_wide q_slackNow q_letters q_litIn q_shapes u_length u_letters v2 v3 v4 n v6 v7 = some r → mm_Wp mX5_canBeSaidAt (mm_R (P_X5_canBeSaidAt q_wide q_high q_slackNow q_tenants q_letters q_readings q_kinds q_painOf q_payFor q_refused q_owned q_litIn q_shapes q_readAt q_meant q_readSo u_length u_bits u_letters r)) 0 0 6 [(0, .ref 0), (1, .ref 11), (2, .int v2), (3, .int v3), (4, .long v4), (6, .int v6), (7, .int v7)] [] (W_X5_X6 q_wide q_high q_slackNow q_tenants q_letters q_readings q_kinds q_painOf q_payFor q_refused q_owned q_litIn q_shapes q_readAt q_meant q_readSo u_length u_bits u_letters) := by
  intro n
  induction n with
  | zero =>
    intro v6 v7 h
    rw [X5_canBeSaidAt_L6] at h
    cases h
  | succ n hr6 =>
    intro v6 v7 h
    rw [X5_canBeSaidAt_L6] at h
    refine mm_iload 6 dX5_canBeSaidAt_6 rfl (pc' := 8) rfl ?_
    refine mm_aload_n 1 dX5_canBeSaidAt_8 rfl rfl (pc' := 9) rfl ?_
    refine mm_getf fG_X5_131 dX5_canBeSaidAt_9 rfl rfl (pc' := 12) rfl ?_
    refine mm_icmp_ge (tgt := 54) dX5_canBeSaidAt_12 (by decide) (pc' := 15) rfl (fun c => ?_) (fun c => ?_)
    · replace h := mm_it h c
      clear c
      refine mm_iconst dX5_canBeSaidAt_54 ki_1 (pc' := 55) rfl ?_
      have h9 := Option.some.inj h
      subst h9
      exact mm_zret rfl (by decide) dX5_canBeSaidAt_55 ⟨rfl, rfl⟩
    · replace h := mm_if h c
      clear c
      refine mm_aload_n 0 dX5_canBeSaidAt_15 rfl rfl (pc' := 16) rfl ?_
      refine mm_aload_n 1 dX5_canBeSaidAt_16 rfl rfl (pc' := 17) rfl ?_
      refine mm_getf fG_X5_136 dX5_canBeSaidAt_17 rfl rfl (pc' := 20) rfl ?_
      refine mm_iload 6 dX5_canBeSaidAt_20 rfl (pc' := 22) rfl ?_
      obtain ⟨x22, c22, e22, h⟩ := mm_rd_of h
      refine mm_iald dX5_canBeSaidAt_22 rfl c22 e22 (pc' := 23) rfl ?_
      clear c22 e22
      refine mm_iload_n 2 dX5_canBeSaidAt_23 rfl rfl (pc' := 24) rfl ?_
      refine mm_iload 5 dX5_canBeSaidAt_24 rfl (pc' := 26) rfl ?_
      refine mm_iload_n 3 dX5_canBeSaidAt_26 rfl rfl (pc' := 27) rfl ?_
      refine mm_lload 4 dX5_canBeSaidAt_27 rfl (pc' := 29) rfl ?_
      obtain ⟨t29, h29, h⟩ := mm_bd h
      refine mm_callV (As := [.int x22, .int v2, .int v6, .int v3, .long v4]) (rest := []) (av := [.ref 0, .int x22, .int v2, .int v6, .int v3, .long v4]) (wc := (W_X5 q_wide q_high q_slackNow q_tenants q_letters q_readings q_kinds q_painOf q_payFor q_refused q_owned q_litIn q_shapes q_readAt q_meant q_readSo)) (is := [0, 1, 2, 3, 4, 5, 6, 7, 8, 9, 10]) cV_X5_138 (ok_X5_firstColumn h29) ⟨rfl, rfl, Nat.le_of_ble_eq_true rfl, Nat.le_of_ble_eq_true rfl⟩ dX5_canBeSaidAt_29 rfl rfl rfl rfl rfl ⟨rfl, by decide, by decide⟩ (by rintro _ _ ⟨-, rfl⟩; rfl) (Nat.le_of_ble_eq_true rfl) ⟨Nat.le_of_ble_eq_true rfl, Nat.le_of_ble_eq_true rfl⟩ (pc' := 32) rfl ?_
      rintro rv w ⟨rfl, rfl⟩
      show mm_Wp _ _ _ _ 32 [(0, .ref 0), (1, .ref 11), (2, .int v2), (3, .int v3), (4, .long v4), (6, .int v6), (7, .int v7)] [.int t29] (W_X5_X6 q_wide q_high q_slackNow q_tenants q_letters q_readings q_kinds q_painOf q_payFor q_refused q_owned q_litIn q_shapes q_readAt q_meant q_readSo u_length u_bits u_letters)
      clear h29
      refine mm_istore dX5_canBeSaidAt_32 (by decide) (l' := [(8, .int t29), (0, .ref 0), (1, .ref 11), (2, .int v2), (3, .int v3), (4, .long v4), (6, .int v6), (7, .int v7)]) rfl (pc' := 34) rfl ?_
      refine mm_iload 0 dX5_canBeSaidAt_34 rfl (pc' := 36) rfl ?_
      refine mm_iconst dX5_canBeSaidAt_36 ki_m1 (pc' := 37) rfl ?_
      refine mm_icmp_ne (tgt := 42) dX5_canBeSaidAt_37 (by decide) (pc' := 40) rfl (fun c => ?_) (fun c => ?_)
      · replace h := mm_if h c
        clear c
        refine mm_iload 0 dX5_canBeSaidAt_42 rfl (pc' := 44) rfl ?_
        refine mm_iconst dX5_canBeSaidAt_44 ki_4 (pc' := 45) rfl ?_
        refine mm_iadd dX5_canBeSaidAt_45 (pc' := 46) rfl ?_
        refine mm_istore dX5_canBeSaidAt_46 (by decide) (l' := [(6, .int (t29 + (4 : Int32))), (8, .int t29), (0, .ref 0), (1, .ref 11), (2, .int v2), (3, .int v3), (4, .long v4), (7, .int v7)]) rfl (pc' := 48) rfl ?_
        refine mm_iinc 7 dX5_canBeSaidAt_48 rfl ki_1 (by decide) (l' := [(7, .int (v7 + (1 : Int32))), (6, .int (t29 + (4 : Int32))), (8, .int t29), (0, .ref 0), (1, .ref 11), (2, .int v2), (3, .int v3), (4, .long v4)]) rfl (pc' := 51) rfl ?_
        refine mm_goto (tgt := 6) dX5_canBeSaidAt_51 (by decide) ?_
        exact mm_sub [3, 4, 5, 6, 7, 1, 0] rfl (hr6 _ _ h)
      · replace h := mm_it h c
        clear c
        refine mm_iconst dX5_canBeSaidAt_40 ki_0 (pc' := 41) rfl ?_
        have h9 := Option.some.inj h
        subst h9
        exact mm_zret rfl (by decide) dX5_canBeSaidAt_41 ⟨rfl, rfl⟩
def f_X5_canBeSaidAt (fu : Nat) (q_wide : Int32) (q_slackNow : Int32) (q_letters : Int32) (q_litIn : Nat → Int64) (q_shapes : Nat → Int32) (u_length : Int32) (u_letters : Nat → Int32) (v2 : Int32) (v3 : Int32) (v4 : Int64) : Option (Int32) := X5_canBeSaidAt_L6 fu q_wide q_slackNow q_letters q_litIn q_shapes u_length u_letters v2 v3 v4 fu (0 : Int32) (0 : Int32)
set_option maxHeartbeats 4000000 in
set_option maxRecDepth 100000 in
theorem ok_X5_canBeSaidAt {fu : Nat} {q_wide : Int32} {q_high : Int32} {q_slackNow : Int32} {q_tenants : Int32} {q_letters : Int32} {q_readings : Int32} {q_kinds : Nat → Int32} {q_painOf : Nat → Int32} {q_payFor : Nat → Int32} {q_refused : Nat → Int32} {q_owned : Nat → Int64} {q_litIn : Nat → Int64} {q_shapes : Nat → Int32} {q_readAt : Nat → Int32} {q_meant : Nat → Int32} {q_readSo : Nat → Int32} {u_length : Int32} {u_bits : Int32} {u_letters : Nat → Int32} {r : Int32} {v2 : Int32} {v3 : Int32} {v4 : Int64} (h : f_X5_canBeSaidAt fu q_wide q_slackNow q_letters q_litIn q_shapes u_length u_letters v2 v3 v4 = some r) : mm_Ok mX5_canBeSaidAt [.ref 0, .ref 11, .int v2, .int v3, .long v4] (W_X5_X6 q_wide q_high q_slackNow q_tenants q_letters q_readings q_kinds q_painOf q_payFor q_refused q_owned q_litIn q_shapes q_readAt q_meant q_readSo u_length u_bits u_letters) (P_X5_canBeSaidAt q_wide q_high q_slackNow q_tenants q_letters q_readings q_kinds q_painOf q_payFor q_refused q_owned q_litIn q_shapes q_readAt q_meant q_readSo u_length u_bits u_letters r) := by
  rw [f_X5_canBeSaidAt] at h
  refine mm_Ok.of pn_X5 (l := [(0, .ref 0), (1, .ref 11), (2, .int v2), (3, .int v3), (4, .long v4)]) rfl (Nat.le_of_ble_eq_true rfl) ?_
  refine mm_iconst dX5_canBeSaidAt_0 ki_0 (pc' := 1) rfl ?_
  refine mm_istore dX5_canBeSaidAt_1 (by decide) (l' := [(6, .int (0 : Int32)), (0, .ref 0), (1, .ref 11), (2, .int v2), (3, .int v3), (4, .long v4)]) rfl (pc' := 3) rfl ?_
  refine mm_iconst dX5_canBeSaidAt_3 ki_0 (pc' := 4) rfl ?_
  refine mm_istore dX5_canBeSaidAt_4 (by decide) (l' := [(7, .int (0 : Int32)), (6, .int (0 : Int32)), (0, .ref 0), (1, .ref 11), (2, .int v2), (3, .int v3), (4, .long v4)]) rfl (pc' := 6) rfl ?_
  exact mm_sub [2, 3, 4, 5, 6, 1, 0] rfl (s_X5_canBeSaidAt_L6  _ _ _ h)

def P_X5_canBeSaid (q_wide : Int32) (q_high : Int32) (q_slackNow : Int32) (q_tenants : Int32) (q_letters : Int32) (q_readings : Int32) (q_kinds : Nat → Int32) (q_painOf : Nat → Int32) (q_payFor : Nat → Int32) (q_refused : Nat → Int32) (q_owned : Nat → Int64) (q_litIn : Nat → Int64) (q_shapes : Nat → Int32) (q_readAt : Nat → Int32) (q_meant : Nat → Int32) (q_readSo : Nat → Int32) (u_length : Int32) (u_bits : Int32) (u_letters : Nat → Int32) (r : Int32) : Option Value → mm_W → Prop := fun rv w => rv = some (.int r) ∧ w = (W_X5_X6 q_wide q_high q_slackNow q_tenants q_letters q_readings q_kinds q_painOf q_payFor q_refused q_owned q_litIn q_shapes q_readAt q_meant q_readSo u_length u_bits u_letters)
def X5_canBeSaid_L3 (fu : Nat)  (q_wide : Int32) (q_high : Int32) (q_slackNow : Int32) (q_letters : Int32) (q_litIn : Nat → Int64) (q_shapes : Nat → Int32) (u_length : Int32) (u_letters : Nat → Int32) (v2 : Int32) (v3 : Int64) : Nat → Int32 → Option (Int32)
  | 0, _ => none
  | n + 1, v5 => if (q_high - (4 : Int32)) < v5 then (some ((0 : Int32))) else ((f_X5_canBeSaidAt fu q_wide q_slackNow q_letters q_litIn q_shapes u_length u_letters v5 v2 v3).bind fun t20 => if t20 = 0 then ((X5_canBeSaid_L3 fu q_wide q_high q_slackNow q_letters q_litIn q_shapes u_length u_letters v2 v3 n) (v5 + (1 : Int32))) else (some ((1 : Int32))))
set_option maxHeartbeats 4000000 in
set_option maxRecDepth 100000 in
theorem s_X5_canBeSaid_L3 {fu : Nat} {q_wide : Int32} {q_high : Int32} {q_slackNow : Int32} {q_tenants : Int32} {q_letters : Int32} {q_readings : Int32} {q_kinds : Nat → Int32} {q_painOf : Nat → Int32} {q_payFor : Nat → Int32} {q_refused : Nat → Int32} {q_owned : Nat → Int64} {q_litIn : Nat → Int64} {q_shapes : Nat → Int32} {q_readAt : Nat → Int32} {q_meant : Nat → Int32} {q_readSo : Nat → Int32} {u_length : Int32} {u_bits : Int32} {u_letters : Nat → Int32} {r : Int32} {v2 : Int32} {v3 : Int64} : ∀ (n : Nat) (v5 : Int32), X5_canBeSaid_L3 fu q_wide q_high q_slackNow q_letters q_litIn q_shapes u_length u_letters v2 v3 n v5 = some r → mm_Wp mX5_canBeSaid (mm_R (P_X5_canBeSaid q_wide q_high q_slackNow q_tenants q_letters q_readings q_kinds q_painOf q_payFor q_refused q_owned q_litIn q_shapes q_readAt q_meant q_readSo u_length u_bits u_letters r)) 0 0 3 [(0, .ref 0), (1, .ref 11), (2, .int v2), (3, .long v3), (5, .int v5)] [] (W_X5_X6 q_wide q_high q_slackNow q_tenants q_letters q_readings q_kinds q_painOf q_payFor q_refused q_owned q_litIn q_shapes q_readAt q_meant q_readSo u_length u_bits u_letters) := by
  intro n
  induction n with
  | zero =>
    intro v5 h
    rw [X5_canBeSaid_L3] at h
    cases h
  | succ n hr3 =>
    intro v5 h
    rw [X5_canBeSaid_L3] at h
    refine mm_iload 4 dX5_canBeSaid_3 rfl (pc' := 5) rfl ?_
    refine mm_aload_n 0 dX5_canBeSaid_5 rfl rfl (pc' := 6) rfl ?_
    refine mm_getf fG_X5_15 dX5_canBeSaid_6 rfl rfl (pc' := 9) rfl ?_
    refine mm_iconst dX5_canBeSaid_9 ki_4 (pc' := 10) rfl ?_
    refine mm_isub dX5_canBeSaid_10 (pc' := 11) rfl ?_
    refine mm_icmp_gt (tgt := 34) dX5_canBeSaid_11 (by decide) (pc' := 14) rfl (fun c => ?_) (fun c => ?_)
    · replace h := mm_it h c
      clear c
      refine mm_iconst dX5_canBeSaid_34 ki_0 (pc' := 35) rfl ?_
      have h9 := Option.some.inj h
      subst h9
      exact mm_zret rfl (by decide) dX5_canBeSaid_35 ⟨rfl, rfl⟩
    · replace h := mm_if h c
      clear c
      refine mm_aload_n 0 dX5_canBeSaid_14 rfl rfl (pc' := 15) rfl ?_
      refine mm_aload_n 1 dX5_canBeSaid_15 rfl rfl (pc' := 16) rfl ?_
      refine mm_iload 4 dX5_canBeSaid_16 rfl (pc' := 18) rfl ?_
      refine mm_iload_n 2 dX5_canBeSaid_18 rfl rfl (pc' := 19) rfl ?_
      refine mm_lload_n 3 dX5_canBeSaid_19 rfl rfl (pc' := 20) rfl ?_
      obtain ⟨t20, h20, h⟩ := mm_bd h
      refine mm_call0 (As := [.ref 11, .int v5, .int v2, .long v3]) (rest := []) cV_X5_127 (ok_X5_canBeSaidAt h20) ⟨rfl, rfl, Nat.le_of_ble_eq_true rfl, Nat.le_of_ble_eq_true rfl⟩ dX5_canBeSaid_20 rfl rfl rfl rfl (by rintro _ _ ⟨-, rfl⟩; rfl) (Nat.le_of_ble_eq_true rfl) ⟨Nat.le_of_ble_eq_true rfl, Nat.le_of_ble_eq_true rfl⟩ (pc' := 23) rfl ?_
      rintro rv w ⟨rfl, rfl⟩
      show mm_Wp _ _ _ _ 23 [(0, .ref 0), (1, .ref 11), (2, .int v2), (3, .long v3), (5, .int v5)] [.int t20] (W_X5_X6 q_wide q_high q_slackNow q_tenants q_letters q_readings q_kinds q_painOf q_payFor q_refused q_owned q_litIn q_shapes q_readAt q_meant q_readSo u_length u_bits u_letters)
      clear h20
      refine mm_if_eq (tgt := 28) dX5_canBeSaid_23 (by decide) (pc' := 26) rfl (fun c => ?_) (fun c => ?_)
      · replace h := mm_it h c
        clear c
        refine mm_iinc 4 dX5_canBeSaid_28 rfl ki_1 (by decide) (l' := [(5, .int (v5 + (1 : Int32))), (0, .ref 0), (1, .ref 11), (2, .int v2), (3, .long v3)]) rfl (pc' := 31) rfl ?_
        refine mm_goto (tgt := 3) dX5_canBeSaid_31 (by decide) ?_
        exact mm_sub [1, 2, 3, 4, 0] rfl (hr3 _ h)
      · replace h := mm_if h c
        clear c
        refine mm_iconst dX5_canBeSaid_26 ki_1 (pc' := 27) rfl ?_
        have h9 := Option.some.inj h
        subst h9
        exact mm_zret rfl (by decide) dX5_canBeSaid_27 ⟨rfl, rfl⟩
def f_X5_canBeSaid (fu : Nat) (q_wide : Int32) (q_high : Int32) (q_slackNow : Int32) (q_letters : Int32) (q_litIn : Nat → Int64) (q_shapes : Nat → Int32) (u_length : Int32) (u_letters : Nat → Int32) (v2 : Int32) (v3 : Int64) : Option (Int32) := X5_canBeSaid_L3 fu q_wide q_high q_slackNow q_letters q_litIn q_shapes u_length u_letters v2 v3 fu (0 : Int32)
set_option maxHeartbeats 4000000 in
set_option maxRecDepth 100000 in
theorem ok_X5_canBeSaid {fu : Nat} {q_wide : Int32} {q_high : Int32} {q_slackNow : Int32} {q_tenants : Int32} {q_letters : Int32} {q_readings : Int32} {q_kinds : Nat → Int32} {q_painOf : Nat → Int32} {q_payFor : Nat → Int32} {q_refused : Nat → Int32} {q_owned : Nat → Int64} {q_litIn : Nat → Int64} {q_shapes : Nat → Int32} {q_readAt : Nat → Int32} {q_meant : Nat → Int32} {q_readSo : Nat → Int32} {u_length : Int32} {u_bits : Int32} {u_letters : Nat → Int32} {r : Int32} {v2 : Int32} {v3 : Int64} (h : f_X5_canBeSaid fu q_wide q_high q_slackNow q_letters q_litIn q_shapes u_length u_letters v2 v3 = some r) : mm_Ok mX5_canBeSaid [.ref 0, .ref 11, .int v2, .long v3] (W_X5_X6 q_wide q_high q_slackNow q_tenants q_letters q_readings q_kinds q_painOf q_payFor q_refused q_owned q_litIn q_shapes q_readAt q_meant q_readSo u_length u_bits u_letters) (P_X5_canBeSaid q_wide q_high q_slackNow q_tenants q_letters q_readings q_kinds q_painOf q_payFor q_refused q_owned q_litIn q_shapes q_readAt q_meant q_readSo u_length u_bits u_letters r) := by
  rw [f_X5_canBeSaid] at h
  refine mm_Ok.of pn_X5 (l := [(0, .ref 0), (1, .ref 11), (2, .int v2), (3, .long v3)]) rfl (Nat.le_of_ble_eq_true rfl) ?_
  refine mm_iconst dX5_canBeSaid_0 ki_0 (pc' := 1) rfl ?_
  refine mm_istore dX5_canBeSaid_1 (by decide) (l' := [(5, .int (0 : Int32)), (0, .ref 0), (1, .ref 11), (2, .int v2), (3, .long v3)]) rfl (pc' := 3) rfl ?_
  exact mm_sub [1, 2, 3, 4, 0] rfl (s_X5_canBeSaid_L3  _ _ h)

def P_X5_digestOfWindow (q_wide : Int32) (q_high : Int32) (q_slackNow : Int32) (q_tenants : Int32) (q_letters : Int32) (q_readings : Int32) (q_kinds : Nat → Int32) (q_painOf : Nat → Int32) (q_payFor : Nat → Int32) (q_refused : Nat → Int32) (q_owned : Nat → Int64) (q_litIn : Nat → Int64) (q_shapes : Nat → Int32) (q_readAt : Nat → Int32) (q_meant : Nat → Int32) (q_readSo : Nat → Int32) (r : Int64) : Option Value → mm_W → Prop := fun rv w => rv = some (.long r) ∧ w = (W_X5 q_wide q_high q_slackNow q_tenants q_letters q_readings q_kinds q_painOf q_payFor q_refused q_owned q_litIn q_shapes q_readAt q_meant q_readSo)
def X5_digestOfWindow_J44 (fu : Nat) (rec17 : Int64 → Int32 → Option (Int64)) (q_tenants : Int32) (q_owned : Nat → Int64) (q_litIn : Nat → Int64) (v3 : Int32) (v6 : Int32) (s0 : Int32) (s1 : Int64) : Option (Int64) := rec17 (s1 + s0.toInt64) (v6 + (1 : Int32))
set_option maxHeartbeats 4000000 in
set_option maxRecDepth 100000 in
theorem s_X5_digestOfWindow_J44 {fu : Nat} {q_wide : Int32} {q_high : Int32} {q_slackNow : Int32} {q_tenants : Int32} {q_letters : Int32} {q_readings : Int32} {q_kinds : Nat → Int32} {q_painOf : Nat → Int32} {q_payFor : Nat → Int32} {q_refused : Nat → Int32} {q_owned : Nat → Int64} {q_litIn : Nat → Int64} {q_shapes : Nat → Int32} {q_readAt : Nat → Int32} {q_meant : Nat → Int32} {q_readSo : Nat → Int32} {r : Int64} {rec17 : Int64 → Int32 → Option (Int64)} {v3 : Int32} {v6 : Int32} {s0 : Int32} {s1 : Int64} (hr17 : ∀ (y4 : Int64) (y6 : Int32), rec17 y4 y6 = some r → mm_Wp mX5_digestOfWindow (mm_R (P_X5_digestOfWindow q_wide q_high q_slackNow q_tenants q_letters q_readings q_kinds q_painOf q_payFor q_refused q_owned q_litIn q_shapes q_readAt q_meant q_readSo r)) 0 0 17 [(0, .ref 0), (3, .int v3), (4, .long y4), (6, .int y6)] [] (W_X5 q_wide q_high q_slackNow q_tenants q_letters q_readings q_kinds q_painOf q_payFor q_refused q_owned q_litIn q_shapes q_readAt q_meant q_readSo)) (h : X5_digestOfWindow_J44 fu rec17 q_tenants q_owned q_litIn v3 v6 s0 s1 = some r) : mm_Wp mX5_digestOfWindow (mm_R (P_X5_digestOfWindow q_wide q_high q_slackNow q_tenants q_letters q_readings q_kinds q_painOf q_payFor q_refused q_owned q_litIn q_shapes q_readAt q_meant q_readSo r)) 0 0 44 [(0, .ref 0), (3, .int v3), (6, .int v6)] [.int s0, .long s1] (W_X5 q_wide q_high q_slackNow q_tenants q_letters q_readings q_kinds q_painOf q_payFor q_refused q_owned q_litIn q_shapes q_readAt q_meant q_readSo) := by
  rw [X5_digestOfWindow_J44] at h
  refine mm_i2l dX5_digestOfWindow_44 (pc' := 45) rfl ?_
  refine mm_ladd dX5_digestOfWindow_45 (pc' := 46) rfl ?_
  refine mm_lstore dX5_digestOfWindow_46 (by decide) (l' := [(4, .long (s1 + s0.toInt64)), (0, .ref 0), (3, .int v3), (6, .int v6)]) rfl (pc' := 48) rfl ?_
  refine mm_iinc 3 dX5_digestOfWindow_48 rfl ki_1 (by decide) (l' := [(6, .int (v6 + (1 : Int32))), (4, .long (s1 + s0.toInt64)), (0, .ref 0), (3, .int v3)]) rfl (pc' := 51) rfl ?_
  refine mm_goto (tgt := 17) dX5_digestOfWindow_51 (by decide) ?_
  exact mm_sub [2, 3, 1, 0] rfl (hr17 _ _ h)
def X5_digestOfWindow_L17 (fu : Nat)  (q_tenants : Int32) (q_owned : Nat → Int64) (q_litIn : Nat → Int64) (v3 : Int32) : Nat → Int64 → Int32 → Option (Int64)
  | 0, _, _ => none
  | n + 1, v4, v6 => if (4 : Int32) ≤ v6 then (some (v4)) else ((f_X5_isLit fu q_litIn v6 v3).bind fun t33 => if t33 = 0 then (X5_digestOfWindow_J44 fu (X5_digestOfWindow_L17 fu q_tenants q_owned q_litIn v3 n) q_tenants q_owned q_litIn v3 v6 (0 : Int32) ((31 : Int64) * v4)) else (X5_digestOfWindow_J44 fu (X5_digestOfWindow_L17 fu q_tenants q_owned q_litIn v3 n) q_tenants q_owned q_litIn v3 v6 (1 : Int32) ((31 : Int64) * v4)))
set_option maxHeartbeats 4000000 in
set_option maxRecDepth 100000 in
theorem s_X5_digestOfWindow_L17 {fu : Nat} {q_wide : Int32} {q_high : Int32} {q_slackNow : Int32} {q_tenants : Int32} {q_letters : Int32} {q_readings : Int32} {q_kinds : Nat → Int32} {q_painOf : Nat → Int32} {q_payFor : Nat → Int32} {q_refused : Nat → Int32} {q_owned : Nat → Int64} {q_litIn : Nat → Int64} {q_shapes : Nat → Int32} {q_readAt : Nat → Int32} {q_meant : Nat → Int32} {q_readSo : Nat → Int32} {r : Int64} {v3 : Int32} : ∀ (n : Nat) (v4 : Int64) (v6 : Int32), X5_digestOfWindow_L17 fu q_tenants q_owned q_litIn v3 n v4 v6 = some r → mm_Wp mX5_digestOfWindow (mm_R (P_X5_digestOfWindow q_wide q_high q_slackNow q_tenants q_letters q_readings q_kinds q_painOf q_payFor q_refused q_owned q_litIn q_shapes q_readAt q_meant q_readSo r)) 0 0 17 [(0, .ref 0), (3, .int v3), (4, .long v4), (6, .int v6)] [] (W_X5 q_wide q_high q_slackNow q_tenants q_letters q_readings q_kinds q_painOf q_payFor q_refused q_owned q_litIn q_shapes q_readAt q_meant q_readSo) := by
  intro n
  induction n with
  | zero =>
    intro v4 v6 h
    rw [X5_digestOfWindow_L17] at h
    cases h
  | succ n hr17 =>
    intro v4 v6 h
    rw [X5_digestOfWindow_L17] at h
    refine mm_iload 3 dX5_digestOfWindow_17 rfl (pc' := 19) rfl ?_
    refine mm_iconst dX5_digestOfWindow_19 ki_4 (pc' := 20) rfl ?_
    refine mm_icmp_ge (tgt := 54) dX5_digestOfWindow_20 (by decide) (pc' := 23) rfl (fun c => ?_) (fun c => ?_)
    · replace h := mm_it h c
      clear c
      refine mm_lload 2 dX5_digestOfWindow_54 rfl (pc' := 56) rfl ?_
      have h9 := Option.some.inj h
      subst h9
      exact mm_lret rfl dX5_digestOfWindow_56 ⟨rfl, rfl⟩
    · replace h := mm_if h c
      clear c
      refine mm_ldc2 kC_X5_142 dX5_digestOfWindow_23 (pc' := 26) rfl ?_
      refine mm_lload 2 dX5_digestOfWindow_26 rfl (pc' := 28) rfl ?_
      refine mm_lmul dX5_digestOfWindow_28 (pc' := 29) rfl ?_
      refine mm_aload_n 0 dX5_digestOfWindow_29 rfl rfl (pc' := 30) rfl ?_
      refine mm_iload 3 dX5_digestOfWindow_30 rfl (pc' := 32) rfl ?_
      refine mm_iload_n 1 dX5_digestOfWindow_32 rfl rfl (pc' := 33) rfl ?_
      obtain ⟨t33, h33, h⟩ := mm_bd h
      refine mm_call0 (As := [.int v6, .int v3]) (rest := [.long ((31 : Int64) * v4)]) cV_X5_101 (ok_X5_isLit h33) ⟨rfl, rfl, Nat.le_of_ble_eq_true rfl, Nat.le_of_ble_eq_true rfl⟩ dX5_digestOfWindow_33 rfl rfl rfl rfl (by rintro _ _ ⟨-, rfl⟩; rfl) (Nat.le_of_ble_eq_true rfl) ⟨Nat.le_of_ble_eq_true rfl, Nat.le_of_ble_eq_true rfl⟩ (pc' := 36) rfl ?_
      rintro rv w ⟨rfl, rfl⟩
      show mm_Wp _ _ _ _ 36 [(0, .ref 0), (3, .int v3), (4, .long v4), (6, .int v6)] [.int t33, .long ((31 : Int64) * v4)] (W_X5 q_wide q_high q_slackNow q_tenants q_letters q_readings q_kinds q_painOf q_payFor q_refused q_owned q_litIn q_shapes q_readAt q_meant q_readSo)
      clear h33
      refine mm_if_eq (tgt := 43) dX5_digestOfWindow_36 (by decide) (pc' := 39) rfl (fun c => ?_) (fun c => ?_)
      · replace h := mm_it h c
        clear c
        refine mm_iconst dX5_digestOfWindow_43 ki_0 (pc' := 44) rfl ?_
        exact mm_sub [0, 1, 3] rfl (s_X5_digestOfWindow_J44 (hr17 := hr17) h)
      · replace h := mm_if h c
        clear c
        refine mm_iconst dX5_digestOfWindow_39 ki_1 (pc' := 40) rfl ?_
        refine mm_goto (tgt := 44) dX5_digestOfWindow_40 (by decide) ?_
        exact mm_sub [0, 1, 3] rfl (s_X5_digestOfWindow_J44 (hr17 := hr17) h)
def f_X5_digestOfWindow (fu : Nat) (q_tenants : Int32) (q_owned : Nat → Int64) (q_litIn : Nat → Int64) (v1 : Int64) (v3 : Int32) : Option (Int64) := (f_X5_ownerOf fu q_tenants q_owned v3).bind fun t7 => mm_let (((31 : Int64) * v1) + t7.toInt64) fun y12 => X5_digestOfWindow_L17 fu q_tenants q_owned q_litIn v3 fu y12 (0 : Int32)
set_option maxHeartbeats 4000000 in
set_option maxRecDepth 100000 in
theorem ok_X5_digestOfWindow {fu : Nat} {q_wide : Int32} {q_high : Int32} {q_slackNow : Int32} {q_tenants : Int32} {q_letters : Int32} {q_readings : Int32} {q_kinds : Nat → Int32} {q_painOf : Nat → Int32} {q_payFor : Nat → Int32} {q_refused : Nat → Int32} {q_owned : Nat → Int64} {q_litIn : Nat → Int64} {q_shapes : Nat → Int32} {q_readAt : Nat → Int32} {q_meant : Nat → Int32} {q_readSo : Nat → Int32} {r : Int64} {v1 : Int64} {v3 : Int32} (h : f_X5_digestOfWindow fu q_tenants q_owned q_litIn v1 v3 = some r) : mm_Ok mX5_digestOfWindow [.ref 0, .long v1, .int v3] (W_X5 q_wide q_high q_slackNow q_tenants q_letters q_readings q_kinds q_painOf q_payFor q_refused q_owned q_litIn q_shapes q_readAt q_meant q_readSo) (P_X5_digestOfWindow q_wide q_high q_slackNow q_tenants q_letters q_readings q_kinds q_painOf q_payFor q_refused q_owned q_litIn q_shapes q_readAt q_meant q_readSo r) := by
  rw [f_X5_digestOfWindow] at h
  refine mm_Ok.of pn_X5 (l := [(0, .ref 0), (1, .long v1), (3, .int v3)]) rfl (Nat.le_of_ble_eq_true rfl) ?_
  refine mm_ldc2 kC_X5_142 dX5_digestOfWindow_0 (pc' := 3) rfl ?_
  refine mm_lload_n 1 dX5_digestOfWindow_3 rfl rfl (pc' := 4) rfl ?_
  refine mm_lmul dX5_digestOfWindow_4 (pc' := 5) rfl ?_
  refine mm_aload_n 0 dX5_digestOfWindow_5 rfl rfl (pc' := 6) rfl ?_
  refine mm_iload_n 2 dX5_digestOfWindow_6 rfl rfl (pc' := 7) rfl ?_
  obtain ⟨t7, h7, h⟩ := mm_bd h
  refine mm_call0 (As := [.int v3]) (rest := [.long ((31 : Int64) * v1)]) cV_X5_89 (ok_X5_ownerOf h7) ⟨rfl, rfl, Nat.le_of_ble_eq_true rfl, Nat.le_of_ble_eq_true rfl⟩ dX5_digestOfWindow_7 rfl rfl rfl rfl (by rintro _ _ ⟨-, rfl⟩; rfl) (Nat.le_of_ble_eq_true rfl) ⟨Nat.le_of_ble_eq_true rfl, Nat.le_of_ble_eq_true rfl⟩ (pc' := 10) rfl ?_
  rintro rv w ⟨rfl, rfl⟩
  show mm_Wp _ _ _ _ 10 [(0, .ref 0), (1, .long v1), (3, .int v3)] [.int t7, .long ((31 : Int64) * v1)] (W_X5 q_wide q_high q_slackNow q_tenants q_letters q_readings q_kinds q_painOf q_payFor q_refused q_owned q_litIn q_shapes q_readAt q_meant q_readSo)
  clear h7
  refine mm_i2l dX5_digestOfWindow_10 (pc' := 11) rfl ?_
  refine mm_ladd dX5_digestOfWindow_11 (pc' := 12) rfl ?_
  refine mm_topl (fun y12 e => ?_)
  replace h := mm_let_of h y12 e
  clear e
  refine mm_lstore dX5_digestOfWindow_12 (by decide) (l' := [(4, .long y12), (0, .ref 0), (1, .long v1), (3, .int v3)]) rfl (pc' := 14) rfl ?_
  refine mm_iconst dX5_digestOfWindow_14 ki_0 (pc' := 15) rfl ?_
  refine mm_istore dX5_digestOfWindow_15 (by decide) (l' := [(6, .int (0 : Int32)), (4, .long y12), (0, .ref 0), (1, .long v1), (3, .int v3)]) rfl (pc' := 17) rfl ?_
  exact mm_sub [2, 4, 1, 0] rfl (s_X5_digestOfWindow_L17  _ _ _ h)

def P_X5_digestOn (q_wide : Int32) (q_high : Int32) (q_slackNow : Int32) (q_tenants : Int32) (q_letters : Int32) (q_readings : Int32) (q_kinds : Nat → Int32) (q_painOf : Nat → Int32) (q_payFor : Nat → Int32) (q_refused : Nat → Int32) (q_owned : Nat → Int64) (q_litIn : Nat → Int64) (q_shapes : Nat → Int32) (q_readAt : Nat → Int32) (q_meant : Nat → Int32) (q_readSo : Nat → Int32) (r : Int64) : Option Value → mm_W → Prop := fun rv w => rv = some (.long r) ∧ w = (W_X5 q_wide q_high q_slackNow q_tenants q_letters q_readings q_kinds q_painOf q_payFor q_refused q_owned q_litIn q_shapes q_readAt q_meant q_readSo)
def X5_digestOn_L178 (fu : Nat)  (q_wide : Int32) (q_high : Int32) (q_slackNow : Int32) (q_tenants : Int32) (q_letters : Int32) (q_readings : Int32) (q_kinds : Nat → Int32) (q_painOf : Nat → Int32) (q_payFor : Nat → Int32) (q_refused : Nat → Int32) (q_owned : Nat → Int64) (q_litIn : Nat → Int64) (q_shapes : Nat → Int32) (q_readAt : Nat → Int32) (q_meant : Nat → Int32) (q_readSo : Nat → Int32)  : Nat → Int64 → Int32 → Option (Int64)
  | 0, _, _ => none
  | n + 1, v3, v5 => if q_readings ≤ v5 then (some (v3)) else (mm_rd q_readAt 6 v5 fun x198 => mm_let (((31 : Int64) * v3) + x198.toInt64) fun y201 => mm_rd q_meant 6 v5 fun x213 => mm_let (((31 : Int64) * y201) + x213.toInt64) fun y216 => mm_rd q_readSo 6 v5 fun x228 => mm_let (((31 : Int64) * y216) + x228.toInt64) fun y231 => (X5_digestOn_L178 fu q_wide q_high q_slackNow q_tenants q_letters q_readings q_kinds q_painOf q_payFor q_refused q_owned q_litIn q_shapes q_readAt q_meant q_readSo n) y231 (v5 + (1 : Int32)))
set_option maxHeartbeats 4000000 in
set_option maxRecDepth 100000 in
theorem s_X5_digestOn_L178 {fu : Nat} {q_wide : Int32} {q_high : Int32} {q_slackNow : Int32} {q_tenants : Int32} {q_letters : Int32} {q_readings : Int32} {q_kinds : Nat → Int32} {q_painOf : Nat → Int32} {q_payFor : Nat → Int32} {q_refused : Nat → Int32} {q_owned : Nat → Int64} {q_litIn : Nat → Int64} {q_shapes : Nat → Int32} {q_readAt : Nat → Int32} {q_meant : Nat → Int32} {q_readSo : Nat → Int32} {r : Int64} : ∀ (n : Nat) (v3 : Int64) (v5 : Int32), X5_digestOn_L178 fu q_wide q_high q_slackNow q_tenants q_letters q_readings q_kinds q_painOf q_payFor q_refused q_owned q_litIn q_shapes q_readAt q_meant q_readSo n v3 v5 = some r → mm_Wp mX5_digestOn (mm_R (P_X5_digestOn q_wide q_high q_slackNow q_tenants q_letters q_readings q_kinds q_painOf q_payFor q_refused q_owned q_litIn q_shapes q_readAt q_meant q_readSo r)) 0 0 178 [(0, .ref 0), (3, .long v3), (5, .int v5)] [] (W_X5 q_wide q_high q_slackNow q_tenants q_letters q_readings q_kinds q_painOf q_payFor q_refused q_owned q_litIn q_shapes q_readAt q_meant q_readSo) := by
  intro n
  induction n with
  | zero =>
    intro v3 v5 h
    rw [X5_digestOn_L178] at h
    cases h
  | succ n hr178 =>
    intro v3 v5 h
    rw [X5_digestOn_L178] at h
    refine mm_iload 2 dX5_digestOn_178 rfl (pc' := 180) rfl ?_
    refine mm_aload_n 0 dX5_digestOn_180 rfl rfl (pc' := 181) rfl ?_
    refine mm_getf fG_X5_27 dX5_digestOn_181 rfl rfl (pc' := 184) rfl ?_
    refine mm_icmp_ge (tgt := 238) dX5_digestOn_184 (by decide) (pc' := 187) rfl (fun c => ?_) (fun c => ?_)
    · replace h := mm_it h c
      clear c
      refine mm_lload_n 1 dX5_digestOn_238 rfl rfl (pc' := 239) rfl ?_
      have h9 := Option.some.inj h
      subst h9
      exact mm_lret rfl dX5_digestOn_239 ⟨rfl, rfl⟩
    · replace h := mm_if h c
      clear c
      refine mm_ldc2 kC_X5_142 dX5_digestOn_187 (pc' := 190) rfl ?_
      refine mm_lload_n 1 dX5_digestOn_190 rfl rfl (pc' := 191) rfl ?_
      refine mm_lmul dX5_digestOn_191 (pc' := 192) rfl ?_
      refine mm_aload_n 0 dX5_digestOn_192 rfl rfl (pc' := 193) rfl ?_
      refine mm_getf fG_X5_53 dX5_digestOn_193 rfl rfl (pc' := 196) rfl ?_
      refine mm_iload 2 dX5_digestOn_196 rfl (pc' := 198) rfl ?_
      obtain ⟨x198, c198, e198, h⟩ := mm_rd_of h
      refine mm_iald dX5_digestOn_198 rfl c198 e198 (pc' := 199) rfl ?_
      clear c198 e198
      refine mm_i2l dX5_digestOn_199 (pc' := 200) rfl ?_
      refine mm_ladd dX5_digestOn_200 (pc' := 201) rfl ?_
      refine mm_topl (fun y201 e => ?_)
      replace h := mm_let_of h y201 e
      clear e
      refine mm_lstore_n dX5_digestOn_201 rfl (by decide) (l' := [(3, .long y201), (0, .ref 0), (5, .int v5)]) rfl (pc' := 202) rfl ?_
      refine mm_ldc2 kC_X5_142 dX5_digestOn_202 (pc' := 205) rfl ?_
      refine mm_lload_n 0 dX5_digestOn_205 rfl rfl (pc' := 206) rfl ?_
      refine mm_lmul dX5_digestOn_206 (pc' := 207) rfl ?_
      refine mm_aload_n 1 dX5_digestOn_207 rfl rfl (pc' := 208) rfl ?_
      refine mm_getf fG_X5_56 dX5_digestOn_208 rfl rfl (pc' := 211) rfl ?_
      refine mm_iload 2 dX5_digestOn_211 rfl (pc' := 213) rfl ?_
      obtain ⟨x213, c213, e213, h⟩ := mm_rd_of h
      refine mm_iald dX5_digestOn_213 rfl c213 e213 (pc' := 214) rfl ?_
      clear c213 e213
      refine mm_i2l dX5_digestOn_214 (pc' := 215) rfl ?_
      refine mm_ladd dX5_digestOn_215 (pc' := 216) rfl ?_
      refine mm_topl (fun y216 e => ?_)
      replace h := mm_let_of h y216 e
      clear e
      refine mm_lstore_n dX5_digestOn_216 rfl (by decide) (l' := [(3, .long y216), (0, .ref 0), (5, .int v5)]) rfl (pc' := 217) rfl ?_
      refine mm_ldc2 kC_X5_142 dX5_digestOn_217 (pc' := 220) rfl ?_
      refine mm_lload_n 0 dX5_digestOn_220 rfl rfl (pc' := 221) rfl ?_
      refine mm_lmul dX5_digestOn_221 (pc' := 222) rfl ?_
      refine mm_aload_n 1 dX5_digestOn_222 rfl rfl (pc' := 223) rfl ?_
      refine mm_getf fG_X5_59 dX5_digestOn_223 rfl rfl (pc' := 226) rfl ?_
      refine mm_iload 2 dX5_digestOn_226 rfl (pc' := 228) rfl ?_
      obtain ⟨x228, c228, e228, h⟩ := mm_rd_of h
      refine mm_iald dX5_digestOn_228 rfl c228 e228 (pc' := 229) rfl ?_
      clear c228 e228
      refine mm_i2l dX5_digestOn_229 (pc' := 230) rfl ?_
      refine mm_ladd dX5_digestOn_230 (pc' := 231) rfl ?_
      refine mm_topl (fun y231 e => ?_)
      replace h := mm_let_of h y231 e
      clear e
      refine mm_lstore_n dX5_digestOn_231 rfl (by decide) (l' := [(3, .long y231), (0, .ref 0), (5, .int v5)]) rfl (pc' := 232) rfl ?_
      refine mm_iinc 2 dX5_digestOn_232 rfl ki_1 (by decide) (l' := [(5, .int (v5 + (1 : Int32))), (3, .long y231), (0, .ref 0)]) rfl (pc' := 235) rfl ?_
      refine mm_goto (tgt := 178) dX5_digestOn_235 (by decide) ?_
      exact mm_sub [2, 1, 0] rfl (hr178 _ _ h)
def X5_digestOn_L133 (fu : Nat)  (q_wide : Int32) (q_high : Int32) (q_slackNow : Int32) (q_tenants : Int32) (q_letters : Int32) (q_readings : Int32) (q_kinds : Nat → Int32) (q_painOf : Nat → Int32) (q_payFor : Nat → Int32) (q_refused : Nat → Int32) (q_owned : Nat → Int64) (q_litIn : Nat → Int64) (q_shapes : Nat → Int32) (q_readAt : Nat → Int32) (q_meant : Nat → Int32) (q_readSo : Nat → Int32)  : Nat → Int64 → Int32 → Option (Int64)
  | 0, _, _ => none
  | n + 1, v3, v5 => if q_letters ≤ v5 then (mm_let (((31 : Int64) * v3) + q_slackNow.toInt64) fun y174 => X5_digestOn_L178 fu q_wide q_high q_slackNow q_tenants q_letters q_readings q_kinds q_painOf q_payFor q_refused q_owned q_litIn q_shapes q_readAt q_meant q_readSo fu y174 (0 : Int32)) else (mm_rd q_shapes 6 v5 fun x153 => mm_let (((31 : Int64) * v3) + x153.toInt64) fun y156 => (X5_digestOn_L133 fu q_wide q_high q_slackNow q_tenants q_letters q_readings q_kinds q_painOf q_payFor q_refused q_owned q_litIn q_shapes q_readAt q_meant q_readSo n) y156 (v5 + (1 : Int32)))
set_option maxHeartbeats 4000000 in
set_option maxRecDepth 100000 in
theorem s_X5_digestOn_L133 {fu : Nat} {q_wide : Int32} {q_high : Int32} {q_slackNow : Int32} {q_tenants : Int32} {q_letters : Int32} {q_readings : Int32} {q_kinds : Nat → Int32} {q_painOf : Nat → Int32} {q_payFor : Nat → Int32} {q_refused : Nat → Int32} {q_owned : Nat → Int64} {q_litIn : Nat → Int64} {q_shapes : Nat → Int32} {q_readAt : Nat → Int32} {q_meant : Nat → Int32} {q_readSo : Nat → Int32} {r : Int64} : ∀ (n : Nat) (v3 : Int64) (v5 : Int32), X5_digestOn_L133 fu q_wide q_high q_slackNow q_tenants q_letters q_readings q_kinds q_painOf q_payFor q_refused q_owned q_litIn q_shapes q_readAt q_meant q_readSo n v3 v5 = some r → mm_Wp mX5_digestOn (mm_R (P_X5_digestOn q_wide q_high q_slackNow q_tenants q_letters q_readings q_kinds q_painOf q_payFor q_refused q_owned q_litIn q_shapes q_readAt q_meant q_readSo r)) 0 0 133 [(0, .ref 0), (3, .long v3), (5, .int v5)] [] (W_X5 q_wide q_high q_slackNow q_tenants q_letters q_readings q_kinds q_painOf q_payFor q_refused q_owned q_litIn q_shapes q_readAt q_meant q_readSo) := by
  intro n
  induction n with
  | zero =>
    intro v3 v5 h
    rw [X5_digestOn_L133] at h
    cases h
  | succ n hr133 =>
    intro v3 v5 h
    rw [X5_digestOn_L133] at h
    refine mm_iload 2 dX5_digestOn_133 rfl (pc' := 135) rfl ?_
    refine mm_aload_n 0 dX5_digestOn_135 rfl rfl (pc' := 136) rfl ?_
    refine mm_getf fG_X5_24 dX5_digestOn_136 rfl rfl (pc' := 139) rfl ?_
    refine mm_icmp_ge (tgt := 163) dX5_digestOn_139 (by decide) (pc' := 142) rfl (fun c => ?_) (fun c => ?_)
    · replace h := mm_it h c
      clear c
      refine mm_ldc2 kC_X5_142 dX5_digestOn_163 (pc' := 166) rfl ?_
      refine mm_lload_n 1 dX5_digestOn_166 rfl rfl (pc' := 167) rfl ?_
      refine mm_lmul dX5_digestOn_167 (pc' := 168) rfl ?_
      refine mm_aload_n 0 dX5_digestOn_168 rfl rfl (pc' := 169) rfl ?_
      refine mm_getf fG_X5_18 dX5_digestOn_169 rfl rfl (pc' := 172) rfl ?_
      refine mm_i2l dX5_digestOn_172 (pc' := 173) rfl ?_
      refine mm_ladd dX5_digestOn_173 (pc' := 174) rfl ?_
      refine mm_topl (fun y174 e => ?_)
      replace h := mm_let_of h y174 e
      clear e
      refine mm_lstore_n dX5_digestOn_174 rfl (by decide) (l' := [(3, .long y174), (0, .ref 0), (5, .int v5)]) rfl (pc' := 175) rfl ?_
      refine mm_iconst dX5_digestOn_175 ki_0 (pc' := 176) rfl ?_
      refine mm_istore dX5_digestOn_176 (by decide) (l' := [(5, .int (0 : Int32)), (3, .long y174), (0, .ref 0)]) rfl (pc' := 178) rfl ?_
      exact mm_sub [2, 1, 0] rfl (s_X5_digestOn_L178  _ _ _ h)
    · replace h := mm_if h c
      clear c
      refine mm_ldc2 kC_X5_142 dX5_digestOn_142 (pc' := 145) rfl ?_
      refine mm_lload_n 1 dX5_digestOn_145 rfl rfl (pc' := 146) rfl ?_
      refine mm_lmul dX5_digestOn_146 (pc' := 147) rfl ?_
      refine mm_aload_n 0 dX5_digestOn_147 rfl rfl (pc' := 148) rfl ?_
      refine mm_getf fG_X5_50 dX5_digestOn_148 rfl rfl (pc' := 151) rfl ?_
      refine mm_iload 2 dX5_digestOn_151 rfl (pc' := 153) rfl ?_
      obtain ⟨x153, c153, e153, h⟩ := mm_rd_of h
      refine mm_iald dX5_digestOn_153 rfl c153 e153 (pc' := 154) rfl ?_
      clear c153 e153
      refine mm_i2l dX5_digestOn_154 (pc' := 155) rfl ?_
      refine mm_ladd dX5_digestOn_155 (pc' := 156) rfl ?_
      refine mm_topl (fun y156 e => ?_)
      replace h := mm_let_of h y156 e
      clear e
      refine mm_lstore_n dX5_digestOn_156 rfl (by decide) (l' := [(3, .long y156), (0, .ref 0), (5, .int v5)]) rfl (pc' := 157) rfl ?_
      refine mm_iinc 2 dX5_digestOn_157 rfl ki_1 (by decide) (l' := [(5, .int (v5 + (1 : Int32))), (3, .long y156), (0, .ref 0)]) rfl (pc' := 160) rfl ?_
      refine mm_goto (tgt := 133) dX5_digestOn_160 (by decide) ?_
      exact mm_sub [2, 1, 0] rfl (hr133 _ _ h)
def X5_digestOn_L95 (fu : Nat) (rec83 : Int64 → Int32 → Option (Int64)) (q_wide : Int32) (q_high : Int32) (q_slackNow : Int32) (q_tenants : Int32) (q_letters : Int32) (q_readings : Int32) (q_kinds : Nat → Int32) (q_painOf : Nat → Int32) (q_payFor : Nat → Int32) (q_refused : Nat → Int32) (q_owned : Nat → Int64) (q_litIn : Nat → Int64) (q_shapes : Nat → Int32) (q_readAt : Nat → Int32) (q_meant : Nat → Int32) (q_readSo : Nat → Int32) (v5 : Int32) : Nat → Int64 → Int32 → Option (Int64)
  | 0, _, _ => none
  | n + 1, v3, v6 => if q_wide ≤ v6 then (rec83 v3 (v5 + (1 : Int32))) else ((f_X5_digestOfWindow fu q_tenants q_owned q_litIn v3 (((12 : Int32) * v5) + v6)).bind fun t114 => (X5_digestOn_L95 fu rec83 q_wide q_high q_slackNow q_tenants q_letters q_readings q_kinds q_painOf q_payFor q_refused q_owned q_litIn q_shapes q_readAt q_meant q_readSo v5 n) t114 (v6 + (1 : Int32)))
set_option maxHeartbeats 4000000 in
set_option maxRecDepth 100000 in
theorem s_X5_digestOn_L95 {fu : Nat} {q_wide : Int32} {q_high : Int32} {q_slackNow : Int32} {q_tenants : Int32} {q_letters : Int32} {q_readings : Int32} {q_kinds : Nat → Int32} {q_painOf : Nat → Int32} {q_payFor : Nat → Int32} {q_refused : Nat → Int32} {q_owned : Nat → Int64} {q_litIn : Nat → Int64} {q_shapes : Nat → Int32} {q_readAt : Nat → Int32} {q_meant : Nat → Int32} {q_readSo : Nat → Int32} {r : Int64} {rec83 : Int64 → Int32 → Option (Int64)} {v5 : Int32} (hr83 : ∀ (y3 : Int64) (y5 : Int32), rec83 y3 y5 = some r → mm_Wp mX5_digestOn (mm_R (P_X5_digestOn q_wide q_high q_slackNow q_tenants q_letters q_readings q_kinds q_painOf q_payFor q_refused q_owned q_litIn q_shapes q_readAt q_meant q_readSo r)) 0 0 83 [(0, .ref 0), (3, .long y3), (5, .int y5)] [] (W_X5 q_wide q_high q_slackNow q_tenants q_letters q_readings q_kinds q_painOf q_payFor q_refused q_owned q_litIn q_shapes q_readAt q_meant q_readSo)) : ∀ (n : Nat) (v3 : Int64) (v6 : Int32), X5_digestOn_L95 fu rec83 q_wide q_high q_slackNow q_tenants q_letters q_readings q_kinds q_painOf q_payFor q_refused q_owned q_litIn q_shapes q_readAt q_meant q_readSo v5 n v3 v6 = some r → mm_Wp mX5_digestOn (mm_R (P_X5_digestOn q_wide q_high q_slackNow q_tenants q_letters q_readings q_kinds q_painOf q_payFor q_refused q_owned q_litIn q_shapes q_readAt q_meant q_readSo r)) 0 0 95 [(0, .ref 0), (3, .long v3), (5, .int v5), (6, .int v6)] [] (W_X5 q_wide q_high q_slackNow q_tenants q_letters q_readings q_kinds q_painOf q_payFor q_refused q_owned q_litIn q_shapes q_readAt q_meant q_readSo) := by
  intro n
  induction n with
  | zero =>
    intro v3 v6 h
    rw [X5_digestOn_L95] at h
    cases h
  | succ n hr95 =>
    intro v3 v6 h
    rw [X5_digestOn_L95] at h
    refine mm_iload 3 dX5_digestOn_95 rfl (pc' := 97) rfl ?_
    refine mm_aload_n 0 dX5_digestOn_97 rfl rfl (pc' := 98) rfl ?_
    refine mm_getf fG_X5_9 dX5_digestOn_98 rfl rfl (pc' := 101) rfl ?_
    refine mm_icmp_ge (tgt := 124) dX5_digestOn_101 (by decide) (pc' := 104) rfl (fun c => ?_) (fun c => ?_)
    · replace h := mm_it h c
      clear c
      refine mm_iinc 2 dX5_digestOn_124 rfl ki_1 (by decide) (l' := [(5, .int (v5 + (1 : Int32))), (0, .ref 0), (3, .long v3), (6, .int v6)]) rfl (pc' := 127) rfl ?_
      refine mm_goto (tgt := 83) dX5_digestOn_127 (by decide) ?_
      exact mm_sub [1, 2, 0] rfl (hr83 _ _ h)
    · replace h := mm_if h c
      clear c
      refine mm_aload_n 0 dX5_digestOn_104 rfl rfl (pc' := 105) rfl ?_
      refine mm_lload_n 1 dX5_digestOn_105 rfl rfl (pc' := 106) rfl ?_
      refine mm_bipush dX5_digestOn_106 kb_12 (pc' := 108) rfl ?_
      refine mm_iload 2 dX5_digestOn_108 rfl (pc' := 110) rfl ?_
      refine mm_imul dX5_digestOn_110 (pc' := 111) rfl ?_
      refine mm_iload 3 dX5_digestOn_111 rfl (pc' := 113) rfl ?_
      refine mm_iadd dX5_digestOn_113 (pc' := 114) rfl ?_
      obtain ⟨t114, h114, h⟩ := mm_bd h
      refine mm_call0 (As := [.long v3, .int (((12 : Int32) * v5) + v6)]) (rest := []) cV_X5_144 (ok_X5_digestOfWindow h114) ⟨rfl, rfl, Nat.le_of_ble_eq_true rfl, Nat.le_of_ble_eq_true rfl⟩ dX5_digestOn_114 rfl rfl rfl rfl (by rintro _ _ ⟨-, rfl⟩; rfl) (Nat.le_of_ble_eq_true rfl) ⟨Nat.le_of_ble_eq_true rfl, Nat.le_of_ble_eq_true rfl⟩ (pc' := 117) rfl ?_
      rintro rv w ⟨rfl, rfl⟩
      show mm_Wp _ _ _ _ 117 [(0, .ref 0), (3, .long v3), (5, .int v5), (6, .int v6)] [.long t114] (W_X5 q_wide q_high q_slackNow q_tenants q_letters q_readings q_kinds q_painOf q_payFor q_refused q_owned q_litIn q_shapes q_readAt q_meant q_readSo)
      clear h114
      refine mm_lstore_n dX5_digestOn_117 rfl (by decide) (l' := [(3, .long t114), (0, .ref 0), (5, .int v5), (6, .int v6)]) rfl (pc' := 118) rfl ?_
      refine mm_iinc 3 dX5_digestOn_118 rfl ki_1 (by decide) (l' := [(6, .int (v6 + (1 : Int32))), (3, .long t114), (0, .ref 0), (5, .int v5)]) rfl (pc' := 121) rfl ?_
      refine mm_goto (tgt := 95) dX5_digestOn_121 (by decide) ?_
      exact mm_sub [2, 1, 3, 0] rfl (hr95 _ _ h)
def X5_digestOn_L83 (fu : Nat)  (q_wide : Int32) (q_high : Int32) (q_slackNow : Int32) (q_tenants : Int32) (q_letters : Int32) (q_readings : Int32) (q_kinds : Nat → Int32) (q_painOf : Nat → Int32) (q_payFor : Nat → Int32) (q_refused : Nat → Int32) (q_owned : Nat → Int64) (q_litIn : Nat → Int64) (q_shapes : Nat → Int32) (q_readAt : Nat → Int32) (q_meant : Nat → Int32) (q_readSo : Nat → Int32)  : Nat → Int64 → Int32 → Option (Int64)
  | 0, _, _ => none
  | n + 1, v3, v5 => if q_high ≤ v5 then (X5_digestOn_L133 fu q_wide q_high q_slackNow q_tenants q_letters q_readings q_kinds q_painOf q_payFor q_refused q_owned q_litIn q_shapes q_readAt q_meant q_readSo fu v3 (0 : Int32)) else (X5_digestOn_L95 fu (X5_digestOn_L83 fu q_wide q_high q_slackNow q_tenants q_letters q_readings q_kinds q_painOf q_payFor q_refused q_owned q_litIn q_shapes q_readAt q_meant q_readSo n) q_wide q_high q_slackNow q_tenants q_letters q_readings q_kinds q_painOf q_payFor q_refused q_owned q_litIn q_shapes q_readAt q_meant q_readSo v5 fu v3 (0 : Int32))
set_option maxHeartbeats 4000000 in
set_option maxRecDepth 100000 in
theorem s_X5_digestOn_L83 {fu : Nat} {q_wide : Int32} {q_high : Int32} {q_slackNow : Int32} {q_tenants : Int32} {q_letters : Int32} {q_readings : Int32} {q_kinds : Nat → Int32} {q_painOf : Nat → Int32} {q_payFor : Nat → Int32} {q_refused : Nat → Int32} {q_owned : Nat → Int64} {q_litIn : Nat → Int64} {q_shapes : Nat → Int32} {q_readAt : Nat → Int32} {q_meant : Nat → Int32} {q_readSo : Nat → Int32} {r : Int64} : ∀ (n : Nat) (v3 : Int64) (v5 : Int32), X5_digestOn_L83 fu q_wide q_high q_slackNow q_tenants q_letters q_readings q_kinds q_painOf q_payFor q_refused q_owned q_litIn q_shapes q_readAt q_meant q_readSo n v3 v5 = some r → mm_Wp mX5_digestOn (mm_R (P_X5_digestOn q_wide q_high q_slackNow q_tenants q_letters q_readings q_kinds q_painOf q_payFor q_refused q_owned q_litIn q_shapes q_readAt q_meant q_readSo r)) 0 0 83 [(0, .ref 0), (3, .long v3), (5, .int v5)] [] (W_X5 q_wide q_high q_slackNow q_tenants q_letters q_readings q_kinds q_painOf q_payFor q_refused q_owned q_litIn q_shapes q_readAt q_meant q_readSo) := by
  intro n
  induction n with
  | zero =>
    intro v3 v5 h
    rw [X5_digestOn_L83] at h
    cases h
  | succ n hr83 =>
    intro v3 v5 h
    rw [X5_digestOn_L83] at h
    refine mm_iload 2 dX5_digestOn_83 rfl (pc' := 85) rfl ?_
    refine mm_aload_n 0 dX5_digestOn_85 rfl rfl (pc' := 86) rfl ?_
    refine mm_getf fG_X5_15 dX5_digestOn_86 rfl rfl (pc' := 89) rfl ?_
    refine mm_icmp_ge (tgt := 130) dX5_digestOn_89 (by decide) (pc' := 92) rfl (fun c => ?_) (fun c => ?_)
    · replace h := mm_it h c
      clear c
      refine mm_iconst dX5_digestOn_130 ki_0 (pc' := 131) rfl ?_
      refine mm_istore dX5_digestOn_131 (by decide) (l' := [(5, .int (0 : Int32)), (0, .ref 0), (3, .long v3)]) rfl (pc' := 133) rfl ?_
      exact mm_sub [1, 2, 0] rfl (s_X5_digestOn_L133  _ _ _ h)
    · replace h := mm_if h c
      clear c
      refine mm_iconst dX5_digestOn_92 ki_0 (pc' := 93) rfl ?_
      refine mm_istore dX5_digestOn_93 (by decide) (l' := [(6, .int (0 : Int32)), (0, .ref 0), (3, .long v3), (5, .int v5)]) rfl (pc' := 95) rfl ?_
      exact mm_sub [1, 2, 3, 0] rfl (s_X5_digestOn_L95 (hr83 := hr83) _ _ _ h)
def X5_digestOn_L5 (fu : Nat)  (q_wide : Int32) (q_high : Int32) (q_slackNow : Int32) (q_tenants : Int32) (q_letters : Int32) (q_readings : Int32) (q_kinds : Nat → Int32) (q_painOf : Nat → Int32) (q_payFor : Nat → Int32) (q_refused : Nat → Int32) (q_owned : Nat → Int64) (q_litIn : Nat → Int64) (q_shapes : Nat → Int32) (q_readAt : Nat → Int32) (q_meant : Nat → Int32) (q_readSo : Nat → Int32)  : Nat → Int64 → Int32 → Option (Int64)
  | 0, _, _ => none
  | n + 1, v3, v5 => if q_tenants ≤ v5 then (X5_digestOn_L83 fu q_wide q_high q_slackNow q_tenants q_letters q_readings q_kinds q_painOf q_payFor q_refused q_owned q_litIn q_shapes q_readAt q_meant q_readSo fu v3 (0 : Int32)) else (mm_rd q_kinds 6 v5 fun x25 => mm_let (((31 : Int64) * v3) + x25.toInt64) fun y28 => mm_rd q_painOf 6 v5 fun x40 => mm_let (((31 : Int64) * y28) + x40.toInt64) fun y43 => mm_rd q_payFor 6 v5 fun x55 => mm_let (((31 : Int64) * y43) + x55.toInt64) fun y58 => mm_rd q_refused 6 v5 fun x70 => mm_let (((31 : Int64) * y58) + x70.toInt64) fun y73 => (X5_digestOn_L5 fu q_wide q_high q_slackNow q_tenants q_letters q_readings q_kinds q_painOf q_payFor q_refused q_owned q_litIn q_shapes q_readAt q_meant q_readSo n) y73 (v5 + (1 : Int32)))
set_option maxHeartbeats 4000000 in
set_option maxRecDepth 100000 in
theorem s_X5_digestOn_L5 {fu : Nat} {q_wide : Int32} {q_high : Int32} {q_slackNow : Int32} {q_tenants : Int32} {q_letters : Int32} {q_readings : Int32} {q_kinds : Nat → Int32} {q_painOf : Nat → Int32} {q_payFor : Nat → Int32} {q_refused : Nat → Int32} {q_owned : Nat → Int64} {q_litIn : Nat → Int64} {q_shapes : Nat → Int32} {q_readAt : Nat → Int32} {q_meant : Nat → Int32} {q_readSo : Nat → Int32} {r : Int64} : ∀ (n : Nat) (v3 : Int64) (v5 : Int32), X5_digestOn_L5 fu q_wide q_high q_slackNow q_tenants q_letters q_readings q_kinds q_painOf q_payFor q_refused q_owned q_litIn q_shapes q_readAt q_meant q_readSo n v3 v5 = some r → mm_Wp mX5_digestOn (mm_R (P_X5_digestOn q_wide q_high q_slackNow q_tenants q_letters q_readings q_kinds q_painOf q_payFor q_refused q_owned q_litIn q_shapes q_readAt q_meant q_readSo r)) 0 0 5 [(0, .ref 0), (3, .long v3), (5, .int v5)] [] (W_X5 q_wide q_high q_slackNow q_tenants q_letters q_readings q_kinds q_painOf q_payFor q_refused q_owned q_litIn q_shapes q_readAt q_meant q_readSo) := by
  intro n
  induction n with
  | zero =>
    intro v3 v5 h
    rw [X5_digestOn_L5] at h
    cases h
  | succ n hr5 =>
    intro v3 v5 h
    rw [X5_digestOn_L5] at h
    refine mm_iload 2 dX5_digestOn_5 rfl (pc' := 7) rfl ?_
    refine mm_aload_n 0 dX5_digestOn_7 rfl rfl (pc' := 8) rfl ?_
    refine mm_getf fG_X5_21 dX5_digestOn_8 rfl rfl (pc' := 11) rfl ?_
    refine mm_icmp_ge (tgt := 80) dX5_digestOn_11 (by decide) (pc' := 14) rfl (fun c => ?_) (fun c => ?_)
    · replace h := mm_it h c
      clear c
      refine mm_iconst dX5_digestOn_80 ki_0 (pc' := 81) rfl ?_
      refine mm_istore dX5_digestOn_81 (by decide) (l' := [(5, .int (0 : Int32)), (0, .ref 0), (3, .long v3)]) rfl (pc' := 83) rfl ?_
      exact mm_sub [1, 2, 0] rfl (s_X5_digestOn_L83  _ _ _ h)
    · replace h := mm_if h c
      clear c
      refine mm_ldc2 kC_X5_142 dX5_digestOn_14 (pc' := 17) rfl ?_
      refine mm_lload_n 1 dX5_digestOn_17 rfl rfl (pc' := 18) rfl ?_
      refine mm_lmul dX5_digestOn_18 (pc' := 19) rfl ?_
      refine mm_aload_n 0 dX5_digestOn_19 rfl rfl (pc' := 20) rfl ?_
      refine mm_getf fG_X5_30 dX5_digestOn_20 rfl rfl (pc' := 23) rfl ?_
      refine mm_iload 2 dX5_digestOn_23 rfl (pc' := 25) rfl ?_
      obtain ⟨x25, c25, e25, h⟩ := mm_rd_of h
      refine mm_iald dX5_digestOn_25 rfl c25 e25 (pc' := 26) rfl ?_
      clear c25 e25
      refine mm_i2l dX5_digestOn_26 (pc' := 27) rfl ?_
      refine mm_ladd dX5_digestOn_27 (pc' := 28) rfl ?_
      refine mm_topl (fun y28 e => ?_)
      replace h := mm_let_of h y28 e
      clear e
      refine mm_lstore_n dX5_digestOn_28 rfl (by decide) (l' := [(3, .long y28), (0, .ref 0), (5, .int v5)]) rfl (pc' := 29) rfl ?_
      refine mm_ldc2 kC_X5_142 dX5_digestOn_29 (pc' := 32) rfl ?_
      refine mm_lload_n 0 dX5_digestOn_32 rfl rfl (pc' := 33) rfl ?_
      refine mm_lmul dX5_digestOn_33 (pc' := 34) rfl ?_
      refine mm_aload_n 1 dX5_digestOn_34 rfl rfl (pc' := 35) rfl ?_
      refine mm_getf fG_X5_34 dX5_digestOn_35 rfl rfl (pc' := 38) rfl ?_
      refine mm_iload 2 dX5_digestOn_38 rfl (pc' := 40) rfl ?_
      obtain ⟨x40, c40, e40, h⟩ := mm_rd_of h
      refine mm_iald dX5_digestOn_40 rfl c40 e40 (pc' := 41) rfl ?_
      clear c40 e40
      refine mm_i2l dX5_digestOn_41 (pc' := 42) rfl ?_
      refine mm_ladd dX5_digestOn_42 (pc' := 43) rfl ?_
      refine mm_topl (fun y43 e => ?_)
      replace h := mm_let_of h y43 e
      clear e
      refine mm_lstore_n dX5_digestOn_43 rfl (by decide) (l' := [(3, .long y43), (0, .ref 0), (5, .int v5)]) rfl (pc' := 44) rfl ?_
      refine mm_ldc2 kC_X5_142 dX5_digestOn_44 (pc' := 47) rfl ?_
      refine mm_lload_n 0 dX5_digestOn_47 rfl rfl (pc' := 48) rfl ?_
      refine mm_lmul dX5_digestOn_48 (pc' := 49) rfl ?_
      refine mm_aload_n 1 dX5_digestOn_49 rfl rfl (pc' := 50) rfl ?_
      refine mm_getf fG_X5_37 dX5_digestOn_50 rfl rfl (pc' := 53) rfl ?_
      refine mm_iload 2 dX5_digestOn_53 rfl (pc' := 55) rfl ?_
      obtain ⟨x55, c55, e55, h⟩ := mm_rd_of h
      refine mm_iald dX5_digestOn_55 rfl c55 e55 (pc' := 56) rfl ?_
      clear c55 e55
      refine mm_i2l dX5_digestOn_56 (pc' := 57) rfl ?_
      refine mm_ladd dX5_digestOn_57 (pc' := 58) rfl ?_
      refine mm_topl (fun y58 e => ?_)
      replace h := mm_let_of h y58 e
      clear e
      refine mm_lstore_n dX5_digestOn_58 rfl (by decide) (l' := [(3, .long y58), (0, .ref 0), (5, .int v5)]) rfl (pc' := 59) rfl ?_
      refine mm_ldc2 kC_X5_142 dX5_digestOn_59 (pc' := 62) rfl ?_
      refine mm_lload_n 0 dX5_digestOn_62 rfl rfl (pc' := 63) rfl ?_
      refine mm_lmul dX5_digestOn_63 (pc' := 64) rfl ?_
      refine mm_aload_n 1 dX5_digestOn_64 rfl rfl (pc' := 65) rfl ?_
      refine mm_getf fG_X5_40 dX5_digestOn_65 rfl rfl (pc' := 68) rfl ?_
      refine mm_iload 2 dX5_digestOn_68 rfl (pc' := 70) rfl ?_
      obtain ⟨x70, c70, e70, h⟩ := mm_rd_of h
      refine mm_iald dX5_digestOn_70 rfl c70 e70 (pc' := 71) rfl ?_
      clear c70 e70
      refine mm_i2l dX5_digestOn_71 (pc' := 72) rfl ?_
      refine mm_ladd dX5_digestOn_72 (pc' := 73) rfl ?_
      refine mm_topl (fun y73 e => ?_)
      replace h := mm_let_of h y73 e
      clear e
      refine mm_lstore_n dX5_digestOn_73 rfl (by decide) (l' := [(3, .long y73), (0, .ref 0), (5, .int v5)]) rfl (pc' := 74) rfl ?_
      refine mm_iinc 2 dX5_digestOn_74 rfl ki_1 (by decide) (l' := [(5, .int (v5 + (1 : Int32))), (3, .long y73), (0, .ref 0)]) rfl (pc' := 77) rfl ?_
      refine mm_goto (tgt := 5) dX5_digestOn_77 (by decide) ?_
      exact mm_sub [2, 1, 0] rfl (hr5 _ _ h)
def f_X5_digestOn (fu : Nat) (q_wide : Int32) (q_high : Int32) (q_slackNow : Int32) (q_tenants : Int32) (q_letters : Int32) (q_readings : Int32) (q_kinds : Nat → Int32) (q_painOf : Nat → Int32) (q_payFor : Nat → Int32) (q_refused : Nat → Int32) (q_owned : Nat → Int64) (q_litIn : Nat → Int64) (q_shapes : Nat → Int32) (q_readAt : Nat → Int32) (q_meant : Nat → Int32) (q_readSo : Nat → Int32) (v1 : Int64) : Option (Int64) := X5_digestOn_L5 fu q_wide q_high q_slackNow q_tenants q_letters q_readings q_kinds q_painOf q_payFor q_refused q_owned q_litIn q_shapes q_readAt q_meant q_readSo fu v1 (0 : Int32)
set_option maxHeartbeats 4000000 in
set_option maxRecDepth 100000 in
theorem ok_X5_digestOn {fu : Nat} {q_wide : Int32} {q_high : Int32} {q_slackNow : Int32} {q_tenants : Int32} {q_letters : Int32} {q_readings : Int32} {q_kinds : Nat → Int32} {q_painOf : Nat → Int32} {q_payFor : Nat → Int32} {q_refused : Nat → Int32} {q_owned : Nat → Int64} {q_litIn : Nat → Int64} {q_shapes : Nat → Int32} {q_readAt : Nat → Int32} {q_meant : Nat → Int32} {q_readSo : Nat → Int32} {r : Int64} {v1 : Int64} (h : f_X5_digestOn fu q_wide q_high q_slackNow q_tenants q_letters q_readings q_kinds q_painOf q_payFor q_refused q_owned q_litIn q_shapes q_readAt q_meant q_readSo v1 = some r) : mm_Ok mX5_digestOn [.ref 0, .long v1] (W_X5 q_wide q_high q_slackNow q_tenants q_letters q_readings q_kinds q_painOf q_payFor q_refused q_owned q_litIn q_shapes q_readAt q_meant q_readSo) (P_X5_digestOn q_wide q_high q_slackNow q_tenants q_letters q_readings q_kinds q_painOf q_payFor q_refused q_owned q_litIn q_shapes q_readAt q_meant q_readSo r) := by
  rw [f_X5_digestOn] at h
  refine mm_Ok.of pn_X5 (l := [(0, .ref 0), (1, .long v1)]) rfl (Nat.le_of_ble_eq_true rfl) ?_
  refine mm_lload_n 1 dX5_digestOn_0 rfl rfl (pc' := 1) rfl ?_
  refine mm_lstore_n dX5_digestOn_1 rfl (by decide) (l' := [(3, .long v1), (0, .ref 0), (1, .long v1)]) rfl (pc' := 2) rfl ?_
  refine mm_iconst dX5_digestOn_2 ki_0 (pc' := 3) rfl ?_
  refine mm_istore dX5_digestOn_3 (by decide) (l' := [(5, .int (0 : Int32)), (3, .long v1), (0, .ref 0), (1, .long v1)]) rfl (pc' := 5) rfl ?_
  exact mm_sub [2, 1, 0] rfl (s_X5_digestOn_L5  _ _ _ h)

def P_X6_spell  (r : Int32 × Int32 × Int32 × (Nat → Int32)) : Option Value → mm_W → Prop := fun rv w => rv = some (.int r.1) ∧ w = (W_X6 r.2.1 r.2.2.1 r.2.2.2)
def X6_spell_J12 (fu : Nat)  (q_length : Int32) (q_bits : Int32) (q_letters : Nat → Int32)   : Option (Int32 × Int32 × Int32 × (Nat → Int32)) := some ((0 : Int32), q_length, q_bits, q_letters)
set_option maxHeartbeats 4000000 in
set_option maxRecDepth 100000 in
theorem s_X6_spell_J12 {fu : Nat} {q_length : Int32} {q_bits : Int32} {q_letters : Nat → Int32} {r : Int32 × Int32 × Int32 × (Nat → Int32)} (h : X6_spell_J12 fu q_length q_bits q_letters = some r) : mm_Wp mX6_spell (mm_R (P_X6_spell r)) 0 0 12 [] [] (W_X6 q_length q_bits q_letters) := by
  rw [X6_spell_J12] at h
  refine mm_iconst dX6_spell_12 ki_0 (pc' := 13) rfl ?_
  have h9 := Option.some.inj h
  subst h9
  exact mm_zret rfl (by decide) dX6_spell_13 ⟨rfl, rfl⟩
def X6_spell_J77 (fu : Nat)  (q_length : Int32) (q_bits : Int32) (q_letters : Nat → Int32)   : Option (Int32 × Int32 × Int32 × (Nat → Int32)) := some ((0 : Int32), q_length, q_bits, q_letters)
set_option maxHeartbeats 4000000 in
set_option maxRecDepth 100000 in
theorem s_X6_spell_J77 {fu : Nat} {q_length : Int32} {q_bits : Int32} {q_letters : Nat → Int32} {r : Int32 × Int32 × Int32 × (Nat → Int32)} (h : X6_spell_J77 fu q_length q_bits q_letters = some r) : mm_Wp mX6_spell (mm_R (P_X6_spell r)) 0 0 77 [] [] (W_X6 q_length q_bits q_letters) := by
  rw [X6_spell_J77] at h
  refine mm_iconst dX6_spell_77 ki_0 (pc' := 78) rfl ?_
  have h9 := Option.some.inj h
  subst h9
  exact mm_zret rfl (by decide) dX6_spell_78 ⟨rfl, rfl⟩
def X6_spell_L54 (fu : Nat)  (q_length : Int32) (v2 : Int32) : Nat → Int32 → (Nat → Int32) → Int32 → Int32 → Option (Int32 × Int32 × Int32 × (Nat → Int32))
  | 0, _, _, _, _ => none
  | n + 1, q_bits, q_letters, v3, v4 => if v4 < 0 then (some ((1 : Int32), q_length, q_bits, q_letters)) else (mm_let (v3 - v3 / (10 : Int32) * (10 : Int32)) fun y63 => if y63 < (1 : Int32) then (X6_spell_J77 fu q_length q_bits q_letters) else (if y63 ≤ v2 then (mm_ck 3 v4 ((X6_spell_L54 fu q_length v2 n) (q_bits ||| ((1 : Int32) <<< ((y63 - (1 : Int32)) &&& 31))) (upd q_letters v4.toNatClampNeg (y63 - (1 : Int32))) (v3 / (10 : Int32)) (v4 + (-1 : Int32)))) else (X6_spell_J77 fu q_length q_bits q_letters)))
set_option maxHeartbeats 4000000 in
set_option maxRecDepth 100000 in
theorem s_X6_spell_L54 {fu : Nat} {q_length : Int32} {r : Int32 × Int32 × Int32 × (Nat → Int32)} {v2 : Int32} : ∀ (n : Nat) (q_bits : Int32) (q_letters : Nat → Int32) (v3 : Int32) (v4 : Int32), X6_spell_L54 fu q_length v2 n q_bits q_letters v3 v4 = some r → mm_Wp mX6_spell (mm_R (P_X6_spell r)) 0 0 54 [(0, .ref 0), (2, .int v2), (3, .int v3), (4, .int v4)] [] (W_X6 q_length q_bits q_letters) := by
  intro n
  induction n with
  | zero =>
    intro q_bits q_letters v3 v4 h
    rw [X6_spell_L54] at h
    cases h
  | succ n hr54 =>
    intro q_bits q_letters v3 v4 h
    rw [X6_spell_L54] at h
    refine mm_iload 3 dX6_spell_54 rfl (pc' := 56) rfl ?_
    refine mm_if_lt (tgt := 116) dX6_spell_56 (by decide) (pc' := 59) rfl (fun c => ?_) (fun c => ?_)
    · replace h := mm_it h c
      clear c
      refine mm_iconst dX6_spell_116 ki_1 (pc' := 117) rfl ?_
      have h9 := Option.some.inj h
      subst h9
      exact mm_zret rfl (by decide) dX6_spell_117 ⟨rfl, rfl⟩
    · replace h := mm_if h c
      clear c
      refine mm_iload_n 2 dX6_spell_59 rfl rfl (pc' := 60) rfl ?_
      refine mm_bipush dX6_spell_60 kb_10 (pc' := 62) rfl ?_
      refine mm_irem dX6_spell_62 (by decide) (pc' := 63) rfl ?_
      refine mm_topi (fun y63 e => ?_)
      replace h := mm_let_of h y63 e
      clear e
      refine mm_istore dX6_spell_63 (by decide) (l' := [(5, .int y63), (0, .ref 0), (2, .int v2), (3, .int v3), (4, .int v4)]) rfl (pc' := 65) rfl ?_
      refine mm_iload 0 dX6_spell_65 rfl (pc' := 67) rfl ?_
      refine mm_iconst dX6_spell_67 ki_1 (pc' := 68) rfl ?_
      refine mm_icmp_lt (tgt := 77) dX6_spell_68 (by decide) (pc' := 71) rfl (fun c => ?_) (fun c => ?_)
      · replace h := mm_it h c
        clear c
        exact mm_sub [] rfl (s_X6_spell_J77  h)
      · replace h := mm_if h c
        clear c
        refine mm_iload 0 dX6_spell_71 rfl (pc' := 73) rfl ?_
        refine mm_iload_n 2 dX6_spell_73 rfl rfl (pc' := 74) rfl ?_
        refine mm_icmp_le (tgt := 79) dX6_spell_74 (by decide) (pc' := 77) rfl (fun c => ?_) (fun c => ?_)
        · replace h := mm_it h c
          clear c
          refine mm_aload_n 1 dX6_spell_79 rfl rfl (pc' := 80) rfl ?_
          refine mm_getf fG_X6_9 dX6_spell_80 rfl rfl (pc' := 83) rfl ?_
          refine mm_iload 4 dX6_spell_83 rfl (pc' := 85) rfl ?_
          refine mm_iload 0 dX6_spell_85 rfl (pc' := 87) rfl ?_
          refine mm_iconst dX6_spell_87 ki_1 (pc' := 88) rfl ?_
          refine mm_isub dX6_spell_88 (pc' := 89) rfl ?_
          obtain ⟨c89, h⟩ := mm_ck_of h
          refine mm_iast dX6_spell_89 rfl c89 rfl (ws' := (W_X6 q_length q_bits (upd q_letters v4.toNatClampNeg (y63 - (1 : Int32))))) rfl (pc' := 90) rfl ?_
          clear c89
          refine mm_aload_n 1 dX6_spell_90 rfl rfl (pc' := 91) rfl ?_
          refine mm_dup dX6_spell_91 rfl (pc' := 92) rfl ?_
          refine mm_getf fG_X6_19 dX6_spell_92 rfl rfl (pc' := 95) rfl ?_
          refine mm_iconst dX6_spell_95 ki_1 (pc' := 96) rfl ?_
          refine mm_iload 0 dX6_spell_96 rfl (pc' := 98) rfl ?_
          refine mm_iconst dX6_spell_98 ki_1 (pc' := 99) rfl ?_
          refine mm_isub dX6_spell_99 (pc' := 100) rfl ?_
          refine mm_ishl dX6_spell_100 (pc' := 101) rfl ?_
          refine mm_ior dX6_spell_101 (pc' := 102) rfl ?_
          refine mm_putf fP_X6_19 dX6_spell_102 rfl (Nat.le_of_ble_eq_true rfl) (fun _ => rfl) (fun _ => rfl) (ws' := (W_X6 q_length (q_bits ||| ((1 : Int32) <<< ((y63 - (1 : Int32)) &&& 31))) (upd q_letters v4.toNatClampNeg (y63 - (1 : Int32))))) rfl (pc' := 105) rfl ?_
          refine mm_iload_n 3 dX6_spell_105 rfl rfl (pc' := 106) rfl ?_
          refine mm_bipush dX6_spell_106 kb_10 (pc' := 108) rfl ?_
          refine mm_idiv dX6_spell_108 (by decide) (pc' := 109) rfl ?_
          refine mm_istore_n dX6_spell_109 rfl (by decide) (l' := [(3, .int (v3 / (10 : Int32))), (5, .int y63), (0, .ref 0), (2, .int v2), (4, .int v4)]) rfl (pc' := 110) rfl ?_
          refine mm_iinc 4 dX6_spell_110 rfl ki_m1 (by decide) (l' := [(4, .int (v4 + (-1 : Int32))), (3, .int (v3 / (10 : Int32))), (5, .int y63), (0, .ref 0), (2, .int v2)]) rfl (pc' := 113) rfl ?_
          refine mm_goto (tgt := 54) dX6_spell_113 (by decide) ?_
          exact mm_sub [3, 4, 1, 0] rfl (hr54 _ _ _ _ h)
        · replace h := mm_if h c
          clear c
          exact mm_sub [] rfl (s_X6_spell_J77  h)
def X6_spell_J36 (fu : Nat)  (q_length : Int32) (q_bits : Int32) (q_letters : Nat → Int32) (v1 : Int32) (v2 : Int32) (s0 : Int32) : Option (Int32 × Int32 × Int32 × (Nat → Int32)) := X6_spell_L54 fu s0 v2 fu (0 : Int32) q_letters v1 (s0 - (1 : Int32))
set_option maxHeartbeats 4000000 in
set_option maxRecDepth 100000 in
theorem s_X6_spell_J36 {fu : Nat} {q_length : Int32} {q_bits : Int32} {q_letters : Nat → Int32} {r : Int32 × Int32 × Int32 × (Nat → Int32)} {v1 : Int32} {v2 : Int32} {s0 : Int32} (h : X6_spell_J36 fu q_length q_bits q_letters v1 v2 s0 = some r) : mm_Wp mX6_spell (mm_R (P_X6_spell r)) 0 0 36 [(0, .ref 0), (1, .int v1), (2, .int v2)] [.int s0, .ref 0] (W_X6 q_length q_bits q_letters) := by
  rw [X6_spell_J36] at h
  refine mm_putf fP_X6_15 dX6_spell_36 rfl (Nat.le_of_ble_eq_true rfl) (fun _ => rfl) (fun _ => rfl) (ws' := (W_X6 s0 q_bits q_letters)) rfl (pc' := 39) rfl ?_
  refine mm_aload_n 0 dX6_spell_39 rfl rfl (pc' := 40) rfl ?_
  refine mm_iconst dX6_spell_40 ki_0 (pc' := 41) rfl ?_
  refine mm_putf fP_X6_19 dX6_spell_41 rfl (Nat.le_of_ble_eq_true rfl) (fun _ => rfl) (fun _ => rfl) (ws' := (W_X6 s0 (0 : Int32) q_letters)) rfl (pc' := 44) rfl ?_
  refine mm_iload_n 1 dX6_spell_44 rfl rfl (pc' := 45) rfl ?_
  refine mm_istore_n dX6_spell_45 rfl (by decide) (l' := [(3, .int v1), (0, .ref 0), (1, .int v1), (2, .int v2)]) rfl (pc' := 46) rfl ?_
  refine mm_aload_n 1 dX6_spell_46 rfl rfl (pc' := 47) rfl ?_
  refine mm_getf fG_X6_15 dX6_spell_47 rfl rfl (pc' := 50) rfl ?_
  refine mm_iconst dX6_spell_50 ki_1 (pc' := 51) rfl ?_
  refine mm_isub dX6_spell_51 (pc' := 52) rfl ?_
  refine mm_istore dX6_spell_52 (by decide) (l' := [(4, .int (s0 - (1 : Int32))), (3, .int v1), (0, .ref 0), (1, .int v1), (2, .int v2)]) rfl (pc' := 54) rfl ?_
  exact mm_sub [2, 4, 1, 0] rfl (s_X6_spell_L54  _ _ _ _ _ h)
def f_X6_spell (fu : Nat) (q_length : Int32) (q_bits : Int32) (q_letters : Nat → Int32) (v1 : Int32) (v2 : Int32) : Option (Int32 × Int32 × Int32 × (Nat → Int32)) := if v1 < (1 : Int32) then (X6_spell_J12 fu q_length q_bits q_letters) else (if v1 ≤ (666 : Int32) then (if v1 < (100 : Int32) then (if v1 < (10 : Int32) then (X6_spell_J36 fu q_length q_bits q_letters v1 v2 (1 : Int32)) else (X6_spell_J36 fu q_length q_bits q_letters v1 v2 (2 : Int32))) else (X6_spell_J36 fu q_length q_bits q_letters v1 v2 (3 : Int32))) else (X6_spell_J12 fu q_length q_bits q_letters))
set_option maxHeartbeats 4000000 in
set_option maxRecDepth 100000 in
theorem ok_X6_spell {fu : Nat} {q_length : Int32} {q_bits : Int32} {q_letters : Nat → Int32} {r : Int32 × Int32 × Int32 × (Nat → Int32)} {v1 : Int32} {v2 : Int32} (h : f_X6_spell fu q_length q_bits q_letters v1 v2 = some r) : mm_Ok mX6_spell [.ref 0, .int v1, .int v2] (W_X6 q_length q_bits q_letters) (P_X6_spell r) := by
  rw [f_X6_spell] at h
  refine mm_Ok.of pn_X6 (l := [(0, .ref 0), (1, .int v1), (2, .int v2)]) rfl (Nat.le_of_ble_eq_true rfl) ?_
  refine mm_iload_n 1 dX6_spell_0 rfl rfl (pc' := 1) rfl ?_
  refine mm_iconst dX6_spell_1 ki_1 (pc' := 2) rfl ?_
  refine mm_icmp_lt (tgt := 12) dX6_spell_2 (by decide) (pc' := 5) rfl (fun c => ?_) (fun c => ?_)
  · replace h := mm_it h c
    clear c
    exact mm_sub [] rfl (s_X6_spell_J12  h)
  · replace h := mm_if h c
    clear c
    refine mm_iload_n 1 dX6_spell_5 rfl rfl (pc' := 6) rfl ?_
    refine mm_sipush dX6_spell_6 ks_666 (pc' := 9) rfl ?_
    refine mm_icmp_le (tgt := 14) dX6_spell_9 (by decide) (pc' := 12) rfl (fun c => ?_) (fun c => ?_)
    · replace h := mm_it h c
      clear c
      refine mm_aload_n 0 dX6_spell_14 rfl rfl (pc' := 15) rfl ?_
      refine mm_iload_n 1 dX6_spell_15 rfl rfl (pc' := 16) rfl ?_
      refine mm_bipush dX6_spell_16 kb_100 (pc' := 18) rfl ?_
      refine mm_icmp_lt (tgt := 25) dX6_spell_18 (by decide) (pc' := 21) rfl (fun c => ?_) (fun c => ?_)
      · replace h := mm_it h c
        clear c
        refine mm_iload_n 1 dX6_spell_25 rfl rfl (pc' := 26) rfl ?_
        refine mm_bipush dX6_spell_26 kb_10 (pc' := 28) rfl ?_
        refine mm_icmp_lt (tgt := 35) dX6_spell_28 (by decide) (pc' := 31) rfl (fun c => ?_) (fun c => ?_)
        · replace h := mm_it h c
          clear c
          refine mm_iconst dX6_spell_35 ki_1 (pc' := 36) rfl ?_
          exact s_X6_spell_J36  h
        · replace h := mm_if h c
          clear c
          refine mm_iconst dX6_spell_31 ki_2 (pc' := 32) rfl ?_
          refine mm_goto (tgt := 36) dX6_spell_32 (by decide) ?_
          exact s_X6_spell_J36  h
      · replace h := mm_if h c
        clear c
        refine mm_iconst dX6_spell_21 ki_3 (pc' := 22) rfl ?_
        refine mm_goto (tgt := 36) dX6_spell_22 (by decide) ?_
        exact s_X6_spell_J36  h
    · replace h := mm_if h c
      clear c
      exact mm_sub [] rfl (s_X6_spell_J12  h)

def P_X7_seen  (r : Int32) : Option Value → mm_W → Prop := fun rv w => rv = some (.int r) ∧ w = []
def f_X7_seen (fu : Nat) (v0 : Int32) (v1 : Int32) : Option (Int32) := if v1 = 0 then (some (v0)) else (some (((((v0 &&& (585 : Int32)) <<< ((2 : Int32) &&& 31)) ||| (v0 &&& (1170 : Int32))) ||| ((v0 >>> ((2 : Int32) &&& 31)) &&& (585 : Int32)))))
set_option maxHeartbeats 4000000 in
set_option maxRecDepth 100000 in
theorem ok_X7_seen {fu : Nat} {r : Int32} {v0 : Int32} {v1 : Int32} (h : f_X7_seen fu v0 v1 = some r) : mm_Ok mX7_seen [.int v0, .int v1] [] (P_X7_seen r) := by
  rw [f_X7_seen] at h
  refine mm_Ok.of pn_X7 (l := [(0, .int v0), (1, .int v1)]) rfl (Nat.le_of_ble_eq_true rfl) ?_
  refine mm_iload_n 1 dX7_seen_0 rfl rfl (pc' := 1) rfl ?_
  refine mm_if_ne (tgt := 6) dX7_seen_1 (by decide) (pc' := 4) rfl (fun c => ?_) (fun c => ?_)
  · replace h := mm_if h c
    clear c
    refine mm_iload_n 0 dX7_seen_6 rfl rfl (pc' := 7) rfl ?_
    refine mm_sipush dX7_seen_7 ks_585 (pc' := 10) rfl ?_
    refine mm_iand dX7_seen_10 (pc' := 11) rfl ?_
    refine mm_iconst dX7_seen_11 ki_2 (pc' := 12) rfl ?_
    refine mm_ishl dX7_seen_12 (pc' := 13) rfl ?_
    refine mm_iload_n 0 dX7_seen_13 rfl rfl (pc' := 14) rfl ?_
    refine mm_sipush dX7_seen_14 ks_1170 (pc' := 17) rfl ?_
    refine mm_iand dX7_seen_17 (pc' := 18) rfl ?_
    refine mm_ior dX7_seen_18 (pc' := 19) rfl ?_
    refine mm_iload_n 0 dX7_seen_19 rfl rfl (pc' := 20) rfl ?_
    refine mm_iconst dX7_seen_20 ki_2 (pc' := 21) rfl ?_
    refine mm_ishr dX7_seen_21 (pc' := 22) rfl ?_
    refine mm_sipush dX7_seen_22 ks_585 (pc' := 25) rfl ?_
    refine mm_iand dX7_seen_25 (pc' := 26) rfl ?_
    refine mm_ior dX7_seen_26 (pc' := 27) rfl ?_
    have h9 := Option.some.inj h
    subst h9
    exact mm_iret rfl dX7_seen_27 ⟨rfl, rfl⟩
  · replace h := mm_it h c
    clear c
    refine mm_iload_n 0 dX7_seen_4 rfl rfl (pc' := 5) rfl ?_
    have h9 := Option.some.inj h
    subst h9
    exact mm_iret rfl dX7_seen_5 ⟨rfl, rfl⟩

def P_X7_mostUnlike  (r : Int32) : Option Value → mm_W → Prop := fun rv w => rv = some (.int r) ∧ w = []
def X7_mostUnlike_J34 (fu : Nat)     : Option (Int32) := some ((2 : Int32))
set_option maxHeartbeats 4000000 in
set_option maxRecDepth 100000 in
theorem s_X7_mostUnlike_J34 {fu : Nat} {r : Int32} (h : X7_mostUnlike_J34 fu = some r) : mm_Wp mX7_mostUnlike (mm_R (P_X7_mostUnlike r)) 0 0 34 [] [] [] := by
  rw [X7_mostUnlike_J34] at h
  refine mm_iconst dX7_mostUnlike_34 ki_2 (pc' := 35) rfl ?_
  have h9 := Option.some.inj h
  subst h9
  exact mm_iret rfl dX7_mostUnlike_35 ⟨rfl, rfl⟩
def f_X7_mostUnlike (fu : Nat) (v0 : Int32) (v1 : Int32) : Option (Int32) := if v1 = (1 : Int32) then (some (((1 : Int32) <<< (v0 &&& 31)))) else (if v1 = (2 : Int32) then (some (((1 : Int32) <<< ((v0 - (1 : Int32)) &&& 31)))) else (if v0 = (5 : Int32) then (if v1 = (3 : Int32) then (some ((4 : Int32))) else (X7_mostUnlike_J34 fu)) else (X7_mostUnlike_J34 fu)))
set_option maxHeartbeats 4000000 in
set_option maxRecDepth 100000 in
theorem ok_X7_mostUnlike {fu : Nat} {r : Int32} {v0 : Int32} {v1 : Int32} (h : f_X7_mostUnlike fu v0 v1 = some r) : mm_Ok mX7_mostUnlike [.int v0, .int v1] [] (P_X7_mostUnlike r) := by
  rw [f_X7_mostUnlike] at h
  refine mm_Ok.of pn_X7 (l := [(0, .int v0), (1, .int v1)]) rfl (Nat.le_of_ble_eq_true rfl) ?_
  refine mm_iload_n 1 dX7_mostUnlike_0 rfl rfl (pc' := 1) rfl ?_
  refine mm_iconst dX7_mostUnlike_1 ki_1 (pc' := 2) rfl ?_
  refine mm_icmp_ne (tgt := 9) dX7_mostUnlike_2 (by decide) (pc' := 5) rfl (fun c => ?_) (fun c => ?_)
  · replace h := mm_if h c
    clear c
    refine mm_iload_n 1 dX7_mostUnlike_9 rfl rfl (pc' := 10) rfl ?_
    refine mm_iconst dX7_mostUnlike_10 ki_2 (pc' := 11) rfl ?_
    refine mm_icmp_ne (tgt := 20) dX7_mostUnlike_11 (by decide) (pc' := 14) rfl (fun c => ?_) (fun c => ?_)
    · replace h := mm_if h c
      clear c
      refine mm_iload_n 0 dX7_mostUnlike_20 rfl rfl (pc' := 21) rfl ?_
      refine mm_iconst dX7_mostUnlike_21 ki_5 (pc' := 22) rfl ?_
      refine mm_icmp_ne (tgt := 34) dX7_mostUnlike_22 (by decide) (pc' := 25) rfl (fun c => ?_) (fun c => ?_)
      · replace h := mm_if h c
        clear c
        exact mm_sub [] rfl (s_X7_mostUnlike_J34  h)
      · replace h := mm_it h c
        clear c
        refine mm_iload_n 1 dX7_mostUnlike_25 rfl rfl (pc' := 26) rfl ?_
        refine mm_iconst dX7_mostUnlike_26 ki_3 (pc' := 27) rfl ?_
        refine mm_icmp_ne (tgt := 34) dX7_mostUnlike_27 (by decide) (pc' := 30) rfl (fun c => ?_) (fun c => ?_)
        · replace h := mm_if h c
          clear c
          exact mm_sub [] rfl (s_X7_mostUnlike_J34  h)
        · replace h := mm_it h c
          clear c
          refine mm_iconst dX7_mostUnlike_30 ki_4 (pc' := 31) rfl ?_
          refine mm_goto (tgt := 35) dX7_mostUnlike_31 (by decide) ?_
          have h9 := Option.some.inj h
          subst h9
          exact mm_iret rfl dX7_mostUnlike_35 ⟨rfl, rfl⟩
    · replace h := mm_it h c
      clear c
      refine mm_iconst dX7_mostUnlike_14 ki_1 (pc' := 15) rfl ?_
      refine mm_iload_n 0 dX7_mostUnlike_15 rfl rfl (pc' := 16) rfl ?_
      refine mm_iconst dX7_mostUnlike_16 ki_1 (pc' := 17) rfl ?_
      refine mm_isub dX7_mostUnlike_17 (pc' := 18) rfl ?_
      refine mm_ishl dX7_mostUnlike_18 (pc' := 19) rfl ?_
      have h9 := Option.some.inj h
      subst h9
      exact mm_iret rfl dX7_mostUnlike_19 ⟨rfl, rfl⟩
  · replace h := mm_it h c
    clear c
    refine mm_iconst dX7_mostUnlike_5 ki_1 (pc' := 6) rfl ?_
    refine mm_iload_n 0 dX7_mostUnlike_6 rfl rfl (pc' := 7) rfl ?_
    refine mm_ishl dX7_mostUnlike_7 (pc' := 8) rfl ?_
    have h9 := Option.some.inj h
    subst h9
    exact mm_iret rfl dX7_mostUnlike_8 ⟨rfl, rfl⟩
