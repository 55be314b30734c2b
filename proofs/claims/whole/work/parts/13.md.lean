def P_X8_in  (r : Int32) : Option Value → mm_W → Prop := fun rv w => rv = some (.int r) ∧ w = []
def X8_in_J14 (fu : Nat)     : Option (Int32) := some ((0 : Int32))
set_option maxHeartbeats 4000000 in
set_option maxRecDepth 100000 in
theorem s_X8_in_J14 {fu : Nat} {r : Int32} (h : X8_in_J14 fu = some r) : mm_Wp mX8_in (mm_R (P_X8_in r)) 0 0 14 [] [] [] := by
  rw [X8_in_J14] at h
  refine mm_iconst dX8_in_14 ki_0 (pc' := 15) rfl ?_
  have h9 := Option.some.inj h
  subst h9
  exact mm_zret rfl (by decide) dX8_in_15 ⟨rfl, rfl⟩
def f_X8_in (fu : Nat) (v0 : Int32) (v1 : Int32) (v2 : Int32) : Option (Int32) := if v0 < v1 then (X8_in_J14 fu) else (if v2 < v0 then (X8_in_J14 fu) else (some ((1 : Int32))))
set_option maxHeartbeats 4000000 in
set_option maxRecDepth 100000 in
theorem ok_X8_in {fu : Nat} {r : Int32} {v0 : Int32} {v1 : Int32} {v2 : Int32} (h : f_X8_in fu v0 v1 v2 = some r) : mm_Ok mX8_in [.int v0, .int v1, .int v2] [] (P_X8_in r) := by
  rw [f_X8_in] at h
  refine mm_Ok.of pn_X8 (l := [(0, .int v0), (1, .int v1), (2, .int v2)]) rfl (Nat.le_of_ble_eq_true rfl) ?_
  refine mm_iload_n 0 dX8_in_0 rfl rfl (pc' := 1) rfl ?_
  refine mm_iload_n 1 dX8_in_1 rfl rfl (pc' := 2) rfl ?_
  refine mm_icmp_lt (tgt := 14) dX8_in_2 (by decide) (pc' := 5) rfl (fun c => ?_) (fun c => ?_)
  · replace h := mm_it h c
    clear c
    exact mm_sub [] rfl (s_X8_in_J14  h)
  · replace h := mm_if h c
    clear c
    refine mm_iload_n 0 dX8_in_5 rfl rfl (pc' := 6) rfl ?_
    refine mm_iload_n 2 dX8_in_6 rfl rfl (pc' := 7) rfl ?_
    refine mm_icmp_gt (tgt := 14) dX8_in_7 (by decide) (pc' := 10) rfl (fun c => ?_) (fun c => ?_)
    · replace h := mm_it h c
      clear c
      exact mm_sub [] rfl (s_X8_in_J14  h)
    · replace h := mm_if h c
      clear c
      refine mm_iconst dX8_in_10 ki_1 (pc' := 11) rfl ?_
      refine mm_goto (tgt := 15) dX8_in_11 (by decide) ?_
      have h9 := Option.some.inj h
      subst h9
      exact mm_zret rfl (by decide) dX8_in_15 ⟨rfl, rfl⟩

def P_X8_told (q_textSize : Int32) (q_cursor : Int32) (q_start : Int32) (q_token : Int32) (q_number : Int32) (q_word : Int64) (q_fault : Int32) (q_line : Int32) (q_foundPains : Int32) (q_foundLine : Int32) (q_deadMany : Int32) (q_deadSize : Int32) (q_deadLeast : Int32) (q_deadMost : Int32) (q_st : Nat → Int32) (q_before : Nat → Int32) (q_kept : Nat → Int32) (q_isKept : Nat → Int32) (q_text : Nat → Int32) (q_ones : Nat → Int32) (q_said : Nat → Int32) (q_readTable : Nat → Int32) (q_least : Nat → Int32) (q_made : Nat → Int32) (q_enough : Nat → Int32) (q_isWanted : Nat → Int32) (q_column : Nat → Int32) (q_foundColumn : Nat → Int32) (q_walls : Nat → Int64) (q_wallMany : Nat → Int32) (q_chosen : Nat → Int32) (r : Int32 × (Nat → Int32)) : Option Value → mm_W → Prop := fun rv w => rv = some (.int r.1) ∧ w = (W_X8 q_textSize q_cursor q_start q_token q_number q_word q_fault q_line q_foundPains q_foundLine q_deadMany q_deadSize q_deadLeast q_deadMost q_st q_before q_kept q_isKept r.2 q_text q_ones q_said q_readTable q_least q_made q_enough q_isWanted q_column q_foundColumn q_walls q_wallMany q_chosen)
def X8_told_J60 (fu : Nat)  (q_refused : Nat → Int32) (v1 : Int32)  : Option (Int32 × (Nat → Int32)) := some (v1, q_refused)
set_option maxHeartbeats 4000000 in
set_option maxRecDepth 100000 in
theorem s_X8_told_J60 {fu : Nat} {q_textSize : Int32} {q_cursor : Int32} {q_start : Int32} {q_token : Int32} {q_number : Int32} {q_word : Int64} {q_fault : Int32} {q_line : Int32} {q_foundPains : Int32} {q_foundLine : Int32} {q_deadMany : Int32} {q_deadSize : Int32} {q_deadLeast : Int32} {q_deadMost : Int32} {q_st : Nat → Int32} {q_before : Nat → Int32} {q_kept : Nat → Int32} {q_isKept : Nat → Int32} {q_refused : Nat → Int32} {q_text : Nat → Int32} {q_ones : Nat → Int32} {q_said : Nat → Int32} {q_readTable : Nat → Int32} {q_least : Nat → Int32} {q_made : Nat → Int32} {q_enough : Nat → Int32} {q_isWanted : Nat → Int32} {q_column : Nat → Int32} {q_foundColumn : Nat → Int32} {q_walls : Nat → Int64} {q_wallMany : Nat → Int32} {q_chosen : Nat → Int32} {r : Int32 × (Nat → Int32)} {v1 : Int32} (h : X8_told_J60 fu q_refused v1 = some r) : mm_Wp mX8_told (mm_R (P_X8_told q_textSize q_cursor q_start q_token q_number q_word q_fault q_line q_foundPains q_foundLine q_deadMany q_deadSize q_deadLeast q_deadMost q_st q_before q_kept q_isKept q_text q_ones q_said q_readTable q_least q_made q_enough q_isWanted q_column q_foundColumn q_walls q_wallMany q_chosen r)) 0 0 60 [(1, .int v1)] [] (W_X8 q_textSize q_cursor q_start q_token q_number q_word q_fault q_line q_foundPains q_foundLine q_deadMany q_deadSize q_deadLeast q_deadMost q_st q_before q_kept q_isKept q_refused q_text q_ones q_said q_readTable q_least q_made q_enough q_isWanted q_column q_foundColumn q_walls q_wallMany q_chosen) := by
  rw [X8_told_J60] at h
  refine mm_iload_n 0 dX8_told_60 rfl rfl (pc' := 61) rfl ?_
  have h9 := Option.some.inj h
  subst h9
  exact mm_iret rfl dX8_told_61 ⟨rfl, rfl⟩
def X8_told_J12 (fu : Nat)  (q_refused : Nat → Int32) (v1 : Int32)  : Option (Int32 × (Nat → Int32)) := X8_told_J60 fu (upd q_refused 0 ((q_refused 0) + (1 : Int32))) v1
set_option maxHeartbeats 4000000 in
set_option maxRecDepth 100000 in
theorem s_X8_told_J12 {fu : Nat} {q_textSize : Int32} {q_cursor : Int32} {q_start : Int32} {q_token : Int32} {q_number : Int32} {q_word : Int64} {q_fault : Int32} {q_line : Int32} {q_foundPains : Int32} {q_foundLine : Int32} {q_deadMany : Int32} {q_deadSize : Int32} {q_deadLeast : Int32} {q_deadMost : Int32} {q_st : Nat → Int32} {q_before : Nat → Int32} {q_kept : Nat → Int32} {q_isKept : Nat → Int32} {q_refused : Nat → Int32} {q_text : Nat → Int32} {q_ones : Nat → Int32} {q_said : Nat → Int32} {q_readTable : Nat → Int32} {q_least : Nat → Int32} {q_made : Nat → Int32} {q_enough : Nat → Int32} {q_isWanted : Nat → Int32} {q_column : Nat → Int32} {q_foundColumn : Nat → Int32} {q_walls : Nat → Int64} {q_wallMany : Nat → Int32} {q_chosen : Nat → Int32} {r : Int32 × (Nat → Int32)} {v1 : Int32} (h : X8_told_J12 fu q_refused v1 = some r) : mm_Wp mX8_told (mm_R (P_X8_told q_textSize q_cursor q_start q_token q_number q_word q_fault q_line q_foundPains q_foundLine q_deadMany q_deadSize q_deadLeast q_deadMost q_st q_before q_kept q_isKept q_text q_ones q_said q_readTable q_least q_made q_enough q_isWanted q_column q_foundColumn q_walls q_wallMany q_chosen r)) 0 0 12 [(0, .ref 0), (1, .int v1)] [] (W_X8 q_textSize q_cursor q_start q_token q_number q_word q_fault q_line q_foundPains q_foundLine q_deadMany q_deadSize q_deadLeast q_deadMost q_st q_before q_kept q_isKept q_refused q_text q_ones q_said q_readTable q_least q_made q_enough q_isWanted q_column q_foundColumn q_walls q_wallMany q_chosen) := by
  rw [X8_told_J12] at h
  refine mm_aload_n 0 dX8_told_12 rfl rfl (pc' := 13) rfl ?_
  refine mm_getf fG_X8_23 dX8_told_13 rfl rfl (pc' := 16) rfl ?_
  refine mm_iconst dX8_told_16 ki_0 (pc' := 17) rfl ?_
  refine mm_dup2 dX8_told_17 rfl rfl (pc' := 18) rfl ?_
  refine mm_iald dX8_told_18 rfl ki_0_3 (congrArg _ kt_0) (pc' := 19) rfl ?_
  refine mm_iconst dX8_told_19 ki_1 (pc' := 20) rfl ?_
  refine mm_iadd dX8_told_20 (pc' := 21) rfl ?_
  refine mm_iast dX8_told_21 rfl ki_0_3 kt_0 (ws' := (W_X8 q_textSize q_cursor q_start q_token q_number q_word q_fault q_line q_foundPains q_foundLine q_deadMany q_deadSize q_deadLeast q_deadMost q_st q_before q_kept q_isKept (upd q_refused 0 ((q_refused 0) + (1 : Int32))) q_text q_ones q_said q_readTable q_least q_made q_enough q_isWanted q_column q_foundColumn q_walls q_wallMany q_chosen)) rfl (pc' := 22) rfl ?_
  refine mm_goto (tgt := 60) dX8_told_22 (by decide) ?_
  exact mm_sub [1] rfl (s_X8_told_J60  h)
def f_X8_told (fu : Nat) (q_refused : Nat → Int32) (v1 : Int32) : Option (Int32 × (Nat → Int32)) := if v1 = (-2 : Int32) then (X8_told_J12 fu q_refused v1) else (if v1 = (-10 : Int32) then (X8_told_J12 fu q_refused v1) else (if v1 = (-3 : Int32) then (X8_told_J60 fu (upd q_refused 1 ((q_refused 1) + (1 : Int32))) v1) else (if v1 = (-4 : Int32) then (X8_told_J60 fu (upd q_refused 2 ((q_refused 2) + (1 : Int32))) v1) else (X8_told_J60 fu q_refused v1))))
set_option maxHeartbeats 4000000 in
set_option maxRecDepth 100000 in
theorem ok_X8_told {fu : Nat} {q_textSize : Int32} {q_cursor : Int32} {q_start : Int32} {q_token : Int32} {q_number : Int32} {q_word : Int64} {q_fault : Int32} {q_line : Int32} {q_foundPains : Int32} {q_foundLine : Int32} {q_deadMany : Int32} {q_deadSize : Int32} {q_deadLeast : Int32} {q_deadMost : Int32} {q_st : Nat → Int32} {q_before : Nat → Int32} {q_kept : Nat → Int32} {q_isKept : Nat → Int32} {q_refused : Nat → Int32} {q_text : Nat → Int32} {q_ones : Nat → Int32} {q_said : Nat → Int32} {q_readTable : Nat → Int32} {q_least : Nat → Int32} {q_made : Nat → Int32} {q_enough : Nat → Int32} {q_isWanted : Nat → Int32} {q_column : Nat → Int32} {q_foundColumn : Nat → Int32} {q_walls : Nat → Int64} {q_wallMany : Nat → Int32} {q_chosen : Nat → Int32} {r : Int32 × (Nat → Int32)} {v1 : Int32} (h : f_X8_told fu q_refused v1 = some r) : mm_Ok mX8_told [.ref 0, .int v1] (W_X8 q_textSize q_cursor q_start q_token q_number q_word q_fault q_line q_foundPains q_foundLine q_deadMany q_deadSize q_deadLeast q_deadMost q_st q_before q_kept q_isKept q_refused q_text q_ones q_said q_readTable q_least q_made q_enough q_isWanted q_column q_foundColumn q_walls q_wallMany q_chosen) (P_X8_told q_textSize q_cursor q_start q_token q_number q_word q_fault q_line q_foundPains q_foundLine q_deadMany q_deadSize q_deadLeast q_deadMost q_st q_before q_kept q_isKept q_text q_ones q_said q_readTable q_least q_made q_enough q_isWanted q_column q_foundColumn q_walls q_wallMany q_chosen r) := by
  rw [f_X8_told] at h
  refine mm_Ok.of pn_X8 (l := [(0, .ref 0), (1, .int v1)]) rfl (Nat.le_of_ble_eq_true rfl) ?_
  refine mm_iload_n 1 dX8_told_0 rfl rfl (pc' := 1) rfl ?_
  refine mm_bipush dX8_told_1 kb_m2 (pc' := 3) rfl ?_
  refine mm_icmp_eq (tgt := 12) dX8_told_3 (by decide) (pc' := 6) rfl (fun c => ?_) (fun c => ?_)
  · replace h := mm_it h c
    clear c
    exact s_X8_told_J12  h
  · replace h := mm_if h c
    clear c
    refine mm_iload_n 1 dX8_told_6 rfl rfl (pc' := 7) rfl ?_
    refine mm_bipush dX8_told_7 kb_m10 (pc' := 9) rfl ?_
    refine mm_icmp_ne (tgt := 25) dX8_told_9 (by decide) (pc' := 12) rfl (fun c => ?_) (fun c => ?_)
    · replace h := mm_if h c
      clear c
      refine mm_iload_n 1 dX8_told_25 rfl rfl (pc' := 26) rfl ?_
      refine mm_bipush dX8_told_26 kb_m3 (pc' := 28) rfl ?_
      refine mm_icmp_ne (tgt := 44) dX8_told_28 (by decide) (pc' := 31) rfl (fun c => ?_) (fun c => ?_)
      · replace h := mm_if h c
        clear c
        refine mm_iload_n 1 dX8_told_44 rfl rfl (pc' := 45) rfl ?_
        refine mm_bipush dX8_told_45 kb_m4 (pc' := 47) rfl ?_
        refine mm_icmp_ne (tgt := 60) dX8_told_47 (by decide) (pc' := 50) rfl (fun c => ?_) (fun c => ?_)
        · replace h := mm_if h c
          clear c
          exact mm_sub [1] rfl (s_X8_told_J60  h)
        · replace h := mm_it h c
          clear c
          refine mm_aload_n 0 dX8_told_50 rfl rfl (pc' := 51) rfl ?_
          refine mm_getf fG_X8_23 dX8_told_51 rfl rfl (pc' := 54) rfl ?_
          refine mm_iconst dX8_told_54 ki_2 (pc' := 55) rfl ?_
          refine mm_dup2 dX8_told_55 rfl rfl (pc' := 56) rfl ?_
          refine mm_iald dX8_told_56 rfl ki_2_3 (congrArg _ kt_2) (pc' := 57) rfl ?_
          refine mm_iconst dX8_told_57 ki_1 (pc' := 58) rfl ?_
          refine mm_iadd dX8_told_58 (pc' := 59) rfl ?_
          refine mm_iast dX8_told_59 rfl ki_2_3 kt_2 (ws' := (W_X8 q_textSize q_cursor q_start q_token q_number q_word q_fault q_line q_foundPains q_foundLine q_deadMany q_deadSize q_deadLeast q_deadMost q_st q_before q_kept q_isKept (upd q_refused 2 ((q_refused 2) + (1 : Int32))) q_text q_ones q_said q_readTable q_least q_made q_enough q_isWanted q_column q_foundColumn q_walls q_wallMany q_chosen)) rfl (pc' := 60) rfl ?_
          exact mm_sub [1] rfl (s_X8_told_J60  h)
      · replace h := mm_it h c
        clear c
        refine mm_aload_n 0 dX8_told_31 rfl rfl (pc' := 32) rfl ?_
        refine mm_getf fG_X8_23 dX8_told_32 rfl rfl (pc' := 35) rfl ?_
        refine mm_iconst dX8_told_35 ki_1 (pc' := 36) rfl ?_
        refine mm_dup2 dX8_told_36 rfl rfl (pc' := 37) rfl ?_
        refine mm_iald dX8_told_37 rfl ki_1_3 (congrArg _ kt_1) (pc' := 38) rfl ?_
        refine mm_iconst dX8_told_38 ki_1 (pc' := 39) rfl ?_
        refine mm_iadd dX8_told_39 (pc' := 40) rfl ?_
        refine mm_iast dX8_told_40 rfl ki_1_3 kt_1 (ws' := (W_X8 q_textSize q_cursor q_start q_token q_number q_word q_fault q_line q_foundPains q_foundLine q_deadMany q_deadSize q_deadLeast q_deadMost q_st q_before q_kept q_isKept (upd q_refused 1 ((q_refused 1) + (1 : Int32))) q_text q_ones q_said q_readTable q_least q_made q_enough q_isWanted q_column q_foundColumn q_walls q_wallMany q_chosen)) rfl (pc' := 41) rfl ?_
        refine mm_goto (tgt := 60) dX8_told_41 (by decide) ?_
        exact mm_sub [1] rfl (s_X8_told_J60  h)
    · replace h := mm_it h c
      clear c
      exact s_X8_told_J12  h

def P_X8_anew (q_textSize : Int32) (q_cursor : Int32) (q_start : Int32) (q_token : Int32) (q_number : Int32) (q_word : Int64) (q_fault : Int32) (q_line : Int32) (q_foundPains : Int32) (q_foundLine : Int32) (q_deadMany : Int32) (q_deadSize : Int32) (q_deadLeast : Int32) (q_deadMost : Int32) (q_before : Nat → Int32) (q_kept : Nat → Int32) (q_isKept : Nat → Int32) (q_refused : Nat → Int32) (q_text : Nat → Int32) (q_ones : Nat → Int32) (q_said : Nat → Int32) (q_readTable : Nat → Int32) (q_least : Nat → Int32) (q_made : Nat → Int32) (q_enough : Nat → Int32) (q_isWanted : Nat → Int32) (q_column : Nat → Int32) (q_foundColumn : Nat → Int32) (q_walls : Nat → Int64) (q_wallMany : Nat → Int32) (q_chosen : Nat → Int32) (r : (Nat → Int32)) : Option Value → mm_W → Prop := fun rv w => rv = none ∧ w = (W_X8 q_textSize q_cursor q_start q_token q_number q_word q_fault q_line q_foundPains q_foundLine q_deadMany q_deadSize q_deadLeast q_deadMost r q_before q_kept q_isKept q_refused q_text q_ones q_said q_readTable q_least q_made q_enough q_isWanted q_column q_foundColumn q_walls q_wallMany q_chosen)
def X8_anew_L24 (fu : Nat)   (v1 : Int32) (v2 : Int32) : Nat → (Nat → Int32) → Int32 → Option ((Nat → Int32))
  | 0, _, _ => none
  | n + 1, q_st, v3 => if (60 : Int32) ≤ v3 then (some (upd (upd q_st 0 v1) 1 v2)) else (mm_ck 354 ((36 : Int32) + v3) ((X8_anew_L24 fu v1 v2 n) (upd q_st ((36 : Int32) + v3).toNatClampNeg (-1 : Int32)) (v3 + (1 : Int32))))
set_option maxHeartbeats 4000000 in
set_option maxRecDepth 100000 in
theorem s_X8_anew_L24 {fu : Nat} {q_textSize : Int32} {q_cursor : Int32} {q_start : Int32} {q_token : Int32} {q_number : Int32} {q_word : Int64} {q_fault : Int32} {q_line : Int32} {q_foundPains : Int32} {q_foundLine : Int32} {q_deadMany : Int32} {q_deadSize : Int32} {q_deadLeast : Int32} {q_deadMost : Int32} {q_before : Nat → Int32} {q_kept : Nat → Int32} {q_isKept : Nat → Int32} {q_refused : Nat → Int32} {q_text : Nat → Int32} {q_ones : Nat → Int32} {q_said : Nat → Int32} {q_readTable : Nat → Int32} {q_least : Nat → Int32} {q_made : Nat → Int32} {q_enough : Nat → Int32} {q_isWanted : Nat → Int32} {q_column : Nat → Int32} {q_foundColumn : Nat → Int32} {q_walls : Nat → Int64} {q_wallMany : Nat → Int32} {q_chosen : Nat → Int32} {r : (Nat → Int32)} {v1 : Int32} {v2 : Int32} : ∀ (n : Nat) (q_st : Nat → Int32) (v3 : Int32), X8_anew_L24 fu v1 v2 n q_st v3 = some r → mm_Wp mX8_anew (mm_R (P_X8_anew q_textSize q_cursor q_start q_token q_number q_word q_fault q_line q_foundPains q_foundLine q_deadMany q_deadSize q_deadLeast q_deadMost q_before q_kept q_isKept q_refused q_text q_ones q_said q_readTable q_least q_made q_enough q_isWanted q_column q_foundColumn q_walls q_wallMany q_chosen r)) 0 0 24 [(0, .ref 0), (1, .int v1), (2, .int v2), (3, .int v3)] [] (W_X8 q_textSize q_cursor q_start q_token q_number q_word q_fault q_line q_foundPains q_foundLine q_deadMany q_deadSize q_deadLeast q_deadMost q_st q_before q_kept q_isKept q_refused q_text q_ones q_said q_readTable q_least q_made q_enough q_isWanted q_column q_foundColumn q_walls q_wallMany q_chosen) := by
  intro n
  induction n with
  | zero =>
    intro q_st v3 h
    rw [X8_anew_L24] at h
    cases h
  | succ n hr24 =>
    intro q_st v3 h
    rw [X8_anew_L24] at h
    refine mm_iload_n 3 dX8_anew_24 rfl rfl (pc' := 25) rfl ?_
    refine mm_bipush dX8_anew_25 kb_60 (pc' := 27) rfl ?_
    refine mm_icmp_ge (tgt := 46) dX8_anew_27 (by decide) (pc' := 30) rfl (fun c => ?_) (fun c => ?_)
    · replace h := mm_it h c
      clear c
      refine mm_aload_n 0 dX8_anew_46 rfl rfl (pc' := 47) rfl ?_
      refine mm_getf fG_X8_7 dX8_anew_47 rfl rfl (pc' := 50) rfl ?_
      refine mm_iconst dX8_anew_50 ki_0 (pc' := 51) rfl ?_
      refine mm_iload_n 1 dX8_anew_51 rfl rfl (pc' := 52) rfl ?_
      refine mm_iast dX8_anew_52 rfl ki_0_354 kt_0 (ws' := (W_X8 q_textSize q_cursor q_start q_token q_number q_word q_fault q_line q_foundPains q_foundLine q_deadMany q_deadSize q_deadLeast q_deadMost (upd q_st 0 v1) q_before q_kept q_isKept q_refused q_text q_ones q_said q_readTable q_least q_made q_enough q_isWanted q_column q_foundColumn q_walls q_wallMany q_chosen)) rfl (pc' := 53) rfl ?_
      refine mm_aload_n 0 dX8_anew_53 rfl rfl (pc' := 54) rfl ?_
      refine mm_getf fG_X8_7 dX8_anew_54 rfl rfl (pc' := 57) rfl ?_
      refine mm_iconst dX8_anew_57 ki_1 (pc' := 58) rfl ?_
      refine mm_iload_n 2 dX8_anew_58 rfl rfl (pc' := 59) rfl ?_
      refine mm_iast dX8_anew_59 rfl ki_1_354 kt_1 (ws' := (W_X8 q_textSize q_cursor q_start q_token q_number q_word q_fault q_line q_foundPains q_foundLine q_deadMany q_deadSize q_deadLeast q_deadMost (upd (upd q_st 0 v1) 1 v2) q_before q_kept q_isKept q_refused q_text q_ones q_said q_readTable q_least q_made q_enough q_isWanted q_column q_foundColumn q_walls q_wallMany q_chosen)) rfl (pc' := 60) rfl ?_
      have h9 := Option.some.inj h
      subst h9
      exact mm_vret rfl dX8_anew_60 ⟨rfl, rfl⟩
    · replace h := mm_if h c
      clear c
      refine mm_aload_n 0 dX8_anew_30 rfl rfl (pc' := 31) rfl ?_
      refine mm_getf fG_X8_7 dX8_anew_31 rfl rfl (pc' := 34) rfl ?_
      refine mm_bipush dX8_anew_34 kb_36 (pc' := 36) rfl ?_
      refine mm_iload_n 3 dX8_anew_36 rfl rfl (pc' := 37) rfl ?_
      refine mm_iadd dX8_anew_37 (pc' := 38) rfl ?_
      refine mm_iconst dX8_anew_38 ki_m1 (pc' := 39) rfl ?_
      obtain ⟨c39, h⟩ := mm_ck_of h
      refine mm_iast dX8_anew_39 rfl c39 rfl (ws' := (W_X8 q_textSize q_cursor q_start q_token q_number q_word q_fault q_line q_foundPains q_foundLine q_deadMany q_deadSize q_deadLeast q_deadMost (upd q_st ((36 : Int32) + v3).toNatClampNeg (-1 : Int32)) q_before q_kept q_isKept q_refused q_text q_ones q_said q_readTable q_least q_made q_enough q_isWanted q_column q_foundColumn q_walls q_wallMany q_chosen)) rfl (pc' := 40) rfl ?_
      clear c39
      refine mm_iinc 3 dX8_anew_40 rfl ki_1 (by decide) (l' := [(3, .int (v3 + (1 : Int32))), (0, .ref 0), (1, .int v1), (2, .int v2)]) rfl (pc' := 43) rfl ?_
      refine mm_goto (tgt := 24) dX8_anew_43 (by decide) ?_
      exact mm_sub [1, 2, 3, 0] rfl (hr24 _ _ h)
def X8_anew_L2 (fu : Nat)   (v1 : Int32) (v2 : Int32) : Nat → (Nat → Int32) → Int32 → Option ((Nat → Int32))
  | 0, _, _ => none
  | n + 1, q_st, v3 => if (354 : Int32) ≤ v3 then (X8_anew_L24 fu v1 v2 fu q_st (0 : Int32)) else (mm_ck 354 v3 ((X8_anew_L2 fu v1 v2 n) (upd q_st v3.toNatClampNeg (0 : Int32)) (v3 + (1 : Int32))))
set_option maxHeartbeats 4000000 in
set_option maxRecDepth 100000 in
theorem s_X8_anew_L2 {fu : Nat} {q_textSize : Int32} {q_cursor : Int32} {q_start : Int32} {q_token : Int32} {q_number : Int32} {q_word : Int64} {q_fault : Int32} {q_line : Int32} {q_foundPains : Int32} {q_foundLine : Int32} {q_deadMany : Int32} {q_deadSize : Int32} {q_deadLeast : Int32} {q_deadMost : Int32} {q_before : Nat → Int32} {q_kept : Nat → Int32} {q_isKept : Nat → Int32} {q_refused : Nat → Int32} {q_text : Nat → Int32} {q_ones : Nat → Int32} {q_said : Nat → Int32} {q_readTable : Nat → Int32} {q_least : Nat → Int32} {q_made : Nat → Int32} {q_enough : Nat → Int32} {q_isWanted : Nat → Int32} {q_column : Nat → Int32} {q_foundColumn : Nat → Int32} {q_walls : Nat → Int64} {q_wallMany : Nat → Int32} {q_chosen : Nat → Int32} {r : (Nat → Int32)} {v1 : Int32} {v2 : Int32} : ∀ (n : Nat) (q_st : Nat → Int32) (v3 : Int32), X8_anew_L2 fu v1 v2 n q_st v3 = some r → mm_Wp mX8_anew (mm_R (P_X8_anew q_textSize q_cursor q_start q_token q_number q_word q_fault q_line q_foundPains q_foundLine q_deadMany q_deadSize q_deadLeast q_deadMost q_before q_kept q_isKept q_refused q_text q_ones q_said q_readTable q_least q_made q_enough q_isWanted q_column q_foundColumn q_walls q_wallMany q_chosen r)) 0 0 2 [(0, .ref 0), (1, .int v1), (2, .int v2), (3, .int v3)] [] (W_X8 q_textSize q_cursor q_start q_token q_number q_word q_fault q_line q_foundPains q_foundLine q_deadMany q_deadSize q_deadLeast q_deadMost q_st q_before q_kept q_isKept q_refused q_text q_ones q_said q_readTable q_least q_made q_enough q_isWanted q_column q_foundColumn q_walls q_wallMany q_chosen) := by
  intro n
  induction n with
  | zero =>
    intro q_st v3 h
    rw [X8_anew_L2] at h
    cases h
  | succ n hr2 =>
    intro q_st v3 h
    rw [X8_anew_L2] at h
    refine mm_iload_n 3 dX8_anew_2 rfl rfl (pc' := 3) rfl ?_
    refine mm_sipush dX8_anew_3 ks_354 (pc' := 6) rfl ?_
    refine mm_icmp_ge (tgt := 22) dX8_anew_6 (by decide) (pc' := 9) rfl (fun c => ?_) (fun c => ?_)
    · replace h := mm_it h c
      clear c
      refine mm_iconst dX8_anew_22 ki_0 (pc' := 23) rfl ?_
      refine mm_istore_n dX8_anew_23 rfl (by decide) (l' := [(3, .int (0 : Int32)), (0, .ref 0), (1, .int v1), (2, .int v2)]) rfl (pc' := 24) rfl ?_
      exact mm_sub [1, 2, 3, 0] rfl (s_X8_anew_L24  _ _ _ h)
    · replace h := mm_if h c
      clear c
      refine mm_aload_n 0 dX8_anew_9 rfl rfl (pc' := 10) rfl ?_
      refine mm_getf fG_X8_7 dX8_anew_10 rfl rfl (pc' := 13) rfl ?_
      refine mm_iload_n 3 dX8_anew_13 rfl rfl (pc' := 14) rfl ?_
      refine mm_iconst dX8_anew_14 ki_0 (pc' := 15) rfl ?_
      obtain ⟨c15, h⟩ := mm_ck_of h
      refine mm_iast dX8_anew_15 rfl c15 rfl (ws' := (W_X8 q_textSize q_cursor q_start q_token q_number q_word q_fault q_line q_foundPains q_foundLine q_deadMany q_deadSize q_deadLeast q_deadMost (upd q_st v3.toNatClampNeg (0 : Int32)) q_before q_kept q_isKept q_refused q_text q_ones q_said q_readTable q_least q_made q_enough q_isWanted q_column q_foundColumn q_walls q_wallMany q_chosen)) rfl (pc' := 16) rfl ?_
      clear c15
      refine mm_iinc 3 dX8_anew_16 rfl ki_1 (by decide) (l' := [(3, .int (v3 + (1 : Int32))), (0, .ref 0), (1, .int v1), (2, .int v2)]) rfl (pc' := 19) rfl ?_
      refine mm_goto (tgt := 2) dX8_anew_19 (by decide) ?_
      exact mm_sub [1, 2, 3, 0] rfl (hr2 _ _ h)
def f_X8_anew (fu : Nat) (q_st : Nat → Int32) (v1 : Int32) (v2 : Int32) : Option ((Nat → Int32)) := X8_anew_L2 fu v1 v2 fu q_st (0 : Int32)
set_option maxHeartbeats 4000000 in
set_option maxRecDepth 100000 in
theorem ok_X8_anew {fu : Nat} {q_textSize : Int32} {q_cursor : Int32} {q_start : Int32} {q_token : Int32} {q_number : Int32} {q_word : Int64} {q_fault : Int32} {q_line : Int32} {q_foundPains : Int32} {q_foundLine : Int32} {q_deadMany : Int32} {q_deadSize : Int32} {q_deadLeast : Int32} {q_deadMost : Int32} {q_st : Nat → Int32} {q_before : Nat → Int32} {q_kept : Nat → Int32} {q_isKept : Nat → Int32} {q_refused : Nat → Int32} {q_text : Nat → Int32} {q_ones : Nat → Int32} {q_said : Nat → Int32} {q_readTable : Nat → Int32} {q_least : Nat → Int32} {q_made : Nat → Int32} {q_enough : Nat → Int32} {q_isWanted : Nat → Int32} {q_column : Nat → Int32} {q_foundColumn : Nat → Int32} {q_walls : Nat → Int64} {q_wallMany : Nat → Int32} {q_chosen : Nat → Int32} {r : (Nat → Int32)} {v1 : Int32} {v2 : Int32} (h : f_X8_anew fu q_st v1 v2 = some r) : mm_Ok mX8_anew [.ref 0, .int v1, .int v2] (W_X8 q_textSize q_cursor q_start q_token q_number q_word q_fault q_line q_foundPains q_foundLine q_deadMany q_deadSize q_deadLeast q_deadMost q_st q_before q_kept q_isKept q_refused q_text q_ones q_said q_readTable q_least q_made q_enough q_isWanted q_column q_foundColumn q_walls q_wallMany q_chosen) (P_X8_anew q_textSize q_cursor q_start q_token q_number q_word q_fault q_line q_foundPains q_foundLine q_deadMany q_deadSize q_deadLeast q_deadMost q_before q_kept q_isKept q_refused q_text q_ones q_said q_readTable q_least q_made q_enough q_isWanted q_column q_foundColumn q_walls q_wallMany q_chosen r) := by
  rw [f_X8_anew] at h
  refine mm_Ok.of pn_X8 (l := [(0, .ref 0), (1, .int v1), (2, .int v2)]) rfl (Nat.le_of_ble_eq_true rfl) ?_
  refine mm_iconst dX8_anew_0 ki_0 (pc' := 1) rfl ?_
  refine mm_istore_n dX8_anew_1 rfl (by decide) (l' := [(3, .int (0 : Int32)), (0, .ref 0), (1, .int v1), (2, .int v2)]) rfl (pc' := 2) rfl ?_
  exact mm_sub [1, 2, 3, 0] rfl (s_X8_anew_L2  _ _ _ h)

def P_X8_isPlace (q_textSize : Int32) (q_cursor : Int32) (q_start : Int32) (q_token : Int32) (q_number : Int32) (q_word : Int64) (q_fault : Int32) (q_line : Int32) (q_foundPains : Int32) (q_foundLine : Int32) (q_deadMany : Int32) (q_deadSize : Int32) (q_deadLeast : Int32) (q_deadMost : Int32) (q_st : Nat → Int32) (q_before : Nat → Int32) (q_kept : Nat → Int32) (q_isKept : Nat → Int32) (q_refused : Nat → Int32) (q_text : Nat → Int32) (q_ones : Nat → Int32) (q_said : Nat → Int32) (q_readTable : Nat → Int32) (q_least : Nat → Int32) (q_made : Nat → Int32) (q_enough : Nat → Int32) (q_isWanted : Nat → Int32) (q_column : Nat → Int32) (q_foundColumn : Nat → Int32) (q_walls : Nat → Int64) (q_wallMany : Nat → Int32) (q_chosen : Nat → Int32) (r : Int32) : Option Value → mm_W → Prop := fun rv w => rv = some (.int r) ∧ w = (W_X8 q_textSize q_cursor q_start q_token q_number q_word q_fault q_line q_foundPains q_foundLine q_deadMany q_deadSize q_deadLeast q_deadMost q_st q_before q_kept q_isKept q_refused q_text q_ones q_said q_readTable q_least q_made q_enough q_isWanted q_column q_foundColumn q_walls q_wallMany q_chosen)
def X8_isPlace_J36 (fu : Nat)  (q_st : Nat → Int32)   : Option (Int32) := some ((0 : Int32))
set_option maxHeartbeats 4000000 in
set_option maxRecDepth 100000 in
theorem s_X8_isPlace_J36 {fu : Nat} {q_textSize : Int32} {q_cursor : Int32} {q_start : Int32} {q_token : Int32} {q_number : Int32} {q_word : Int64} {q_fault : Int32} {q_line : Int32} {q_foundPains : Int32} {q_foundLine : Int32} {q_deadMany : Int32} {q_deadSize : Int32} {q_deadLeast : Int32} {q_deadMost : Int32} {q_st : Nat → Int32} {q_before : Nat → Int32} {q_kept : Nat → Int32} {q_isKept : Nat → Int32} {q_refused : Nat → Int32} {q_text : Nat → Int32} {q_ones : Nat → Int32} {q_said : Nat → Int32} {q_readTable : Nat → Int32} {q_least : Nat → Int32} {q_made : Nat → Int32} {q_enough : Nat → Int32} {q_isWanted : Nat → Int32} {q_column : Nat → Int32} {q_foundColumn : Nat → Int32} {q_walls : Nat → Int64} {q_wallMany : Nat → Int32} {q_chosen : Nat → Int32} {r : Int32} (h : X8_isPlace_J36 fu q_st = some r) : mm_Wp mX8_isPlace (mm_R (P_X8_isPlace q_textSize q_cursor q_start q_token q_number q_word q_fault q_line q_foundPains q_foundLine q_deadMany q_deadSize q_deadLeast q_deadMost q_st q_before q_kept q_isKept q_refused q_text q_ones q_said q_readTable q_least q_made q_enough q_isWanted q_column q_foundColumn q_walls q_wallMany q_chosen r)) 0 0 36 [] [] (W_X8 q_textSize q_cursor q_start q_token q_number q_word q_fault q_line q_foundPains q_foundLine q_deadMany q_deadSize q_deadLeast q_deadMost q_st q_before q_kept q_isKept q_refused q_text q_ones q_said q_readTable q_least q_made q_enough q_isWanted q_column q_foundColumn q_walls q_wallMany q_chosen) := by
  rw [X8_isPlace_J36] at h
  refine mm_iconst dX8_isPlace_36 ki_0 (pc' := 37) rfl ?_
  have h9 := Option.some.inj h
  subst h9
  exact mm_zret rfl (by decide) dX8_isPlace_37 ⟨rfl, rfl⟩
def f_X8_isPlace (fu : Nat) (q_st : Nat → Int32) (v1 : Int32) (v2 : Int32) : Option (Int32) := (f_X8_in fu v1 (0 : Int32) ((q_st 0) - (1 : Int32))).bind fun t10 => if t10 = 0 then (X8_isPlace_J36 fu q_st) else ((f_X8_in fu v2 (0 : Int32) ((q_st 1) - (1 : Int32))).bind fun t26 => if t26 = 0 then (X8_isPlace_J36 fu q_st) else (some ((1 : Int32))))
set_option maxHeartbeats 4000000 in
set_option maxRecDepth 100000 in
theorem ok_X8_isPlace {fu : Nat} {q_textSize : Int32} {q_cursor : Int32} {q_start : Int32} {q_token : Int32} {q_number : Int32} {q_word : Int64} {q_fault : Int32} {q_line : Int32} {q_foundPains : Int32} {q_foundLine : Int32} {q_deadMany : Int32} {q_deadSize : Int32} {q_deadLeast : Int32} {q_deadMost : Int32} {q_st : Nat → Int32} {q_before : Nat → Int32} {q_kept : Nat → Int32} {q_isKept : Nat → Int32} {q_refused : Nat → Int32} {q_text : Nat → Int32} {q_ones : Nat → Int32} {q_said : Nat → Int32} {q_readTable : Nat → Int32} {q_least : Nat → Int32} {q_made : Nat → Int32} {q_enough : Nat → Int32} {q_isWanted : Nat → Int32} {q_column : Nat → Int32} {q_foundColumn : Nat → Int32} {q_walls : Nat → Int64} {q_wallMany : Nat → Int32} {q_chosen : Nat → Int32} {r : Int32} {v1 : Int32} {v2 : Int32} (h : f_X8_isPlace fu q_st v1 v2 = some r) : mm_Ok mX8_isPlace [.ref 0, .int v1, .int v2] (W_X8 q_textSize q_cursor q_start q_token q_number q_word q_fault q_line q_foundPains q_foundLine q_deadMany q_deadSize q_deadLeast q_deadMost q_st q_before q_kept q_isKept q_refused q_text q_ones q_said q_readTable q_least q_made q_enough q_isWanted q_column q_foundColumn q_walls q_wallMany q_chosen) (P_X8_isPlace q_textSize q_cursor q_start q_token q_number q_word q_fault q_line q_foundPains q_foundLine q_deadMany q_deadSize q_deadLeast q_deadMost q_st q_before q_kept q_isKept q_refused q_text q_ones q_said q_readTable q_least q_made q_enough q_isWanted q_column q_foundColumn q_walls q_wallMany q_chosen r) := by
  rw [f_X8_isPlace] at h
  refine mm_Ok.of pn_X8 (l := [(0, .ref 0), (1, .int v1), (2, .int v2)]) rfl (Nat.le_of_ble_eq_true rfl) ?_
  refine mm_iload_n 1 dX8_isPlace_0 rfl rfl (pc' := 1) rfl ?_
  refine mm_iconst dX8_isPlace_1 ki_0 (pc' := 2) rfl ?_
  refine mm_aload_n 0 dX8_isPlace_2 rfl rfl (pc' := 3) rfl ?_
  refine mm_getf fG_X8_7 dX8_isPlace_3 rfl rfl (pc' := 6) rfl ?_
  refine mm_iconst dX8_isPlace_6 ki_0 (pc' := 7) rfl ?_
  refine mm_iald dX8_isPlace_7 rfl ki_0_354 (congrArg _ kt_0) (pc' := 8) rfl ?_
  refine mm_iconst dX8_isPlace_8 ki_1 (pc' := 9) rfl ?_
  refine mm_isub dX8_isPlace_9 (pc' := 10) rfl ?_
  obtain ⟨t10, h10, h⟩ := mm_bd h
  refine mm_callS (As := [.int v1, .int (0 : Int32), .int ((q_st 0) - (1 : Int32))]) (rest := []) (av := [.int v1, .int (0 : Int32), .int ((q_st 0) - (1 : Int32))]) (wc := []) (is := []) cS_X8_70 (ok_X8_in h10) ⟨rfl, rfl, Nat.le_of_ble_eq_true rfl, Nat.le_of_ble_eq_true rfl⟩ dX8_isPlace_10 rfl rfl rfl ⟨rfl, by decide, by decide⟩ (by rintro _ _ ⟨-, rfl⟩; rfl) (Nat.le_of_ble_eq_true rfl) ⟨Nat.le_of_ble_eq_true rfl, Nat.le_of_ble_eq_true rfl⟩ (pc' := 13) rfl ?_
  rintro rv w ⟨rfl, rfl⟩
  show mm_Wp _ _ _ _ 13 [(0, .ref 0), (1, .int v1), (2, .int v2)] [.int t10] (W_X8 q_textSize q_cursor q_start q_token q_number q_word q_fault q_line q_foundPains q_foundLine q_deadMany q_deadSize q_deadLeast q_deadMost q_st q_before q_kept q_isKept q_refused q_text q_ones q_said q_readTable q_least q_made q_enough q_isWanted q_column q_foundColumn q_walls q_wallMany q_chosen)
  clear h10
  refine mm_if_eq (tgt := 36) dX8_isPlace_13 (by decide) (pc' := 16) rfl (fun c => ?_) (fun c => ?_)
  · replace h := mm_it h c
    clear c
    exact mm_sub [] rfl (s_X8_isPlace_J36  h)
  · replace h := mm_if h c
    clear c
    refine mm_iload_n 2 dX8_isPlace_16 rfl rfl (pc' := 17) rfl ?_
    refine mm_iconst dX8_isPlace_17 ki_0 (pc' := 18) rfl ?_
    refine mm_aload_n 0 dX8_isPlace_18 rfl rfl (pc' := 19) rfl ?_
    refine mm_getf fG_X8_7 dX8_isPlace_19 rfl rfl (pc' := 22) rfl ?_
    refine mm_iconst dX8_isPlace_22 ki_1 (pc' := 23) rfl ?_
    refine mm_iald dX8_isPlace_23 rfl ki_1_354 (congrArg _ kt_1) (pc' := 24) rfl ?_
    refine mm_iconst dX8_isPlace_24 ki_1 (pc' := 25) rfl ?_
    refine mm_isub dX8_isPlace_25 (pc' := 26) rfl ?_
    obtain ⟨t26, h26, h⟩ := mm_bd h
    refine mm_callS (As := [.int v2, .int (0 : Int32), .int ((q_st 1) - (1 : Int32))]) (rest := []) (av := [.int v2, .int (0 : Int32), .int ((q_st 1) - (1 : Int32))]) (wc := []) (is := []) cS_X8_70 (ok_X8_in h26) ⟨rfl, rfl, Nat.le_of_ble_eq_true rfl, Nat.le_of_ble_eq_true rfl⟩ dX8_isPlace_26 rfl rfl rfl ⟨rfl, by decide, by decide⟩ (by rintro _ _ ⟨-, rfl⟩; rfl) (Nat.le_of_ble_eq_true rfl) ⟨Nat.le_of_ble_eq_true rfl, Nat.le_of_ble_eq_true rfl⟩ (pc' := 29) rfl ?_
    rintro rv w ⟨rfl, rfl⟩
    show mm_Wp _ _ _ _ 29 [(0, .ref 0), (1, .int v1), (2, .int v2)] [.int t26] (W_X8 q_textSize q_cursor q_start q_token q_number q_word q_fault q_line q_foundPains q_foundLine q_deadMany q_deadSize q_deadLeast q_deadMost q_st q_before q_kept q_isKept q_refused q_text q_ones q_said q_readTable q_least q_made q_enough q_isWanted q_column q_foundColumn q_walls q_wallMany q_chosen)
    clear h26
    refine mm_if_eq (tgt := 36) dX8_isPlace_29 (by decide) (pc' := 32) rfl (fun c => ?_) (fun c => ?_)
    · replace h := mm_it h c
      clear c
      exact mm_sub [] rfl (s_X8_isPlace_J36  h)
    · replace h := mm_if h c
      clear c
      refine mm_iconst dX8_isPlace_32 ki_1 (pc' := 33) rfl ?_
      refine mm_goto (tgt := 37) dX8_isPlace_33 (by decide) ?_
      have h9 := Option.some.inj h
      subst h9
      exact mm_zret rfl (by decide) dX8_isPlace_37 ⟨rfl, rfl⟩

def P_X8_isWindow (q_textSize : Int32) (q_cursor : Int32) (q_start : Int32) (q_token : Int32) (q_number : Int32) (q_word : Int64) (q_fault : Int32) (q_line : Int32) (q_foundPains : Int32) (q_foundLine : Int32) (q_deadMany : Int32) (q_deadSize : Int32) (q_deadLeast : Int32) (q_deadMost : Int32) (q_st : Nat → Int32) (q_before : Nat → Int32) (q_kept : Nat → Int32) (q_isKept : Nat → Int32) (q_refused : Nat → Int32) (q_text : Nat → Int32) (q_ones : Nat → Int32) (q_said : Nat → Int32) (q_readTable : Nat → Int32) (q_least : Nat → Int32) (q_made : Nat → Int32) (q_enough : Nat → Int32) (q_isWanted : Nat → Int32) (q_column : Nat → Int32) (q_foundColumn : Nat → Int32) (q_walls : Nat → Int64) (q_wallMany : Nat → Int32) (q_chosen : Nat → Int32) (r : Int32) : Option Value → mm_W → Prop := fun rv w => rv = some (.int r) ∧ w = (W_X8 q_textSize q_cursor q_start q_token q_number q_word q_fault q_line q_foundPains q_foundLine q_deadMany q_deadSize q_deadLeast q_deadMost q_st q_before q_kept q_isKept q_refused q_text q_ones q_said q_readTable q_least q_made q_enough q_isWanted q_column q_foundColumn q_walls q_wallMany q_chosen)
def X8_isWindow_J23 (fu : Nat)  (q_st : Nat → Int32)   : Option (Int32) := some ((0 : Int32))
set_option maxHeartbeats 4000000 in
set_option maxRecDepth 100000 in
theorem s_X8_isWindow_J23 {fu : Nat} {q_textSize : Int32} {q_cursor : Int32} {q_start : Int32} {q_token : Int32} {q_number : Int32} {q_word : Int64} {q_fault : Int32} {q_line : Int32} {q_foundPains : Int32} {q_foundLine : Int32} {q_deadMany : Int32} {q_deadSize : Int32} {q_deadLeast : Int32} {q_deadMost : Int32} {q_st : Nat → Int32} {q_before : Nat → Int32} {q_kept : Nat → Int32} {q_isKept : Nat → Int32} {q_refused : Nat → Int32} {q_text : Nat → Int32} {q_ones : Nat → Int32} {q_said : Nat → Int32} {q_readTable : Nat → Int32} {q_least : Nat → Int32} {q_made : Nat → Int32} {q_enough : Nat → Int32} {q_isWanted : Nat → Int32} {q_column : Nat → Int32} {q_foundColumn : Nat → Int32} {q_walls : Nat → Int64} {q_wallMany : Nat → Int32} {q_chosen : Nat → Int32} {r : Int32} (h : X8_isWindow_J23 fu q_st = some r) : mm_Wp mX8_isWindow (mm_R (P_X8_isWindow q_textSize q_cursor q_start q_token q_number q_word q_fault q_line q_foundPains q_foundLine q_deadMany q_deadSize q_deadLeast q_deadMost q_st q_before q_kept q_isKept q_refused q_text q_ones q_said q_readTable q_least q_made q_enough q_isWanted q_column q_foundColumn q_walls q_wallMany q_chosen r)) 0 0 23 [] [] (W_X8 q_textSize q_cursor q_start q_token q_number q_word q_fault q_line q_foundPains q_foundLine q_deadMany q_deadSize q_deadLeast q_deadMost q_st q_before q_kept q_isKept q_refused q_text q_ones q_said q_readTable q_least q_made q_enough q_isWanted q_column q_foundColumn q_walls q_wallMany q_chosen) := by
  rw [X8_isWindow_J23] at h
  refine mm_iconst dX8_isWindow_23 ki_0 (pc' := 24) rfl ?_
  have h9 := Option.some.inj h
  subst h9
  exact mm_zret rfl (by decide) dX8_isWindow_24 ⟨rfl, rfl⟩
def f_X8_isWindow (fu : Nat) (q_st : Nat → Int32) (v1 : Int32) : Option (Int32) := if v1 < 0 then (X8_isWindow_J23 fu q_st) else ((f_X8_isPlace fu q_st (v1 - v1 / (12 : Int32) * (12 : Int32)) (v1 / (12 : Int32))).bind fun t13 => if t13 = 0 then (X8_isWindow_J23 fu q_st) else (some ((1 : Int32))))
set_option maxHeartbeats 4000000 in
set_option maxRecDepth 100000 in
theorem ok_X8_isWindow {fu : Nat} {q_textSize : Int32} {q_cursor : Int32} {q_start : Int32} {q_token : Int32} {q_number : Int32} {q_word : Int64} {q_fault : Int32} {q_line : Int32} {q_foundPains : Int32} {q_foundLine : Int32} {q_deadMany : Int32} {q_deadSize : Int32} {q_deadLeast : Int32} {q_deadMost : Int32} {q_st : Nat → Int32} {q_before : Nat → Int32} {q_kept : Nat → Int32} {q_isKept : Nat → Int32} {q_refused : Nat → Int32} {q_text : Nat → Int32} {q_ones : Nat → Int32} {q_said : Nat → Int32} {q_readTable : Nat → Int32} {q_least : Nat → Int32} {q_made : Nat → Int32} {q_enough : Nat → Int32} {q_isWanted : Nat → Int32} {q_column : Nat → Int32} {q_foundColumn : Nat → Int32} {q_walls : Nat → Int64} {q_wallMany : Nat → Int32} {q_chosen : Nat → Int32} {r : Int32} {v1 : Int32} (h : f_X8_isWindow fu q_st v1 = some r) : mm_Ok mX8_isWindow [.ref 0, .int v1] (W_X8 q_textSize q_cursor q_start q_token q_number q_word q_fault q_line q_foundPains q_foundLine q_deadMany q_deadSize q_deadLeast q_deadMost q_st q_before q_kept q_isKept q_refused q_text q_ones q_said q_readTable q_least q_made q_enough q_isWanted q_column q_foundColumn q_walls q_wallMany q_chosen) (P_X8_isWindow q_textSize q_cursor q_start q_token q_number q_word q_fault q_line q_foundPains q_foundLine q_deadMany q_deadSize q_deadLeast q_deadMost q_st q_before q_kept q_isKept q_refused q_text q_ones q_said q_readTable q_least q_made q_enough q_isWanted q_column q_foundColumn q_walls q_wallMany q_chosen r) := by
  rw [f_X8_isWindow] at h
  refine mm_Ok.of pn_X8 (l := [(0, .ref 0), (1, .int v1)]) rfl (Nat.le_of_ble_eq_true rfl) ?_
  refine mm_iload_n 1 dX8_isWindow_0 rfl rfl (pc' := 1) rfl ?_
  refine mm_if_lt (tgt := 23) dX8_isWindow_1 (by decide) (pc' := 4) rfl (fun c => ?_) (fun c => ?_)
  · replace h := mm_it h c
    clear c
    exact mm_sub [] rfl (s_X8_isWindow_J23  h)
  · replace h := mm_if h c
    clear c
    refine mm_aload_n 0 dX8_isWindow_4 rfl rfl (pc' := 5) rfl ?_
    refine mm_iload_n 1 dX8_isWindow_5 rfl rfl (pc' := 6) rfl ?_
    refine mm_bipush dX8_isWindow_6 kb_12 (pc' := 8) rfl ?_
    refine mm_irem dX8_isWindow_8 (by decide) (pc' := 9) rfl ?_
    refine mm_iload_n 1 dX8_isWindow_9 rfl rfl (pc' := 10) rfl ?_
    refine mm_bipush dX8_isWindow_10 kb_12 (pc' := 12) rfl ?_
    refine mm_idiv dX8_isWindow_12 (by decide) (pc' := 13) rfl ?_
    obtain ⟨t13, h13, h⟩ := mm_bd h
    refine mm_call0 (As := [.int (v1 - v1 / (12 : Int32) * (12 : Int32)), .int (v1 / (12 : Int32))]) (rest := []) cV_X8_74 (ok_X8_isPlace h13) ⟨rfl, rfl, Nat.le_of_ble_eq_true rfl, Nat.le_of_ble_eq_true rfl⟩ dX8_isWindow_13 rfl rfl rfl rfl (by rintro _ _ ⟨-, rfl⟩; rfl) (Nat.le_of_ble_eq_true rfl) ⟨Nat.le_of_ble_eq_true rfl, Nat.le_of_ble_eq_true rfl⟩ (pc' := 16) rfl ?_
    rintro rv w ⟨rfl, rfl⟩
    show mm_Wp _ _ _ _ 16 [(0, .ref 0), (1, .int v1)] [.int t13] (W_X8 q_textSize q_cursor q_start q_token q_number q_word q_fault q_line q_foundPains q_foundLine q_deadMany q_deadSize q_deadLeast q_deadMost q_st q_before q_kept q_isKept q_refused q_text q_ones q_said q_readTable q_least q_made q_enough q_isWanted q_column q_foundColumn q_walls q_wallMany q_chosen)
    clear h13
    refine mm_if_eq (tgt := 23) dX8_isWindow_16 (by decide) (pc' := 19) rfl (fun c => ?_) (fun c => ?_)
    · replace h := mm_it h c
      clear c
      exact mm_sub [] rfl (s_X8_isWindow_J23  h)
    · replace h := mm_if h c
      clear c
      refine mm_iconst dX8_isWindow_19 ki_1 (pc' := 20) rfl ?_
      refine mm_goto (tgt := 24) dX8_isWindow_20 (by decide) ?_
      have h9 := Option.some.inj h
      subst h9
      exact mm_zret rfl (by decide) dX8_isWindow_24 ⟨rfl, rfl⟩

def P_X8_isBox (q_textSize : Int32) (q_cursor : Int32) (q_start : Int32) (q_token : Int32) (q_number : Int32) (q_word : Int64) (q_fault : Int32) (q_line : Int32) (q_foundPains : Int32) (q_foundLine : Int32) (q_deadMany : Int32) (q_deadSize : Int32) (q_deadLeast : Int32) (q_deadMost : Int32) (q_st : Nat → Int32) (q_before : Nat → Int32) (q_kept : Nat → Int32) (q_isKept : Nat → Int32) (q_refused : Nat → Int32) (q_text : Nat → Int32) (q_ones : Nat → Int32) (q_said : Nat → Int32) (q_readTable : Nat → Int32) (q_least : Nat → Int32) (q_made : Nat → Int32) (q_enough : Nat → Int32) (q_isWanted : Nat → Int32) (q_column : Nat → Int32) (q_foundColumn : Nat → Int32) (q_walls : Nat → Int64) (q_wallMany : Nat → Int32) (q_chosen : Nat → Int32) (r : Int32) : Option Value → mm_W → Prop := fun rv w => rv = some (.int r) ∧ w = (W_X8 q_textSize q_cursor q_start q_token q_number q_word q_fault q_line q_foundPains q_foundLine q_deadMany q_deadSize q_deadLeast q_deadMost q_st q_before q_kept q_isKept q_refused q_text q_ones q_said q_readTable q_least q_made q_enough q_isWanted q_column q_foundColumn q_walls q_wallMany q_chosen)
def X8_isBox_J31 (fu : Nat)  (q_st : Nat → Int32)   : Option (Int32) := some ((0 : Int32))
set_option maxHeartbeats 4000000 in
set_option maxRecDepth 100000 in
theorem s_X8_isBox_J31 {fu : Nat} {q_textSize : Int32} {q_cursor : Int32} {q_start : Int32} {q_token : Int32} {q_number : Int32} {q_word : Int64} {q_fault : Int32} {q_line : Int32} {q_foundPains : Int32} {q_foundLine : Int32} {q_deadMany : Int32} {q_deadSize : Int32} {q_deadLeast : Int32} {q_deadMost : Int32} {q_st : Nat → Int32} {q_before : Nat → Int32} {q_kept : Nat → Int32} {q_isKept : Nat → Int32} {q_refused : Nat → Int32} {q_text : Nat → Int32} {q_ones : Nat → Int32} {q_said : Nat → Int32} {q_readTable : Nat → Int32} {q_least : Nat → Int32} {q_made : Nat → Int32} {q_enough : Nat → Int32} {q_isWanted : Nat → Int32} {q_column : Nat → Int32} {q_foundColumn : Nat → Int32} {q_walls : Nat → Int64} {q_wallMany : Nat → Int32} {q_chosen : Nat → Int32} {r : Int32} (h : X8_isBox_J31 fu q_st = some r) : mm_Wp mX8_isBox (mm_R (P_X8_isBox q_textSize q_cursor q_start q_token q_number q_word q_fault q_line q_foundPains q_foundLine q_deadMany q_deadSize q_deadLeast q_deadMost q_st q_before q_kept q_isKept q_refused q_text q_ones q_said q_readTable q_least q_made q_enough q_isWanted q_column q_foundColumn q_walls q_wallMany q_chosen r)) 0 0 31 [] [] (W_X8 q_textSize q_cursor q_start q_token q_number q_word q_fault q_line q_foundPains q_foundLine q_deadMany q_deadSize q_deadLeast q_deadMost q_st q_before q_kept q_isKept q_refused q_text q_ones q_said q_readTable q_least q_made q_enough q_isWanted q_column q_foundColumn q_walls q_wallMany q_chosen) := by
  rw [X8_isBox_J31] at h
  refine mm_iconst dX8_isBox_31 ki_0 (pc' := 32) rfl ?_
  have h9 := Option.some.inj h
  subst h9
  exact mm_zret rfl (by decide) dX8_isBox_32 ⟨rfl, rfl⟩
def f_X8_isBox (fu : Nat) (q_st : Nat → Int32) (v1 : Int32) : Option (Int32) := (f_X8_isWindow fu q_st v1).bind fun t2 => if t2 = 0 then (X8_isBox_J31 fu q_st) else ((f_X8_isPlace fu q_st ((v1 - v1 / (12 : Int32) * (12 : Int32)) + (2 : Int32)) ((v1 / (12 : Int32)) + (3 : Int32))).bind fun t21 => if t21 = 0 then (X8_isBox_J31 fu q_st) else (some ((1 : Int32))))
set_option maxHeartbeats 4000000 in
set_option maxRecDepth 100000 in
theorem ok_X8_isBox {fu : Nat} {q_textSize : Int32} {q_cursor : Int32} {q_start : Int32} {q_token : Int32} {q_number : Int32} {q_word : Int64} {q_fault : Int32} {q_line : Int32} {q_foundPains : Int32} {q_foundLine : Int32} {q_deadMany : Int32} {q_deadSize : Int32} {q_deadLeast : Int32} {q_deadMost : Int32} {q_st : Nat → Int32} {q_before : Nat → Int32} {q_kept : Nat → Int32} {q_isKept : Nat → Int32} {q_refused : Nat → Int32} {q_text : Nat → Int32} {q_ones : Nat → Int32} {q_said : Nat → Int32} {q_readTable : Nat → Int32} {q_least : Nat → Int32} {q_made : Nat → Int32} {q_enough : Nat → Int32} {q_isWanted : Nat → Int32} {q_column : Nat → Int32} {q_foundColumn : Nat → Int32} {q_walls : Nat → Int64} {q_wallMany : Nat → Int32} {q_chosen : Nat → Int32} {r : Int32} {v1 : Int32} (h : f_X8_isBox fu q_st v1 = some r) : mm_Ok mX8_isBox [.ref 0, .int v1] (W_X8 q_textSize q_cursor q_start q_token q_number q_word q_fault q_line q_foundPains q_foundLine q_deadMany q_deadSize q_deadLeast q_deadMost q_st q_before q_kept q_isKept q_refused q_text q_ones q_said q_readTable q_least q_made q_enough q_isWanted q_column q_foundColumn q_walls q_wallMany q_chosen) (P_X8_isBox q_textSize q_cursor q_start q_token q_number q_word q_fault q_line q_foundPains q_foundLine q_deadMany q_deadSize q_deadLeast q_deadMost q_st q_before q_kept q_isKept q_refused q_text q_ones q_said q_readTable q_least q_made q_enough q_isWanted q_column q_foundColumn q_walls q_wallMany q_chosen r) := by
  rw [f_X8_isBox] at h
  refine mm_Ok.of pn_X8 (l := [(0, .ref 0), (1, .int v1)]) rfl (Nat.le_of_ble_eq_true rfl) ?_
  refine mm_aload_n 0 dX8_isBox_0 rfl rfl (pc' := 1) rfl ?_
  refine mm_iload_n 1 dX8_isBox_1 rfl rfl (pc' := 2) rfl ?_
  obtain ⟨t2, h2, h⟩ := mm_bd h
  refine mm_call0 (As := [.int v1]) (rest := []) cV_X8_78 (ok_X8_isWindow h2) ⟨rfl, rfl, Nat.le_of_ble_eq_true rfl, Nat.le_of_ble_eq_true rfl⟩ dX8_isBox_2 rfl rfl rfl rfl (by rintro _ _ ⟨-, rfl⟩; rfl) (Nat.le_of_ble_eq_true rfl) ⟨Nat.le_of_ble_eq_true rfl, Nat.le_of_ble_eq_true rfl⟩ (pc' := 5) rfl ?_
  rintro rv w ⟨rfl, rfl⟩
  show mm_Wp _ _ _ _ 5 [(0, .ref 0), (1, .int v1)] [.int t2] (W_X8 q_textSize q_cursor q_start q_token q_number q_word q_fault q_line q_foundPains q_foundLine q_deadMany q_deadSize q_deadLeast q_deadMost q_st q_before q_kept q_isKept q_refused q_text q_ones q_said q_readTable q_least q_made q_enough q_isWanted q_column q_foundColumn q_walls q_wallMany q_chosen)
  clear h2
  refine mm_if_eq (tgt := 31) dX8_isBox_5 (by decide) (pc' := 8) rfl (fun c => ?_) (fun c => ?_)
  · replace h := mm_it h c
    clear c
    exact mm_sub [] rfl (s_X8_isBox_J31  h)
  · replace h := mm_if h c
    clear c
    refine mm_aload_n 0 dX8_isBox_8 rfl rfl (pc' := 9) rfl ?_
    refine mm_iload_n 1 dX8_isBox_9 rfl rfl (pc' := 10) rfl ?_
    refine mm_bipush dX8_isBox_10 kb_12 (pc' := 12) rfl ?_
    refine mm_irem dX8_isBox_12 (by decide) (pc' := 13) rfl ?_
    refine mm_iconst dX8_isBox_13 ki_2 (pc' := 14) rfl ?_
    refine mm_iadd dX8_isBox_14 (pc' := 15) rfl ?_
    refine mm_iload_n 1 dX8_isBox_15 rfl rfl (pc' := 16) rfl ?_
    refine mm_bipush dX8_isBox_16 kb_12 (pc' := 18) rfl ?_
    refine mm_idiv dX8_isBox_18 (by decide) (pc' := 19) rfl ?_
    refine mm_iconst dX8_isBox_19 ki_3 (pc' := 20) rfl ?_
    refine mm_iadd dX8_isBox_20 (pc' := 21) rfl ?_
    obtain ⟨t21, h21, h⟩ := mm_bd h
    refine mm_call0 (As := [.int ((v1 - v1 / (12 : Int32) * (12 : Int32)) + (2 : Int32)), .int ((v1 / (12 : Int32)) + (3 : Int32))]) (rest := []) cV_X8_74 (ok_X8_isPlace h21) ⟨rfl, rfl, Nat.le_of_ble_eq_true rfl, Nat.le_of_ble_eq_true rfl⟩ dX8_isBox_21 rfl rfl rfl rfl (by rintro _ _ ⟨-, rfl⟩; rfl) (Nat.le_of_ble_eq_true rfl) ⟨Nat.le_of_ble_eq_true rfl, Nat.le_of_ble_eq_true rfl⟩ (pc' := 24) rfl ?_
    rintro rv w ⟨rfl, rfl⟩
    show mm_Wp _ _ _ _ 24 [(0, .ref 0), (1, .int v1)] [.int t21] (W_X8 q_textSize q_cursor q_start q_token q_number q_word q_fault q_line q_foundPains q_foundLine q_deadMany q_deadSize q_deadLeast q_deadMost q_st q_before q_kept q_isKept q_refused q_text q_ones q_said q_readTable q_least q_made q_enough q_isWanted q_column q_foundColumn q_walls q_wallMany q_chosen)
    clear h21
    refine mm_if_eq (tgt := 31) dX8_isBox_24 (by decide) (pc' := 27) rfl (fun c => ?_) (fun c => ?_)
    · replace h := mm_it h c
      clear c
      exact mm_sub [] rfl (s_X8_isBox_J31  h)
    · replace h := mm_if h c
      clear c
      refine mm_iconst dX8_isBox_27 ki_1 (pc' := 28) rfl ?_
      refine mm_goto (tgt := 32) dX8_isBox_28 (by decide) ?_
      have h9 := Option.some.inj h
      subst h9
      exact mm_zret rfl (by decide) dX8_isBox_32 ⟨rfl, rfl⟩

def P_X8_isMan (q_textSize : Int32) (q_cursor : Int32) (q_start : Int32) (q_token : Int32) (q_number : Int32) (q_word : Int64) (q_fault : Int32) (q_line : Int32) (q_foundPains : Int32) (q_foundLine : Int32) (q_deadMany : Int32) (q_deadSize : Int32) (q_deadLeast : Int32) (q_deadMost : Int32) (q_st : Nat → Int32) (q_before : Nat → Int32) (q_kept : Nat → Int32) (q_isKept : Nat → Int32) (q_refused : Nat → Int32) (q_text : Nat → Int32) (q_ones : Nat → Int32) (q_said : Nat → Int32) (q_readTable : Nat → Int32) (q_least : Nat → Int32) (q_made : Nat → Int32) (q_enough : Nat → Int32) (q_isWanted : Nat → Int32) (q_column : Nat → Int32) (q_foundColumn : Nat → Int32) (q_walls : Nat → Int64) (q_wallMany : Nat → Int32) (q_chosen : Nat → Int32) (r : Int32) : Option Value → mm_W → Prop := fun rv w => rv = some (.int r) ∧ w = (W_X8 q_textSize q_cursor q_start q_token q_number q_word q_fault q_line q_foundPains q_foundLine q_deadMany q_deadSize q_deadLeast q_deadMost q_st q_before q_kept q_isKept q_refused q_text q_ones q_said q_readTable q_least q_made q_enough q_isWanted q_column q_foundColumn q_walls q_wallMany q_chosen)
def f_X8_isMan (fu : Nat) (q_st : Nat → Int32) (v1 : Int32) : Option (Int32) := (f_X8_in fu v1 (0 : Int32) ((q_st 2) - (1 : Int32))).bind fun t10 => mm_gd (mm_zb t10) (some (t10))
set_option maxHeartbeats 4000000 in
set_option maxRecDepth 100000 in
theorem ok_X8_isMan {fu : Nat} {q_textSize : Int32} {q_cursor : Int32} {q_start : Int32} {q_token : Int32} {q_number : Int32} {q_word : Int64} {q_fault : Int32} {q_line : Int32} {q_foundPains : Int32} {q_foundLine : Int32} {q_deadMany : Int32} {q_deadSize : Int32} {q_deadLeast : Int32} {q_deadMost : Int32} {q_st : Nat → Int32} {q_before : Nat → Int32} {q_kept : Nat → Int32} {q_isKept : Nat → Int32} {q_refused : Nat → Int32} {q_text : Nat → Int32} {q_ones : Nat → Int32} {q_said : Nat → Int32} {q_readTable : Nat → Int32} {q_least : Nat → Int32} {q_made : Nat → Int32} {q_enough : Nat → Int32} {q_isWanted : Nat → Int32} {q_column : Nat → Int32} {q_foundColumn : Nat → Int32} {q_walls : Nat → Int64} {q_wallMany : Nat → Int32} {q_chosen : Nat → Int32} {r : Int32} {v1 : Int32} (h : f_X8_isMan fu q_st v1 = some r) : mm_Ok mX8_isMan [.ref 0, .int v1] (W_X8 q_textSize q_cursor q_start q_token q_number q_word q_fault q_line q_foundPains q_foundLine q_deadMany q_deadSize q_deadLeast q_deadMost q_st q_before q_kept q_isKept q_refused q_text q_ones q_said q_readTable q_least q_made q_enough q_isWanted q_column q_foundColumn q_walls q_wallMany q_chosen) (P_X8_isMan q_textSize q_cursor q_start q_token q_number q_word q_fault q_line q_foundPains q_foundLine q_deadMany q_deadSize q_deadLeast q_deadMost q_st q_before q_kept q_isKept q_refused q_text q_ones q_said q_readTable q_least q_made q_enough q_isWanted q_column q_foundColumn q_walls q_wallMany q_chosen r) := by
  rw [f_X8_isMan] at h
  refine mm_Ok.of pn_X8 (l := [(0, .ref 0), (1, .int v1)]) rfl (Nat.le_of_ble_eq_true rfl) ?_
  refine mm_iload_n 1 dX8_isMan_0 rfl rfl (pc' := 1) rfl ?_
  refine mm_iconst dX8_isMan_1 ki_0 (pc' := 2) rfl ?_
  refine mm_aload_n 0 dX8_isMan_2 rfl rfl (pc' := 3) rfl ?_
  refine mm_getf fG_X8_7 dX8_isMan_3 rfl rfl (pc' := 6) rfl ?_
  refine mm_iconst dX8_isMan_6 ki_2 (pc' := 7) rfl ?_
  refine mm_iald dX8_isMan_7 rfl ki_2_354 (congrArg _ kt_2) (pc' := 8) rfl ?_
  refine mm_iconst dX8_isMan_8 ki_1 (pc' := 9) rfl ?_
  refine mm_isub dX8_isMan_9 (pc' := 10) rfl ?_
  obtain ⟨t10, h10, h⟩ := mm_bd h
  refine mm_callS (As := [.int v1, .int (0 : Int32), .int ((q_st 2) - (1 : Int32))]) (rest := []) (av := [.int v1, .int (0 : Int32), .int ((q_st 2) - (1 : Int32))]) (wc := []) (is := []) cS_X8_70 (ok_X8_in h10) ⟨rfl, rfl, Nat.le_of_ble_eq_true rfl, Nat.le_of_ble_eq_true rfl⟩ dX8_isMan_10 rfl rfl rfl ⟨rfl, by decide, by decide⟩ (by rintro _ _ ⟨-, rfl⟩; rfl) (Nat.le_of_ble_eq_true rfl) ⟨Nat.le_of_ble_eq_true rfl, Nat.le_of_ble_eq_true rfl⟩ (pc' := 13) rfl ?_
  rintro rv w ⟨rfl, rfl⟩
  show mm_Wp _ _ _ _ 13 [(0, .ref 0), (1, .int v1)] [.int t10] (W_X8 q_textSize q_cursor q_start q_token q_number q_word q_fault q_line q_foundPains q_foundLine q_deadMany q_deadSize q_deadLeast q_deadMost q_st q_before q_kept q_isKept q_refused q_text q_ones q_said q_readTable q_least q_made q_enough q_isWanted q_column q_foundColumn q_walls q_wallMany q_chosen)
  clear h10
  obtain ⟨c, h⟩ := mm_gd_of h
  have h9 := Option.some.inj h
  subst h9
  exact mm_zret rfl (mm_zb_of c) dX8_isMan_13 ⟨rfl, rfl⟩

def P_X8_isLetter (q_textSize : Int32) (q_cursor : Int32) (q_start : Int32) (q_token : Int32) (q_number : Int32) (q_word : Int64) (q_fault : Int32) (q_line : Int32) (q_foundPains : Int32) (q_foundLine : Int32) (q_deadMany : Int32) (q_deadSize : Int32) (q_deadLeast : Int32) (q_deadMost : Int32) (q_st : Nat → Int32) (q_before : Nat → Int32) (q_kept : Nat → Int32) (q_isKept : Nat → Int32) (q_refused : Nat → Int32) (q_text : Nat → Int32) (q_ones : Nat → Int32) (q_said : Nat → Int32) (q_readTable : Nat → Int32) (q_least : Nat → Int32) (q_made : Nat → Int32) (q_enough : Nat → Int32) (q_isWanted : Nat → Int32) (q_column : Nat → Int32) (q_foundColumn : Nat → Int32) (q_walls : Nat → Int64) (q_wallMany : Nat → Int32) (q_chosen : Nat → Int32) (r : Int32) : Option Value → mm_W → Prop := fun rv w => rv = some (.int r) ∧ w = (W_X8 q_textSize q_cursor q_start q_token q_number q_word q_fault q_line q_foundPains q_foundLine q_deadMany q_deadSize q_deadLeast q_deadMost q_st q_before q_kept q_isKept q_refused q_text q_ones q_said q_readTable q_least q_made q_enough q_isWanted q_column q_foundColumn q_walls q_wallMany q_chosen)
def f_X8_isLetter (fu : Nat) (q_st : Nat → Int32) (v1 : Int32) : Option (Int32) := (f_X8_in fu v1 (0 : Int32) ((q_st 3) - (1 : Int32))).bind fun t10 => mm_gd (mm_zb t10) (some (t10))
set_option maxHeartbeats 4000000 in
set_option maxRecDepth 100000 in
theorem ok_X8_isLetter {fu : Nat} {q_textSize : Int32} {q_cursor : Int32} {q_start : Int32} {q_token : Int32} {q_number : Int32} {q_word : Int64} {q_fault : Int32} {q_line : Int32} {q_foundPains : Int32} {q_foundLine : Int32} {q_deadMany : Int32} {q_deadSize : Int32} {q_deadLeast : Int32} {q_deadMost : Int32} {q_st : Nat → Int32} {q_before : Nat → Int32} {q_kept : Nat → Int32} {q_isKept : Nat → Int32} {q_refused : Nat → Int32} {q_text : Nat → Int32} {q_ones : Nat → Int32} {q_said : Nat → Int32} {q_readTable : Nat → Int32} {q_least : Nat → Int32} {q_made : Nat → Int32} {q_enough : Nat → Int32} {q_isWanted : Nat → Int32} {q_column : Nat → Int32} {q_foundColumn : Nat → Int32} {q_walls : Nat → Int64} {q_wallMany : Nat → Int32} {q_chosen : Nat → Int32} {r : Int32} {v1 : Int32} (h : f_X8_isLetter fu q_st v1 = some r) : mm_Ok mX8_isLetter [.ref 0, .int v1] (W_X8 q_textSize q_cursor q_start q_token q_number q_word q_fault q_line q_foundPains q_foundLine q_deadMany q_deadSize q_deadLeast q_deadMost q_st q_before q_kept q_isKept q_refused q_text q_ones q_said q_readTable q_least q_made q_enough q_isWanted q_column q_foundColumn q_walls q_wallMany q_chosen) (P_X8_isLetter q_textSize q_cursor q_start q_token q_number q_word q_fault q_line q_foundPains q_foundLine q_deadMany q_deadSize q_deadLeast q_deadMost q_st q_before q_kept q_isKept q_refused q_text q_ones q_said q_readTable q_least q_made q_enough q_isWanted q_column q_foundColumn q_walls q_wallMany q_chosen r) := by
  rw [f_X8_isLetter] at h
  refine mm_Ok.of pn_X8 (l := [(0, .ref 0), (1, .int v1)]) rfl (Nat.le_of_ble_eq_true rfl) ?_
  refine mm_iload_n 1 dX8_isLetter_0 rfl rfl (pc' := 1) rfl ?_
  refine mm_iconst dX8_isLetter_1 ki_0 (pc' := 2) rfl ?_
  refine mm_aload_n 0 dX8_isLetter_2 rfl rfl (pc' := 3) rfl ?_
  refine mm_getf fG_X8_7 dX8_isLetter_3 rfl rfl (pc' := 6) rfl ?_
  refine mm_iconst dX8_isLetter_6 ki_3 (pc' := 7) rfl ?_
  refine mm_iald dX8_isLetter_7 rfl ki_3_354 (congrArg _ kt_3) (pc' := 8) rfl ?_
  refine mm_iconst dX8_isLetter_8 ki_1 (pc' := 9) rfl ?_
  refine mm_isub dX8_isLetter_9 (pc' := 10) rfl ?_
  obtain ⟨t10, h10, h⟩ := mm_bd h
  refine mm_callS (As := [.int v1, .int (0 : Int32), .int ((q_st 3) - (1 : Int32))]) (rest := []) (av := [.int v1, .int (0 : Int32), .int ((q_st 3) - (1 : Int32))]) (wc := []) (is := []) cS_X8_70 (ok_X8_in h10) ⟨rfl, rfl, Nat.le_of_ble_eq_true rfl, Nat.le_of_ble_eq_true rfl⟩ dX8_isLetter_10 rfl rfl rfl ⟨rfl, by decide, by decide⟩ (by rintro _ _ ⟨-, rfl⟩; rfl) (Nat.le_of_ble_eq_true rfl) ⟨Nat.le_of_ble_eq_true rfl, Nat.le_of_ble_eq_true rfl⟩ (pc' := 13) rfl ?_
  rintro rv w ⟨rfl, rfl⟩
  show mm_Wp _ _ _ _ 13 [(0, .ref 0), (1, .int v1)] [.int t10] (W_X8 q_textSize q_cursor q_start q_token q_number q_word q_fault q_line q_foundPains q_foundLine q_deadMany q_deadSize q_deadLeast q_deadMost q_st q_before q_kept q_isKept q_refused q_text q_ones q_said q_readTable q_least q_made q_enough q_isWanted q_column q_foundColumn q_walls q_wallMany q_chosen)
  clear h10
  obtain ⟨c, h⟩ := mm_gd_of h
  have h9 := Option.some.inj h
  subst h9
  exact mm_zret rfl (mm_zb_of c) dX8_isLetter_13 ⟨rfl, rfl⟩

def P_X8_isHour  (r : Int32) : Option Value → mm_W → Prop := fun rv w => rv = some (.int r) ∧ w = []
def f_X8_isHour (fu : Nat) (v0 : Int32) : Option (Int32) := (f_X8_in fu v0 (0 : Int32) (3 : Int32)).bind fun t3 => mm_gd (mm_zb t3) (some (t3))
set_option maxHeartbeats 4000000 in
set_option maxRecDepth 100000 in
theorem ok_X8_isHour {fu : Nat} {r : Int32} {v0 : Int32} (h : f_X8_isHour fu v0 = some r) : mm_Ok mX8_isHour [.int v0] [] (P_X8_isHour r) := by
  rw [f_X8_isHour] at h
  refine mm_Ok.of pn_X8 (l := [(0, .int v0)]) rfl (Nat.le_of_ble_eq_true rfl) ?_
  refine mm_iload_n 0 dX8_isHour_0 rfl rfl (pc' := 1) rfl ?_
  refine mm_iconst dX8_isHour_1 ki_0 (pc' := 2) rfl ?_
  refine mm_iconst dX8_isHour_2 ki_3 (pc' := 3) rfl ?_
  obtain ⟨t3, h3, h⟩ := mm_bd h
  refine mm_callS (As := [.int v0, .int (0 : Int32), .int (3 : Int32)]) (rest := []) (av := [.int v0, .int (0 : Int32), .int (3 : Int32)]) (wc := []) (is := []) cS_X8_70 (ok_X8_in h3) ⟨rfl, rfl, Nat.le_of_ble_eq_true rfl, Nat.le_of_ble_eq_true rfl⟩ dX8_isHour_3 rfl rfl rfl ⟨rfl, by decide, by decide⟩ (by rintro _ _ ⟨-, rfl⟩; rfl) (Nat.le_of_ble_eq_true rfl) ⟨Nat.le_of_ble_eq_true rfl, Nat.le_of_ble_eq_true rfl⟩ (pc' := 6) rfl ?_
  rintro rv w ⟨rfl, rfl⟩
  show mm_Wp _ _ _ _ 6 [(0, .int v0)] [.int t3] []
  clear h3
  obtain ⟨c, h⟩ := mm_gd_of h
  have h9 := Option.some.inj h
  subst h9
  exact mm_zret rfl (mm_zb_of c) dX8_isHour_6 ⟨rfl, rfl⟩

def P_X8_putWall (q_textSize : Int32) (q_cursor : Int32) (q_start : Int32) (q_token : Int32) (q_number : Int32) (q_word : Int64) (q_fault : Int32) (q_line : Int32) (q_foundPains : Int32) (q_foundLine : Int32) (q_deadMany : Int32) (q_deadSize : Int32) (q_deadLeast : Int32) (q_deadMost : Int32) (q_before : Nat → Int32) (q_kept : Nat → Int32) (q_isKept : Nat → Int32) (q_refused : Nat → Int32) (q_text : Nat → Int32) (q_ones : Nat → Int32) (q_said : Nat → Int32) (q_readTable : Nat → Int32) (q_least : Nat → Int32) (q_made : Nat → Int32) (q_enough : Nat → Int32) (q_isWanted : Nat → Int32) (q_column : Nat → Int32) (q_foundColumn : Nat → Int32) (q_walls : Nat → Int64) (q_wallMany : Nat → Int32) (q_chosen : Nat → Int32) (r : Int32 × (Nat → Int32)) : Option Value → mm_W → Prop := fun rv w => rv = some (.int r.1) ∧ w = (W_X8 q_textSize q_cursor q_start q_token q_number q_word q_fault q_line q_foundPains q_foundLine q_deadMany q_deadSize q_deadLeast q_deadMost r.2 q_before q_kept q_isKept q_refused q_text q_ones q_said q_readTable q_least q_made q_enough q_isWanted q_column q_foundColumn q_walls q_wallMany q_chosen)
def X8_putWall_J19 (fu : Nat)  (q_st : Nat → Int32)   : Option (Int32 × (Nat → Int32)) := some ((-2 : Int32), q_st)
set_option maxHeartbeats 4000000 in
set_option maxRecDepth 100000 in
theorem s_X8_putWall_J19 {fu : Nat} {q_textSize : Int32} {q_cursor : Int32} {q_start : Int32} {q_token : Int32} {q_number : Int32} {q_word : Int64} {q_fault : Int32} {q_line : Int32} {q_foundPains : Int32} {q_foundLine : Int32} {q_deadMany : Int32} {q_deadSize : Int32} {q_deadLeast : Int32} {q_deadMost : Int32} {q_st : Nat → Int32} {q_before : Nat → Int32} {q_kept : Nat → Int32} {q_isKept : Nat → Int32} {q_refused : Nat → Int32} {q_text : Nat → Int32} {q_ones : Nat → Int32} {q_said : Nat → Int32} {q_readTable : Nat → Int32} {q_least : Nat → Int32} {q_made : Nat → Int32} {q_enough : Nat → Int32} {q_isWanted : Nat → Int32} {q_column : Nat → Int32} {q_foundColumn : Nat → Int32} {q_walls : Nat → Int64} {q_wallMany : Nat → Int32} {q_chosen : Nat → Int32} {r : Int32 × (Nat → Int32)} (h : X8_putWall_J19 fu q_st = some r) : mm_Wp mX8_putWall (mm_R (P_X8_putWall q_textSize q_cursor q_start q_token q_number q_word q_fault q_line q_foundPains q_foundLine q_deadMany q_deadSize q_deadLeast q_deadMost q_before q_kept q_isKept q_refused q_text q_ones q_said q_readTable q_least q_made q_enough q_isWanted q_column q_foundColumn q_walls q_wallMany q_chosen r)) 0 0 19 [] [] (W_X8 q_textSize q_cursor q_start q_token q_number q_word q_fault q_line q_foundPains q_foundLine q_deadMany q_deadSize q_deadLeast q_deadMost q_st q_before q_kept q_isKept q_refused q_text q_ones q_said q_readTable q_least q_made q_enough q_isWanted q_column q_foundColumn q_walls q_wallMany q_chosen) := by
  rw [X8_putWall_J19] at h
  refine mm_bipush dX8_putWall_19 kb_m2 (pc' := 21) rfl ?_
  have h9 := Option.some.inj h
  subst h9
  exact mm_iret rfl dX8_putWall_21 ⟨rfl, rfl⟩
def f_X8_putWall (fu : Nat) (q_st : Nat → Int32) (v1 : Int32) (v2 : Int32) : Option (Int32 × (Nat → Int32)) := (f_X8_in fu v1 (3 : Int32) (12 : Int32)).bind fun t4 => if t4 = 0 then (X8_putWall_J19 fu q_st) else ((f_X8_in fu v2 (4 : Int32) (5 : Int32)).bind fun t13 => if t13 = 0 then (X8_putWall_J19 fu q_st) else ((f_X8_anew fu q_st v1 v2).bind fun t25 => some ((1 : Int32), t25)))
set_option maxHeartbeats 4000000 in
set_option maxRecDepth 100000 in
theorem ok_X8_putWall {fu : Nat} {q_textSize : Int32} {q_cursor : Int32} {q_start : Int32} {q_token : Int32} {q_number : Int32} {q_word : Int64} {q_fault : Int32} {q_line : Int32} {q_foundPains : Int32} {q_foundLine : Int32} {q_deadMany : Int32} {q_deadSize : Int32} {q_deadLeast : Int32} {q_deadMost : Int32} {q_st : Nat → Int32} {q_before : Nat → Int32} {q_kept : Nat → Int32} {q_isKept : Nat → Int32} {q_refused : Nat → Int32} {q_text : Nat → Int32} {q_ones : Nat → Int32} {q_said : Nat → Int32} {q_readTable : Nat → Int32} {q_least : Nat → Int32} {q_made : Nat → Int32} {q_enough : Nat → Int32} {q_isWanted : Nat → Int32} {q_column : Nat → Int32} {q_foundColumn : Nat → Int32} {q_walls : Nat → Int64} {q_wallMany : Nat → Int32} {q_chosen : Nat → Int32} {r : Int32 × (Nat → Int32)} {v1 : Int32} {v2 : Int32} (h : f_X8_putWall fu q_st v1 v2 = some r) : mm_Ok mX8_putWall [.ref 0, .int v1, .int v2] (W_X8 q_textSize q_cursor q_start q_token q_number q_word q_fault q_line q_foundPains q_foundLine q_deadMany q_deadSize q_deadLeast q_deadMost q_st q_before q_kept q_isKept q_refused q_text q_ones q_said q_readTable q_least q_made q_enough q_isWanted q_column q_foundColumn q_walls q_wallMany q_chosen) (P_X8_putWall q_textSize q_cursor q_start q_token q_number q_word q_fault q_line q_foundPains q_foundLine q_deadMany q_deadSize q_deadLeast q_deadMost q_before q_kept q_isKept q_refused q_text q_ones q_said q_readTable q_least q_made q_enough q_isWanted q_column q_foundColumn q_walls q_wallMany q_chosen r) := by
  rw [f_X8_putWall] at h
  refine mm_Ok.of pn_X8 (l := [(0, .ref 0), (1, .int v1), (2, .int v2)]) rfl (Nat.le_of_ble_eq_true rfl) ?_
  refine mm_iload_n 1 dX8_putWall_0 rfl rfl (pc' := 1) rfl ?_
  refine mm_iconst dX8_putWall_1 ki_3 (pc' := 2) rfl ?_
  refine mm_bipush dX8_putWall_2 kb_12 (pc' := 4) rfl ?_
  obtain ⟨t4, h4, h⟩ := mm_bd h
  refine mm_callS (As := [.int v1, .int (3 : Int32), .int (12 : Int32)]) (rest := []) (av := [.int v1, .int (3 : Int32), .int (12 : Int32)]) (wc := []) (is := []) cS_X8_70 (ok_X8_in h4) ⟨rfl, rfl, Nat.le_of_ble_eq_true rfl, Nat.le_of_ble_eq_true rfl⟩ dX8_putWall_4 rfl rfl rfl ⟨rfl, by decide, by decide⟩ (by rintro _ _ ⟨-, rfl⟩; rfl) (Nat.le_of_ble_eq_true rfl) ⟨Nat.le_of_ble_eq_true rfl, Nat.le_of_ble_eq_true rfl⟩ (pc' := 7) rfl ?_
  rintro rv w ⟨rfl, rfl⟩
  show mm_Wp _ _ _ _ 7 [(0, .ref 0), (1, .int v1), (2, .int v2)] [.int t4] (W_X8 q_textSize q_cursor q_start q_token q_number q_word q_fault q_line q_foundPains q_foundLine q_deadMany q_deadSize q_deadLeast q_deadMost q_st q_before q_kept q_isKept q_refused q_text q_ones q_said q_readTable q_least q_made q_enough q_isWanted q_column q_foundColumn q_walls q_wallMany q_chosen)
  clear h4
  refine mm_if_eq (tgt := 19) dX8_putWall_7 (by decide) (pc' := 10) rfl (fun c => ?_) (fun c => ?_)
  · replace h := mm_it h c
    clear c
    exact mm_sub [] rfl (s_X8_putWall_J19  h)
  · replace h := mm_if h c
    clear c
    refine mm_iload_n 2 dX8_putWall_10 rfl rfl (pc' := 11) rfl ?_
    refine mm_iconst dX8_putWall_11 ki_4 (pc' := 12) rfl ?_
    refine mm_iconst dX8_putWall_12 ki_5 (pc' := 13) rfl ?_
    obtain ⟨t13, h13, h⟩ := mm_bd h
    refine mm_callS (As := [.int v2, .int (4 : Int32), .int (5 : Int32)]) (rest := []) (av := [.int v2, .int (4 : Int32), .int (5 : Int32)]) (wc := []) (is := []) cS_X8_70 (ok_X8_in h13) ⟨rfl, rfl, Nat.le_of_ble_eq_true rfl, Nat.le_of_ble_eq_true rfl⟩ dX8_putWall_13 rfl rfl rfl ⟨rfl, by decide, by decide⟩ (by rintro _ _ ⟨-, rfl⟩; rfl) (Nat.le_of_ble_eq_true rfl) ⟨Nat.le_of_ble_eq_true rfl, Nat.le_of_ble_eq_true rfl⟩ (pc' := 16) rfl ?_
    rintro rv w ⟨rfl, rfl⟩
    show mm_Wp _ _ _ _ 16 [(0, .ref 0), (1, .int v1), (2, .int v2)] [.int t13] (W_X8 q_textSize q_cursor q_start q_token q_number q_word q_fault q_line q_foundPains q_foundLine q_deadMany q_deadSize q_deadLeast q_deadMost q_st q_before q_kept q_isKept q_refused q_text q_ones q_said q_readTable q_least q_made q_enough q_isWanted q_column q_foundColumn q_walls q_wallMany q_chosen)
    clear h13
    refine mm_if_ne (tgt := 22) dX8_putWall_16 (by decide) (pc' := 19) rfl (fun c => ?_) (fun c => ?_)
    · replace h := mm_if h c
      clear c
      refine mm_aload_n 0 dX8_putWall_22 rfl rfl (pc' := 23) rfl ?_
      refine mm_iload_n 1 dX8_putWall_23 rfl rfl (pc' := 24) rfl ?_
      refine mm_iload_n 2 dX8_putWall_24 rfl rfl (pc' := 25) rfl ?_
      obtain ⟨t25, h25, h⟩ := mm_bd h
      refine mm_call0 (As := [.int v1, .int v2]) (rest := []) cV_X8_66 (ok_X8_anew h25) ⟨rfl, rfl, Nat.le_of_ble_eq_true rfl, Nat.le_of_ble_eq_true rfl⟩ dX8_putWall_25 rfl rfl rfl rfl (by rintro _ _ ⟨-, rfl⟩; rfl) (Nat.le_of_ble_eq_true rfl) ⟨Nat.le_of_ble_eq_true rfl, Nat.le_of_ble_eq_true rfl⟩ (pc' := 28) rfl ?_
      rintro rv w ⟨rfl, rfl⟩
      show mm_Wp _ _ _ _ 28 [(0, .ref 0), (1, .int v1), (2, .int v2)] [] (W_X8 q_textSize q_cursor q_start q_token q_number q_word q_fault q_line q_foundPains q_foundLine q_deadMany q_deadSize q_deadLeast q_deadMost t25 q_before q_kept q_isKept q_refused q_text q_ones q_said q_readTable q_least q_made q_enough q_isWanted q_column q_foundColumn q_walls q_wallMany q_chosen)
      clear h25
      refine mm_iconst dX8_putWall_28 ki_1 (pc' := 29) rfl ?_
      have h9 := Option.some.inj h
      subst h9
      exact mm_iret rfl dX8_putWall_29 ⟨rfl, rfl⟩
    · replace h := mm_it h c
      clear c
      exact mm_sub [] rfl (s_X8_putWall_J19  h)

def P_X8_putMan (q_textSize : Int32) (q_cursor : Int32) (q_start : Int32) (q_token : Int32) (q_number : Int32) (q_word : Int64) (q_fault : Int32) (q_line : Int32) (q_foundPains : Int32) (q_foundLine : Int32) (q_deadMany : Int32) (q_deadSize : Int32) (q_deadLeast : Int32) (q_deadMost : Int32) (q_before : Nat → Int32) (q_kept : Nat → Int32) (q_isKept : Nat → Int32) (q_refused : Nat → Int32) (q_text : Nat → Int32) (q_ones : Nat → Int32) (q_said : Nat → Int32) (q_readTable : Nat → Int32) (q_least : Nat → Int32) (q_made : Nat → Int32) (q_enough : Nat → Int32) (q_isWanted : Nat → Int32) (q_column : Nat → Int32) (q_foundColumn : Nat → Int32) (q_walls : Nat → Int64) (q_wallMany : Nat → Int32) (q_chosen : Nat → Int32) (r : Int32 × (Nat → Int32)) : Option Value → mm_W → Prop := fun rv w => rv = some (.int r.1) ∧ w = (W_X8 q_textSize q_cursor q_start q_token q_number q_word q_fault q_line q_foundPains q_foundLine q_deadMany q_deadSize q_deadLeast q_deadMost r.2 q_before q_kept q_isKept q_refused q_text q_ones q_said q_readTable q_least q_made q_enough q_isWanted q_column q_foundColumn q_walls q_wallMany q_chosen)
def X8_putMan_J29 (fu : Nat)  (q_st : Nat → Int32)   : Option (Int32 × (Nat → Int32)) := some ((-2 : Int32), q_st)
set_option maxHeartbeats 4000000 in
set_option maxRecDepth 100000 in
theorem s_X8_putMan_J29 {fu : Nat} {q_textSize : Int32} {q_cursor : Int32} {q_start : Int32} {q_token : Int32} {q_number : Int32} {q_word : Int64} {q_fault : Int32} {q_line : Int32} {q_foundPains : Int32} {q_foundLine : Int32} {q_deadMany : Int32} {q_deadSize : Int32} {q_deadLeast : Int32} {q_deadMost : Int32} {q_st : Nat → Int32} {q_before : Nat → Int32} {q_kept : Nat → Int32} {q_isKept : Nat → Int32} {q_refused : Nat → Int32} {q_text : Nat → Int32} {q_ones : Nat → Int32} {q_said : Nat → Int32} {q_readTable : Nat → Int32} {q_least : Nat → Int32} {q_made : Nat → Int32} {q_enough : Nat → Int32} {q_isWanted : Nat → Int32} {q_column : Nat → Int32} {q_foundColumn : Nat → Int32} {q_walls : Nat → Int64} {q_wallMany : Nat → Int32} {q_chosen : Nat → Int32} {r : Int32 × (Nat → Int32)} (h : X8_putMan_J29 fu q_st = some r) : mm_Wp mX8_putMan (mm_R (P_X8_putMan q_textSize q_cursor q_start q_token q_number q_word q_fault q_line q_foundPains q_foundLine q_deadMany q_deadSize q_deadLeast q_deadMost q_before q_kept q_isKept q_refused q_text q_ones q_said q_readTable q_least q_made q_enough q_isWanted q_column q_foundColumn q_walls q_wallMany q_chosen r)) 0 0 29 [] [] (W_X8 q_textSize q_cursor q_start q_token q_number q_word q_fault q_line q_foundPains q_foundLine q_deadMany q_deadSize q_deadLeast q_deadMost q_st q_before q_kept q_isKept q_refused q_text q_ones q_said q_readTable q_least q_made q_enough q_isWanted q_column q_foundColumn q_walls q_wallMany q_chosen) := by
  rw [X8_putMan_J29] at h
  refine mm_bipush dX8_putMan_29 kb_m2 (pc' := 31) rfl ?_
  have h9 := Option.some.inj h
  subst h9
  exact mm_iret rfl dX8_putMan_31 ⟨rfl, rfl⟩
def f_X8_putMan (fu : Nat) (q_st : Nat → Int32) (v1 : Int32) (v2 : Int32) (v3 : Int32) : Option (Int32 × (Nat → Int32)) := (f_X8_in fu v1 (0 : Int32) (5 : Int32)).bind fun t3 => if t3 = 0 then (X8_putMan_J29 fu q_st) else ((f_X8_in fu v2 (0 : Int32) (9 : Int32)).bind fun t13 => if t13 = 0 then (X8_putMan_J29 fu q_st) else ((f_X8_in fu v3 (0 : Int32) (99 : Int32)).bind fun t23 => if t23 = 0 then (X8_putMan_J29 fu q_st) else (if (q_st 2) = (6 : Int32) then (some ((-4 : Int32), q_st)) else (mm_let ((6 : Int32) + ((4 : Int32) * (q_st 2))) fun y57 => mm_ck 354 y57 (mm_ck 354 (y57 + (1 : Int32)) (mm_ck 354 (y57 + (2 : Int32)) (mm_ck 354 (y57 + (3 : Int32)) (some ((((upd (upd (upd (upd (upd q_st y57.toNatClampNeg v1) (y57 + (1 : Int32)).toNatClampNeg v2) (y57 + (2 : Int32)).toNatClampNeg v3) (y57 + (3 : Int32)).toNatClampNeg (-1 : Int32)) 2 (((upd (upd (upd (upd q_st y57.toNatClampNeg v1) (y57 + (1 : Int32)).toNatClampNeg v2) (y57 + (2 : Int32)).toNatClampNeg v3) (y57 + (3 : Int32)).toNatClampNeg (-1 : Int32)) 2) + (1 : Int32))) 2) - (1 : Int32)), upd (upd (upd (upd (upd q_st y57.toNatClampNeg v1) (y57 + (1 : Int32)).toNatClampNeg v2) (y57 + (2 : Int32)).toNatClampNeg v3) (y57 + (3 : Int32)).toNatClampNeg (-1 : Int32)) 2 (((upd (upd (upd (upd q_st y57.toNatClampNeg v1) (y57 + (1 : Int32)).toNatClampNeg v2) (y57 + (2 : Int32)).toNatClampNeg v3) (y57 + (3 : Int32)).toNatClampNeg (-1 : Int32)) 2) + (1 : Int32)))))))))))
set_option maxHeartbeats 4000000 in
set_option maxRecDepth 100000 in
theorem ok_X8_putMan {fu : Nat} {q_textSize : Int32} {q_cursor : Int32} {q_start : Int32} {q_token : Int32} {q_number : Int32} {q_word : Int64} {q_fault : Int32} {q_line : Int32} {q_foundPains : Int32} {q_foundLine : Int32} {q_deadMany : Int32} {q_deadSize : Int32} {q_deadLeast : Int32} {q_deadMost : Int32} {q_st : Nat → Int32} {q_before : Nat → Int32} {q_kept : Nat → Int32} {q_isKept : Nat → Int32} {q_refused : Nat → Int32} {q_text : Nat → Int32} {q_ones : Nat → Int32} {q_said : Nat → Int32} {q_readTable : Nat → Int32} {q_least : Nat → Int32} {q_made : Nat → Int32} {q_enough : Nat → Int32} {q_isWanted : Nat → Int32} {q_column : Nat → Int32} {q_foundColumn : Nat → Int32} {q_walls : Nat → Int64} {q_wallMany : Nat → Int32} {q_chosen : Nat → Int32} {r : Int32 × (Nat → Int32)} {v1 : Int32} {v2 : Int32} {v3 : Int32} (h : f_X8_putMan fu q_st v1 v2 v3 = some r) : mm_Ok mX8_putMan [.ref 0, .int v1, .int v2, .int v3] (W_X8 q_textSize q_cursor q_start q_token q_number q_word q_fault q_line q_foundPains q_foundLine q_deadMany q_deadSize q_deadLeast q_deadMost q_st q_before q_kept q_isKept q_refused q_text q_ones q_said q_readTable q_least q_made q_enough q_isWanted q_column q_foundColumn q_walls q_wallMany q_chosen) (P_X8_putMan q_textSize q_cursor q_start q_token q_number q_word q_fault q_line q_foundPains q_foundLine q_deadMany q_deadSize q_deadLeast q_deadMost q_before q_kept q_isKept q_refused q_text q_ones q_said q_readTable q_least q_made q_enough q_isWanted q_column q_foundColumn q_walls q_wallMany q_chosen r) := by
  rw [f_X8_putMan] at h
  refine mm_Ok.of pn_X8 (l := [(0, .ref 0), (1, .int v1), (2, .int v2), (3, .int v3)]) rfl (Nat.le_of_ble_eq_true rfl) ?_
  refine mm_iload_n 1 dX8_putMan_0 rfl rfl (pc' := 1) rfl ?_
  refine mm_iconst dX8_putMan_1 ki_0 (pc' := 2) rfl ?_
  refine mm_iconst dX8_putMan_2 ki_5 (pc' := 3) rfl ?_
  obtain ⟨t3, h3, h⟩ := mm_bd h
  refine mm_callS (As := [.int v1, .int (0 : Int32), .int (5 : Int32)]) (rest := []) (av := [.int v1, .int (0 : Int32), .int (5 : Int32)]) (wc := []) (is := []) cS_X8_70 (ok_X8_in h3) ⟨rfl, rfl, Nat.le_of_ble_eq_true rfl, Nat.le_of_ble_eq_true rfl⟩ dX8_putMan_3 rfl rfl rfl ⟨rfl, by decide, by decide⟩ (by rintro _ _ ⟨-, rfl⟩; rfl) (Nat.le_of_ble_eq_true rfl) ⟨Nat.le_of_ble_eq_true rfl, Nat.le_of_ble_eq_true rfl⟩ (pc' := 6) rfl ?_
  rintro rv w ⟨rfl, rfl⟩
  show mm_Wp _ _ _ _ 6 [(0, .ref 0), (1, .int v1), (2, .int v2), (3, .int v3)] [.int t3] (W_X8 q_textSize q_cursor q_start q_token q_number q_word q_fault q_line q_foundPains q_foundLine q_deadMany q_deadSize q_deadLeast q_deadMost q_st q_before q_kept q_isKept q_refused q_text q_ones q_said q_readTable q_least q_made q_enough q_isWanted q_column q_foundColumn q_walls q_wallMany q_chosen)
  clear h3
  refine mm_if_eq (tgt := 29) dX8_putMan_6 (by decide) (pc' := 9) rfl (fun c => ?_) (fun c => ?_)
  · replace h := mm_it h c
    clear c
    exact mm_sub [] rfl (s_X8_putMan_J29  h)
  · replace h := mm_if h c
    clear c
    refine mm_iload_n 2 dX8_putMan_9 rfl rfl (pc' := 10) rfl ?_
    refine mm_iconst dX8_putMan_10 ki_0 (pc' := 11) rfl ?_
    refine mm_bipush dX8_putMan_11 kb_9 (pc' := 13) rfl ?_
    obtain ⟨t13, h13, h⟩ := mm_bd h
    refine mm_callS (As := [.int v2, .int (0 : Int32), .int (9 : Int32)]) (rest := []) (av := [.int v2, .int (0 : Int32), .int (9 : Int32)]) (wc := []) (is := []) cS_X8_70 (ok_X8_in h13) ⟨rfl, rfl, Nat.le_of_ble_eq_true rfl, Nat.le_of_ble_eq_true rfl⟩ dX8_putMan_13 rfl rfl rfl ⟨rfl, by decide, by decide⟩ (by rintro _ _ ⟨-, rfl⟩; rfl) (Nat.le_of_ble_eq_true rfl) ⟨Nat.le_of_ble_eq_true rfl, Nat.le_of_ble_eq_true rfl⟩ (pc' := 16) rfl ?_
    rintro rv w ⟨rfl, rfl⟩
    show mm_Wp _ _ _ _ 16 [(0, .ref 0), (1, .int v1), (2, .int v2), (3, .int v3)] [.int t13] (W_X8 q_textSize q_cursor q_start q_token q_number q_word q_fault q_line q_foundPains q_foundLine q_deadMany q_deadSize q_deadLeast q_deadMost q_st q_before q_kept q_isKept q_refused q_text q_ones q_said q_readTable q_least q_made q_enough q_isWanted q_column q_foundColumn q_walls q_wallMany q_chosen)
    clear h13
    refine mm_if_eq (tgt := 29) dX8_putMan_16 (by decide) (pc' := 19) rfl (fun c => ?_) (fun c => ?_)
    · replace h := mm_it h c
      clear c
      exact mm_sub [] rfl (s_X8_putMan_J29  h)
    · replace h := mm_if h c
      clear c
      refine mm_iload_n 3 dX8_putMan_19 rfl rfl (pc' := 20) rfl ?_
      refine mm_iconst dX8_putMan_20 ki_0 (pc' := 21) rfl ?_
      refine mm_bipush dX8_putMan_21 kb_99 (pc' := 23) rfl ?_
      obtain ⟨t23, h23, h⟩ := mm_bd h
      refine mm_callS (As := [.int v3, .int (0 : Int32), .int (99 : Int32)]) (rest := []) (av := [.int v3, .int (0 : Int32), .int (99 : Int32)]) (wc := []) (is := []) cS_X8_70 (ok_X8_in h23) ⟨rfl, rfl, Nat.le_of_ble_eq_true rfl, Nat.le_of_ble_eq_true rfl⟩ dX8_putMan_23 rfl rfl rfl ⟨rfl, by decide, by decide⟩ (by rintro _ _ ⟨-, rfl⟩; rfl) (Nat.le_of_ble_eq_true rfl) ⟨Nat.le_of_ble_eq_true rfl, Nat.le_of_ble_eq_true rfl⟩ (pc' := 26) rfl ?_
      rintro rv w ⟨rfl, rfl⟩
      show mm_Wp _ _ _ _ 26 [(0, .ref 0), (1, .int v1), (2, .int v2), (3, .int v3)] [.int t23] (W_X8 q_textSize q_cursor q_start q_token q_number q_word q_fault q_line q_foundPains q_foundLine q_deadMany q_deadSize q_deadLeast q_deadMost q_st q_before q_kept q_isKept q_refused q_text q_ones q_said q_readTable q_least q_made q_enough q_isWanted q_column q_foundColumn q_walls q_wallMany q_chosen)
      clear h23
      refine mm_if_ne (tgt := 32) dX8_putMan_26 (by decide) (pc' := 29) rfl (fun c => ?_) (fun c => ?_)
      · replace h := mm_if h c
        clear c
        refine mm_aload_n 0 dX8_putMan_32 rfl rfl (pc' := 33) rfl ?_
        refine mm_getf fG_X8_7 dX8_putMan_33 rfl rfl (pc' := 36) rfl ?_
        refine mm_iconst dX8_putMan_36 ki_2 (pc' := 37) rfl ?_
        refine mm_iald dX8_putMan_37 rfl ki_2_354 (congrArg _ kt_2) (pc' := 38) rfl ?_
        refine mm_bipush dX8_putMan_38 kb_6 (pc' := 40) rfl ?_
        refine mm_icmp_ne (tgt := 46) dX8_putMan_40 (by decide) (pc' := 43) rfl (fun c => ?_) (fun c => ?_)
        · replace h := mm_if h c
          clear c
          refine mm_bipush dX8_putMan_46 kb_6 (pc' := 48) rfl ?_
          refine mm_iconst dX8_putMan_48 ki_4 (pc' := 49) rfl ?_
          refine mm_aload_n 0 dX8_putMan_49 rfl rfl (pc' := 50) rfl ?_
          refine mm_getf fG_X8_7 dX8_putMan_50 rfl rfl (pc' := 53) rfl ?_
          refine mm_iconst dX8_putMan_53 ki_2 (pc' := 54) rfl ?_
          refine mm_iald dX8_putMan_54 rfl ki_2_354 (congrArg _ kt_2) (pc' := 55) rfl ?_
          refine mm_imul dX8_putMan_55 (pc' := 56) rfl ?_
          refine mm_iadd dX8_putMan_56 (pc' := 57) rfl ?_
          refine mm_topi (fun y57 e => ?_)
          replace h := mm_let_of h y57 e
          clear e
          refine mm_istore dX8_putMan_57 (by decide) (l' := [(4, .int y57), (0, .ref 0), (1, .int v1), (2, .int v2), (3, .int v3)]) rfl (pc' := 59) rfl ?_
          refine mm_aload_n 1 dX8_putMan_59 rfl rfl (pc' := 60) rfl ?_
          refine mm_getf fG_X8_7 dX8_putMan_60 rfl rfl (pc' := 63) rfl ?_
          refine mm_iload 0 dX8_putMan_63 rfl (pc' := 65) rfl ?_
          refine mm_iload_n 2 dX8_putMan_65 rfl rfl (pc' := 66) rfl ?_
          obtain ⟨c66, h⟩ := mm_ck_of h
          refine mm_iast dX8_putMan_66 rfl c66 rfl (ws' := (W_X8 q_textSize q_cursor q_start q_token q_number q_word q_fault q_line q_foundPains q_foundLine q_deadMany q_deadSize q_deadLeast q_deadMost (upd q_st y57.toNatClampNeg v1) q_before q_kept q_isKept q_refused q_text q_ones q_said q_readTable q_least q_made q_enough q_isWanted q_column q_foundColumn q_walls q_wallMany q_chosen)) rfl (pc' := 67) rfl ?_
          clear c66
          refine mm_aload_n 1 dX8_putMan_67 rfl rfl (pc' := 68) rfl ?_
          refine mm_getf fG_X8_7 dX8_putMan_68 rfl rfl (pc' := 71) rfl ?_
          refine mm_iload 0 dX8_putMan_71 rfl (pc' := 73) rfl ?_
          refine mm_iconst dX8_putMan_73 ki_1 (pc' := 74) rfl ?_
          refine mm_iadd dX8_putMan_74 (pc' := 75) rfl ?_
          refine mm_iload_n 3 dX8_putMan_75 rfl rfl (pc' := 76) rfl ?_
          obtain ⟨c76, h⟩ := mm_ck_of h
          refine mm_iast dX8_putMan_76 rfl c76 rfl (ws' := (W_X8 q_textSize q_cursor q_start q_token q_number q_word q_fault q_line q_foundPains q_foundLine q_deadMany q_deadSize q_deadLeast q_deadMost (upd (upd q_st y57.toNatClampNeg v1) (y57 + (1 : Int32)).toNatClampNeg v2) q_before q_kept q_isKept q_refused q_text q_ones q_said q_readTable q_least q_made q_enough q_isWanted q_column q_foundColumn q_walls q_wallMany q_chosen)) rfl (pc' := 77) rfl ?_
          clear c76
          refine mm_aload_n 1 dX8_putMan_77 rfl rfl (pc' := 78) rfl ?_
          refine mm_getf fG_X8_7 dX8_putMan_78 rfl rfl (pc' := 81) rfl ?_
          refine mm_iload 0 dX8_putMan_81 rfl (pc' := 83) rfl ?_
          refine mm_iconst dX8_putMan_83 ki_2 (pc' := 84) rfl ?_
          refine mm_iadd dX8_putMan_84 (pc' := 85) rfl ?_
          refine mm_iload_n 4 dX8_putMan_85 rfl rfl (pc' := 86) rfl ?_
          obtain ⟨c86, h⟩ := mm_ck_of h
          refine mm_iast dX8_putMan_86 rfl c86 rfl (ws' := (W_X8 q_textSize q_cursor q_start q_token q_number q_word q_fault q_line q_foundPains q_foundLine q_deadMany q_deadSize q_deadLeast q_deadMost (upd (upd (upd q_st y57.toNatClampNeg v1) (y57 + (1 : Int32)).toNatClampNeg v2) (y57 + (2 : Int32)).toNatClampNeg v3) q_before q_kept q_isKept q_refused q_text q_ones q_said q_readTable q_least q_made q_enough q_isWanted q_column q_foundColumn q_walls q_wallMany q_chosen)) rfl (pc' := 87) rfl ?_
          clear c86
          refine mm_aload_n 1 dX8_putMan_87 rfl rfl (pc' := 88) rfl ?_
          refine mm_getf fG_X8_7 dX8_putMan_88 rfl rfl (pc' := 91) rfl ?_
          refine mm_iload 0 dX8_putMan_91 rfl (pc' := 93) rfl ?_
          refine mm_iconst dX8_putMan_93 ki_3 (pc' := 94) rfl ?_
          refine mm_iadd dX8_putMan_94 (pc' := 95) rfl ?_
          refine mm_iconst dX8_putMan_95 ki_m1 (pc' := 96) rfl ?_
          obtain ⟨c96, h⟩ := mm_ck_of h
          refine mm_iast dX8_putMan_96 rfl c96 rfl (ws' := (W_X8 q_textSize q_cursor q_start q_token q_number q_word q_fault q_line q_foundPains q_foundLine q_deadMany q_deadSize q_deadLeast q_deadMost (upd (upd (upd (upd q_st y57.toNatClampNeg v1) (y57 + (1 : Int32)).toNatClampNeg v2) (y57 + (2 : Int32)).toNatClampNeg v3) (y57 + (3 : Int32)).toNatClampNeg (-1 : Int32)) q_before q_kept q_isKept q_refused q_text q_ones q_said q_readTable q_least q_made q_enough q_isWanted q_column q_foundColumn q_walls q_wallMany q_chosen)) rfl (pc' := 97) rfl ?_
          clear c96
          refine mm_aload_n 1 dX8_putMan_97 rfl rfl (pc' := 98) rfl ?_
          refine mm_getf fG_X8_7 dX8_putMan_98 rfl rfl (pc' := 101) rfl ?_
          refine mm_iconst dX8_putMan_101 ki_2 (pc' := 102) rfl ?_
          refine mm_dup2 dX8_putMan_102 rfl rfl (pc' := 103) rfl ?_
          refine mm_iald dX8_putMan_103 rfl ki_2_354 (congrArg _ kt_2) (pc' := 104) rfl ?_
          refine mm_iconst dX8_putMan_104 ki_1 (pc' := 105) rfl ?_
          refine mm_iadd dX8_putMan_105 (pc' := 106) rfl ?_
          refine mm_iast dX8_putMan_106 rfl ki_2_354 kt_2 (ws' := (W_X8 q_textSize q_cursor q_start q_token q_number q_word q_fault q_line q_foundPains q_foundLine q_deadMany q_deadSize q_deadLeast q_deadMost (upd (upd (upd (upd (upd q_st y57.toNatClampNeg v1) (y57 + (1 : Int32)).toNatClampNeg v2) (y57 + (2 : Int32)).toNatClampNeg v3) (y57 + (3 : Int32)).toNatClampNeg (-1 : Int32)) 2 (((upd (upd (upd (upd q_st y57.toNatClampNeg v1) (y57 + (1 : Int32)).toNatClampNeg v2) (y57 + (2 : Int32)).toNatClampNeg v3) (y57 + (3 : Int32)).toNatClampNeg (-1 : Int32)) 2) + (1 : Int32))) q_before q_kept q_isKept q_refused q_text q_ones q_said q_readTable q_least q_made q_enough q_isWanted q_column q_foundColumn q_walls q_wallMany q_chosen)) rfl (pc' := 107) rfl ?_
          refine mm_aload_n 1 dX8_putMan_107 rfl rfl (pc' := 108) rfl ?_
          refine mm_getf fG_X8_7 dX8_putMan_108 rfl rfl (pc' := 111) rfl ?_
          refine mm_iconst dX8_putMan_111 ki_2 (pc' := 112) rfl ?_
          refine mm_iald dX8_putMan_112 rfl ki_2_354 (congrArg _ kt_2) (pc' := 113) rfl ?_
          refine mm_iconst dX8_putMan_113 ki_1 (pc' := 114) rfl ?_
          refine mm_isub dX8_putMan_114 (pc' := 115) rfl ?_
          have h9 := Option.some.inj h
          subst h9
          exact mm_iret rfl dX8_putMan_115 ⟨rfl, rfl⟩
        · replace h := mm_it h c
          clear c
          refine mm_bipush dX8_putMan_43 kb_m4 (pc' := 45) rfl ?_
          have h9 := Option.some.inj h
          subst h9
          exact mm_iret rfl dX8_putMan_45 ⟨rfl, rfl⟩
      · replace h := mm_it h c
        clear c
        exact mm_sub [] rfl (s_X8_putMan_J29  h)

def P_X8_putOwner (q_textSize : Int32) (q_cursor : Int32) (q_start : Int32) (q_token : Int32) (q_number : Int32) (q_word : Int64) (q_fault : Int32) (q_line : Int32) (q_foundPains : Int32) (q_foundLine : Int32) (q_deadMany : Int32) (q_deadSize : Int32) (q_deadLeast : Int32) (q_deadMost : Int32) (q_before : Nat → Int32) (q_kept : Nat → Int32) (q_isKept : Nat → Int32) (q_refused : Nat → Int32) (q_text : Nat → Int32) (q_ones : Nat → Int32) (q_said : Nat → Int32) (q_readTable : Nat → Int32) (q_least : Nat → Int32) (q_made : Nat → Int32) (q_enough : Nat → Int32) (q_isWanted : Nat → Int32) (q_column : Nat → Int32) (q_foundColumn : Nat → Int32) (q_walls : Nat → Int64) (q_wallMany : Nat → Int32) (q_chosen : Nat → Int32) (r : Int32 × (Nat → Int32)) : Option Value → mm_W → Prop := fun rv w => rv = some (.int r.1) ∧ w = (W_X8 q_textSize q_cursor q_start q_token q_number q_word q_fault q_line q_foundPains q_foundLine q_deadMany q_deadSize q_deadLeast q_deadMost r.2 q_before q_kept q_isKept q_refused q_text q_ones q_said q_readTable q_least q_made q_enough q_isWanted q_column q_foundColumn q_walls q_wallMany q_chosen)
def X8_putOwner_J21 (fu : Nat)  (q_st : Nat → Int32)   : Option (Int32 × (Nat → Int32)) := some ((-10 : Int32), q_st)
set_option maxHeartbeats 4000000 in
set_option maxRecDepth 100000 in
theorem s_X8_putOwner_J21 {fu : Nat} {q_textSize : Int32} {q_cursor : Int32} {q_start : Int32} {q_token : Int32} {q_number : Int32} {q_word : Int64} {q_fault : Int32} {q_line : Int32} {q_foundPains : Int32} {q_foundLine : Int32} {q_deadMany : Int32} {q_deadSize : Int32} {q_deadLeast : Int32} {q_deadMost : Int32} {q_st : Nat → Int32} {q_before : Nat → Int32} {q_kept : Nat → Int32} {q_isKept : Nat → Int32} {q_refused : Nat → Int32} {q_text : Nat → Int32} {q_ones : Nat → Int32} {q_said : Nat → Int32} {q_readTable : Nat → Int32} {q_least : Nat → Int32} {q_made : Nat → Int32} {q_enough : Nat → Int32} {q_isWanted : Nat → Int32} {q_column : Nat → Int32} {q_foundColumn : Nat → Int32} {q_walls : Nat → Int64} {q_wallMany : Nat → Int32} {q_chosen : Nat → Int32} {r : Int32 × (Nat → Int32)} (h : X8_putOwner_J21 fu q_st = some r) : mm_Wp mX8_putOwner (mm_R (P_X8_putOwner q_textSize q_cursor q_start q_token q_number q_word q_fault q_line q_foundPains q_foundLine q_deadMany q_deadSize q_deadLeast q_deadMost q_before q_kept q_isKept q_refused q_text q_ones q_said q_readTable q_least q_made q_enough q_isWanted q_column q_foundColumn q_walls q_wallMany q_chosen r)) 0 0 21 [] [] (W_X8 q_textSize q_cursor q_start q_token q_number q_word q_fault q_line q_foundPains q_foundLine q_deadMany q_deadSize q_deadLeast q_deadMost q_st q_before q_kept q_isKept q_refused q_text q_ones q_said q_readTable q_least q_made q_enough q_isWanted q_column q_foundColumn q_walls q_wallMany q_chosen) := by
  rw [X8_putOwner_J21] at h
  refine mm_bipush dX8_putOwner_21 kb_m10 (pc' := 23) rfl ?_
  have h9 := Option.some.inj h
  subst h9
  exact mm_iret rfl dX8_putOwner_23 ⟨rfl, rfl⟩
def X8_putOwner_J24 (fu : Nat)  (q_st : Nat → Int32) (v1 : Int32) (v2 : Int32)  : Option (Int32 × (Nat → Int32)) := mm_rd q_st 354 ((36 : Int32) + v1) fun x32 => mm_ck 354 ((36 : Int32) + v1) (some (x32, upd q_st ((36 : Int32) + v1).toNatClampNeg v2))
set_option maxHeartbeats 4000000 in
set_option maxRecDepth 100000 in
theorem s_X8_putOwner_J24 {fu : Nat} {q_textSize : Int32} {q_cursor : Int32} {q_start : Int32} {q_token : Int32} {q_number : Int32} {q_word : Int64} {q_fault : Int32} {q_line : Int32} {q_foundPains : Int32} {q_foundLine : Int32} {q_deadMany : Int32} {q_deadSize : Int32} {q_deadLeast : Int32} {q_deadMost : Int32} {q_st : Nat → Int32} {q_before : Nat → Int32} {q_kept : Nat → Int32} {q_isKept : Nat → Int32} {q_refused : Nat → Int32} {q_text : Nat → Int32} {q_ones : Nat → Int32} {q_said : Nat → Int32} {q_readTable : Nat → Int32} {q_least : Nat → Int32} {q_made : Nat → Int32} {q_enough : Nat → Int32} {q_isWanted : Nat → Int32} {q_column : Nat → Int32} {q_foundColumn : Nat → Int32} {q_walls : Nat → Int64} {q_wallMany : Nat → Int32} {q_chosen : Nat → Int32} {r : Int32 × (Nat → Int32)} {v1 : Int32} {v2 : Int32} (h : X8_putOwner_J24 fu q_st v1 v2 = some r) : mm_Wp mX8_putOwner (mm_R (P_X8_putOwner q_textSize q_cursor q_start q_token q_number q_word q_fault q_line q_foundPains q_foundLine q_deadMany q_deadSize q_deadLeast q_deadMost q_before q_kept q_isKept q_refused q_text q_ones q_said q_readTable q_least q_made q_enough q_isWanted q_column q_foundColumn q_walls q_wallMany q_chosen r)) 0 0 24 [(0, .ref 0), (1, .int v1), (2, .int v2)] [] (W_X8 q_textSize q_cursor q_start q_token q_number q_word q_fault q_line q_foundPains q_foundLine q_deadMany q_deadSize q_deadLeast q_deadMost q_st q_before q_kept q_isKept q_refused q_text q_ones q_said q_readTable q_least q_made q_enough q_isWanted q_column q_foundColumn q_walls q_wallMany q_chosen) := by
  rw [X8_putOwner_J24] at h
  refine mm_aload_n 0 dX8_putOwner_24 rfl rfl (pc' := 25) rfl ?_
  refine mm_getf fG_X8_7 dX8_putOwner_25 rfl rfl (pc' := 28) rfl ?_
  refine mm_bipush dX8_putOwner_28 kb_36 (pc' := 30) rfl ?_
  refine mm_iload_n 1 dX8_putOwner_30 rfl rfl (pc' := 31) rfl ?_
  refine mm_iadd dX8_putOwner_31 (pc' := 32) rfl ?_
  obtain ⟨x32, c32, e32, h⟩ := mm_rd_of h
  refine mm_iald dX8_putOwner_32 rfl c32 e32 (pc' := 33) rfl ?_
  clear c32 e32
  refine mm_istore_n dX8_putOwner_33 rfl (by decide) (l' := [(3, .int x32), (0, .ref 0), (1, .int v1), (2, .int v2)]) rfl (pc' := 34) rfl ?_
  refine mm_aload_n 1 dX8_putOwner_34 rfl rfl (pc' := 35) rfl ?_
  refine mm_getf fG_X8_7 dX8_putOwner_35 rfl rfl (pc' := 38) rfl ?_
  refine mm_bipush dX8_putOwner_38 kb_36 (pc' := 40) rfl ?_
  refine mm_iload_n 2 dX8_putOwner_40 rfl rfl (pc' := 41) rfl ?_
  refine mm_iadd dX8_putOwner_41 (pc' := 42) rfl ?_
  refine mm_iload_n 3 dX8_putOwner_42 rfl rfl (pc' := 43) rfl ?_
  obtain ⟨c43, h⟩ := mm_ck_of h
  refine mm_iast dX8_putOwner_43 rfl c43 rfl (ws' := (W_X8 q_textSize q_cursor q_start q_token q_number q_word q_fault q_line q_foundPains q_foundLine q_deadMany q_deadSize q_deadLeast q_deadMost (upd q_st ((36 : Int32) + v1).toNatClampNeg v2) q_before q_kept q_isKept q_refused q_text q_ones q_said q_readTable q_least q_made q_enough q_isWanted q_column q_foundColumn q_walls q_wallMany q_chosen)) rfl (pc' := 44) rfl ?_
  clear c43
  refine mm_iload_n 0 dX8_putOwner_44 rfl rfl (pc' := 45) rfl ?_
  have h9 := Option.some.inj h
  subst h9
  exact mm_iret rfl dX8_putOwner_45 ⟨rfl, rfl⟩
def f_X8_putOwner (fu : Nat) (q_st : Nat → Int32) (v1 : Int32) (v2 : Int32) : Option (Int32 × (Nat → Int32)) := (f_X8_isWindow fu q_st v1).bind fun t2 => if t2 = 0 then (X8_putOwner_J21 fu q_st) else (if v2 = (-1 : Int32) then (X8_putOwner_J24 fu q_st v1 v2) else ((f_X8_isMan fu q_st v2).bind fun t15 => if t15 = 0 then (X8_putOwner_J21 fu q_st) else (X8_putOwner_J24 fu q_st v1 v2)))
set_option maxHeartbeats 4000000 in
set_option maxRecDepth 100000 in
theorem ok_X8_putOwner {fu : Nat} {q_textSize : Int32} {q_cursor : Int32} {q_start : Int32} {q_token : Int32} {q_number : Int32} {q_word : Int64} {q_fault : Int32} {q_line : Int32} {q_foundPains : Int32} {q_foundLine : Int32} {q_deadMany : Int32} {q_deadSize : Int32} {q_deadLeast : Int32} {q_deadMost : Int32} {q_st : Nat → Int32} {q_before : Nat → Int32} {q_kept : Nat → Int32} {q_isKept : Nat → Int32} {q_refused : Nat → Int32} {q_text : Nat → Int32} {q_ones : Nat → Int32} {q_said : Nat → Int32} {q_readTable : Nat → Int32} {q_least : Nat → Int32} {q_made : Nat → Int32} {q_enough : Nat → Int32} {q_isWanted : Nat → Int32} {q_column : Nat → Int32} {q_foundColumn : Nat → Int32} {q_walls : Nat → Int64} {q_wallMany : Nat → Int32} {q_chosen : Nat → Int32} {r : Int32 × (Nat → Int32)} {v1 : Int32} {v2 : Int32} (h : f_X8_putOwner fu q_st v1 v2 = some r) : mm_Ok mX8_putOwner [.ref 0, .int v1, .int v2] (W_X8 q_textSize q_cursor q_start q_token q_number q_word q_fault q_line q_foundPains q_foundLine q_deadMany q_deadSize q_deadLeast q_deadMost q_st q_before q_kept q_isKept q_refused q_text q_ones q_said q_readTable q_least q_made q_enough q_isWanted q_column q_foundColumn q_walls q_wallMany q_chosen) (P_X8_putOwner q_textSize q_cursor q_start q_token q_number q_word q_fault q_line q_foundPains q_foundLine q_deadMany q_deadSize q_deadLeast q_deadMost q_before q_kept q_isKept q_refused q_text q_ones q_said q_readTable q_least q_made q_enough q_isWanted q_column q_foundColumn q_walls q_wallMany q_chosen r) := by
  rw [f_X8_putOwner] at h
  refine mm_Ok.of pn_X8 (l := [(0, .ref 0), (1, .int v1), (2, .int v2)]) rfl (Nat.le_of_ble_eq_true rfl) ?_
  refine mm_aload_n 0 dX8_putOwner_0 rfl rfl (pc' := 1) rfl ?_
  refine mm_iload_n 1 dX8_putOwner_1 rfl rfl (pc' := 2) rfl ?_
  obtain ⟨t2, h2, h⟩ := mm_bd h
  refine mm_call0 (As := [.int v1]) (rest := []) cV_X8_78 (ok_X8_isWindow h2) ⟨rfl, rfl, Nat.le_of_ble_eq_true rfl, Nat.le_of_ble_eq_true rfl⟩ dX8_putOwner_2 rfl rfl rfl rfl (by rintro _ _ ⟨-, rfl⟩; rfl) (Nat.le_of_ble_eq_true rfl) ⟨Nat.le_of_ble_eq_true rfl, Nat.le_of_ble_eq_true rfl⟩ (pc' := 5) rfl ?_
  rintro rv w ⟨rfl, rfl⟩
  show mm_Wp _ _ _ _ 5 [(0, .ref 0), (1, .int v1), (2, .int v2)] [.int t2] (W_X8 q_textSize q_cursor q_start q_token q_number q_word q_fault q_line q_foundPains q_foundLine q_deadMany q_deadSize q_deadLeast q_deadMost q_st q_before q_kept q_isKept q_refused q_text q_ones q_said q_readTable q_least q_made q_enough q_isWanted q_column q_foundColumn q_walls q_wallMany q_chosen)
  clear h2
  refine mm_if_eq (tgt := 21) dX8_putOwner_5 (by decide) (pc' := 8) rfl (fun c => ?_) (fun c => ?_)
  · replace h := mm_it h c
    clear c
    exact mm_sub [] rfl (s_X8_putOwner_J21  h)
  · replace h := mm_if h c
    clear c
    refine mm_iload_n 2 dX8_putOwner_8 rfl rfl (pc' := 9) rfl ?_
    refine mm_iconst dX8_putOwner_9 ki_m1 (pc' := 10) rfl ?_
    refine mm_icmp_eq (tgt := 24) dX8_putOwner_10 (by decide) (pc' := 13) rfl (fun c => ?_) (fun c => ?_)
    · replace h := mm_it h c
      clear c
      exact s_X8_putOwner_J24  h
    · replace h := mm_if h c
      clear c
      refine mm_aload_n 0 dX8_putOwner_13 rfl rfl (pc' := 14) rfl ?_
      refine mm_iload_n 2 dX8_putOwner_14 rfl rfl (pc' := 15) rfl ?_
      obtain ⟨t15, h15, h⟩ := mm_bd h
      refine mm_call0 (As := [.int v2]) (rest := []) cV_X8_82 (ok_X8_isMan h15) ⟨rfl, rfl, Nat.le_of_ble_eq_true rfl, Nat.le_of_ble_eq_true rfl⟩ dX8_putOwner_15 rfl rfl rfl rfl (by rintro _ _ ⟨-, rfl⟩; rfl) (Nat.le_of_ble_eq_true rfl) ⟨Nat.le_of_ble_eq_true rfl, Nat.le_of_ble_eq_true rfl⟩ (pc' := 18) rfl ?_
      rintro rv w ⟨rfl, rfl⟩
      show mm_Wp _ _ _ _ 18 [(0, .ref 0), (1, .int v1), (2, .int v2)] [.int t15] (W_X8 q_textSize q_cursor q_start q_token q_number q_word q_fault q_line q_foundPains q_foundLine q_deadMany q_deadSize q_deadLeast q_deadMost q_st q_before q_kept q_isKept q_refused q_text q_ones q_said q_readTable q_least q_made q_enough q_isWanted q_column q_foundColumn q_walls q_wallMany q_chosen)
      clear h15
      refine mm_if_ne (tgt := 24) dX8_putOwner_18 (by decide) (pc' := 21) rfl (fun c => ?_) (fun c => ?_)
      · replace h := mm_if h c
        clear c
        exact s_X8_putOwner_J24  h
      · replace h := mm_it h c
        clear c
        exact mm_sub [] rfl (s_X8_putOwner_J21  h)

def P_X8_putLetter (q_textSize : Int32) (q_cursor : Int32) (q_start : Int32) (q_token : Int32) (q_number : Int32) (q_word : Int64) (q_fault : Int32) (q_line : Int32) (q_foundPains : Int32) (q_foundLine : Int32) (q_deadMany : Int32) (q_deadSize : Int32) (q_deadLeast : Int32) (q_deadMost : Int32) (q_before : Nat → Int32) (q_kept : Nat → Int32) (q_isKept : Nat → Int32) (q_refused : Nat → Int32) (q_text : Nat → Int32) (q_ones : Nat → Int32) (q_said : Nat → Int32) (q_readTable : Nat → Int32) (q_least : Nat → Int32) (q_made : Nat → Int32) (q_enough : Nat → Int32) (q_isWanted : Nat → Int32) (q_column : Nat → Int32) (q_foundColumn : Nat → Int32) (q_walls : Nat → Int64) (q_wallMany : Nat → Int32) (q_chosen : Nat → Int32) (r : Int32 × (Nat → Int32)) : Option Value → mm_W → Prop := fun rv w => rv = some (.int r.1) ∧ w = (W_X8 q_textSize q_cursor q_start q_token q_number q_word q_fault q_line q_foundPains q_foundLine q_deadMany q_deadSize q_deadLeast q_deadMost r.2 q_before q_kept q_isKept q_refused q_text q_ones q_said q_readTable q_least q_made q_enough q_isWanted q_column q_foundColumn q_walls q_wallMany q_chosen)
def X8_putLetter_J43 (fu : Nat) (rec11 : Int32 → Int32 → Option (Int32 × (Nat → Int32))) (q_st : Nat → Int32) (v1 : Int32) (v3 : Int32) (s0 : Int32) : Option (Int32 × (Nat → Int32)) := rec11 s0 (v3 + (1 : Int32))
set_option maxHeartbeats 4000000 in
set_option maxRecDepth 100000 in
theorem s_X8_putLetter_J43 {fu : Nat} {q_textSize : Int32} {q_cursor : Int32} {q_start : Int32} {q_token : Int32} {q_number : Int32} {q_word : Int64} {q_fault : Int32} {q_line : Int32} {q_foundPains : Int32} {q_foundLine : Int32} {q_deadMany : Int32} {q_deadSize : Int32} {q_deadLeast : Int32} {q_deadMost : Int32} {q_st : Nat → Int32} {q_before : Nat → Int32} {q_kept : Nat → Int32} {q_isKept : Nat → Int32} {q_refused : Nat → Int32} {q_text : Nat → Int32} {q_ones : Nat → Int32} {q_said : Nat → Int32} {q_readTable : Nat → Int32} {q_least : Nat → Int32} {q_made : Nat → Int32} {q_enough : Nat → Int32} {q_isWanted : Nat → Int32} {q_column : Nat → Int32} {q_foundColumn : Nat → Int32} {q_walls : Nat → Int64} {q_wallMany : Nat → Int32} {q_chosen : Nat → Int32} {r : Int32 × (Nat → Int32)} {rec11 : Int32 → Int32 → Option (Int32 × (Nat → Int32))} {v1 : Int32} {v3 : Int32} {s0 : Int32} (hr11 : ∀ (y2 : Int32) (y3 : Int32), rec11 y2 y3 = some r → mm_Wp mX8_putLetter (mm_R (P_X8_putLetter q_textSize q_cursor q_start q_token q_number q_word q_fault q_line q_foundPains q_foundLine q_deadMany q_deadSize q_deadLeast q_deadMost q_before q_kept q_isKept q_refused q_text q_ones q_said q_readTable q_least q_made q_enough q_isWanted q_column q_foundColumn q_walls q_wallMany q_chosen r)) 0 0 11 [(0, .ref 0), (1, .int v1), (2, .int y2), (3, .int y3)] [] (W_X8 q_textSize q_cursor q_start q_token q_number q_word q_fault q_line q_foundPains q_foundLine q_deadMany q_deadSize q_deadLeast q_deadMost q_st q_before q_kept q_isKept q_refused q_text q_ones q_said q_readTable q_least q_made q_enough q_isWanted q_column q_foundColumn q_walls q_wallMany q_chosen)) (h : X8_putLetter_J43 fu rec11 q_st v1 v3 s0 = some r) : mm_Wp mX8_putLetter (mm_R (P_X8_putLetter q_textSize q_cursor q_start q_token q_number q_word q_fault q_line q_foundPains q_foundLine q_deadMany q_deadSize q_deadLeast q_deadMost q_before q_kept q_isKept q_refused q_text q_ones q_said q_readTable q_least q_made q_enough q_isWanted q_column q_foundColumn q_walls q_wallMany q_chosen r)) 0 0 43 [(0, .ref 0), (1, .int v1), (3, .int v3)] [.int s0] (W_X8 q_textSize q_cursor q_start q_token q_number q_word q_fault q_line q_foundPains q_foundLine q_deadMany q_deadSize q_deadLeast q_deadMost q_st q_before q_kept q_isKept q_refused q_text q_ones q_said q_readTable q_least q_made q_enough q_isWanted q_column q_foundColumn q_walls q_wallMany q_chosen) := by
  rw [X8_putLetter_J43] at h
  refine mm_istore_n dX8_putLetter_43 rfl (by decide) (l' := [(2, .int s0), (0, .ref 0), (1, .int v1), (3, .int v3)]) rfl (pc' := 44) rfl ?_
  refine mm_iinc 3 dX8_putLetter_44 rfl ki_1 (by decide) (l' := [(3, .int (v3 + (1 : Int32))), (2, .int s0), (0, .ref 0), (1, .int v1)]) rfl (pc' := 47) rfl ?_
  refine mm_goto (tgt := 11) dX8_putLetter_47 (by decide) ?_
  exact mm_sub [2, 3, 1, 0] rfl (hr11 _ _ h)
def X8_putLetter_J42 (fu : Nat) (rec11 : Int32 → Int32 → Option (Int32 × (Nat → Int32))) (q_st : Nat → Int32) (v1 : Int32) (v3 : Int32)  : Option (Int32 × (Nat → Int32)) := X8_putLetter_J43 fu rec11 q_st v1 v3 (0 : Int32)
set_option maxHeartbeats 4000000 in
set_option maxRecDepth 100000 in
theorem s_X8_putLetter_J42 {fu : Nat} {q_textSize : Int32} {q_cursor : Int32} {q_start : Int32} {q_token : Int32} {q_number : Int32} {q_word : Int64} {q_fault : Int32} {q_line : Int32} {q_foundPains : Int32} {q_foundLine : Int32} {q_deadMany : Int32} {q_deadSize : Int32} {q_deadLeast : Int32} {q_deadMost : Int32} {q_st : Nat → Int32} {q_before : Nat → Int32} {q_kept : Nat → Int32} {q_isKept : Nat → Int32} {q_refused : Nat → Int32} {q_text : Nat → Int32} {q_ones : Nat → Int32} {q_said : Nat → Int32} {q_readTable : Nat → Int32} {q_least : Nat → Int32} {q_made : Nat → Int32} {q_enough : Nat → Int32} {q_isWanted : Nat → Int32} {q_column : Nat → Int32} {q_foundColumn : Nat → Int32} {q_walls : Nat → Int64} {q_wallMany : Nat → Int32} {q_chosen : Nat → Int32} {r : Int32 × (Nat → Int32)} {rec11 : Int32 → Int32 → Option (Int32 × (Nat → Int32))} {v1 : Int32} {v3 : Int32} (hr11 : ∀ (y2 : Int32) (y3 : Int32), rec11 y2 y3 = some r → mm_Wp mX8_putLetter (mm_R (P_X8_putLetter q_textSize q_cursor q_start q_token q_number q_word q_fault q_line q_foundPains q_foundLine q_deadMany q_deadSize q_deadLeast q_deadMost q_before q_kept q_isKept q_refused q_text q_ones q_said q_readTable q_least q_made q_enough q_isWanted q_column q_foundColumn q_walls q_wallMany q_chosen r)) 0 0 11 [(0, .ref 0), (1, .int v1), (2, .int y2), (3, .int y3)] [] (W_X8 q_textSize q_cursor q_start q_token q_number q_word q_fault q_line q_foundPains q_foundLine q_deadMany q_deadSize q_deadLeast q_deadMost q_st q_before q_kept q_isKept q_refused q_text q_ones q_said q_readTable q_least q_made q_enough q_isWanted q_column q_foundColumn q_walls q_wallMany q_chosen)) (h : X8_putLetter_J42 fu rec11 q_st v1 v3 = some r) : mm_Wp mX8_putLetter (mm_R (P_X8_putLetter q_textSize q_cursor q_start q_token q_number q_word q_fault q_line q_foundPains q_foundLine q_deadMany q_deadSize q_deadLeast q_deadMost q_before q_kept q_isKept q_refused q_text q_ones q_said q_readTable q_least q_made q_enough q_isWanted q_column q_foundColumn q_walls q_wallMany q_chosen r)) 0 0 42 [(0, .ref 0), (1, .int v1), (3, .int v3)] [] (W_X8 q_textSize q_cursor q_start q_token q_number q_word q_fault q_line q_foundPains q_foundLine q_deadMany q_deadSize q_deadLeast q_deadMost q_st q_before q_kept q_isKept q_refused q_text q_ones q_said q_readTable q_least q_made q_enough q_isWanted q_column q_foundColumn q_walls q_wallMany q_chosen) := by
  rw [X8_putLetter_J42] at h
  refine mm_iconst dX8_putLetter_42 ki_0 (pc' := 43) rfl ?_
  exact s_X8_putLetter_J43 (hr11 := hr11) h
def X8_putLetter_L11 (fu : Nat)  (q_st : Nat → Int32) (v1 : Int32) : Nat → Int32 → Int32 → Option (Int32 × (Nat → Int32))
  | 0, _, _ => none
  | n + 1, v2, v3 => if (q_st 3) ≤ v3 then (if v2 = 0 then (some ((-2 : Int32), q_st)) else (if (q_st 3) = (6 : Int32) then (some ((-4 : Int32), q_st)) else (mm_ck 354 ((30 : Int32) + (q_st 3)) (some ((((upd (upd q_st ((30 : Int32) + (q_st 3)).toNatClampNeg v1) 3 (((upd q_st ((30 : Int32) + (q_st 3)).toNatClampNeg v1) 3) + (1 : Int32))) 3) - (1 : Int32)), upd (upd q_st ((30 : Int32) + (q_st 3)).toNatClampNeg v1) 3 (((upd q_st ((30 : Int32) + (q_st 3)).toNatClampNeg v1) 3) + (1 : Int32))))))) else (if v2 = 0 then (X8_putLetter_J42 fu (X8_putLetter_L11 fu q_st v1 n) q_st v1 v3) else (mm_rd q_st 354 ((30 : Int32) + v3) fun x33 => if x33 = v1 then (X8_putLetter_J42 fu (X8_putLetter_L11 fu q_st v1 n) q_st v1 v3) else (X8_putLetter_J43 fu (X8_putLetter_L11 fu q_st v1 n) q_st v1 v3 (1 : Int32))))
set_option maxHeartbeats 4000000 in
set_option maxRecDepth 100000 in
theorem s_X8_putLetter_L11 {fu : Nat} {q_textSize : Int32} {q_cursor : Int32} {q_start : Int32} {q_token : Int32} {q_number : Int32} {q_word : Int64} {q_fault : Int32} {q_line : Int32} {q_foundPains : Int32} {q_foundLine : Int32} {q_deadMany : Int32} {q_deadSize : Int32} {q_deadLeast : Int32} {q_deadMost : Int32} {q_st : Nat → Int32} {q_before : Nat → Int32} {q_kept : Nat → Int32} {q_isKept : Nat → Int32} {q_refused : Nat → Int32} {q_text : Nat → Int32} {q_ones : Nat → Int32} {q_said : Nat → Int32} {q_readTable : Nat → Int32} {q_least : Nat → Int32} {q_made : Nat → Int32} {q_enough : Nat → Int32} {q_isWanted : Nat → Int32} {q_column : Nat → Int32} {q_foundColumn : Nat → Int32} {q_walls : Nat → Int64} {q_wallMany : Nat → Int32} {q_chosen : Nat → Int32} {r : Int32 × (Nat → Int32)} {v1 : Int32} : ∀ (n : Nat) (v2 : Int32) (v3 : Int32), X8_putLetter_L11 fu q_st v1 n v2 v3 = some r → mm_Wp mX8_putLetter (mm_R (P_X8_putLetter q_textSize q_cursor q_start q_token q_number q_word q_fault q_line q_foundPains q_foundLine q_deadMany q_deadSize q_deadLeast q_deadMost q_before q_kept q_isKept q_refused q_text q_ones q_said q_readTable q_least q_made q_enough q_isWanted q_column q_foundColumn q_walls q_wallMany q_chosen r)) 0 0 11 [(0, .ref 0), (1, .int v1), (2, .int v2), (3, .int v3)] [] (W_X8 q_textSize q_cursor q_start q_token q_number q_word q_fault q_line q_foundPains q_foundLine q_deadMany q_deadSize q_deadLeast q_deadMost q_st q_before q_kept q_isKept q_refused q_text q_ones q_said q_readTable q_least q_made q_enough q_isWanted q_column q_foundColumn q_walls q_wallMany q_chosen) := by
  intro n
  induction n with
  | zero =>
    intro v2 v3 h
    rw [X8_putLetter_L11] at h
    cases h
  | succ n hr11 =>
    intro v2 v3 h
    rw [X8_putLetter_L11] at h
    refine mm_iload_n 3 dX8_putLetter_11 rfl rfl (pc' := 12) rfl ?_
    refine mm_aload_n 0 dX8_putLetter_12 rfl rfl (pc' := 13) rfl ?_
    refine mm_getf fG_X8_7 dX8_putLetter_13 rfl rfl (pc' := 16) rfl ?_
    refine mm_iconst dX8_putLetter_16 ki_3 (pc' := 17) rfl ?_
    refine mm_iald dX8_putLetter_17 rfl ki_3_354 (congrArg _ kt_3) (pc' := 18) rfl ?_
    refine mm_icmp_ge (tgt := 50) dX8_putLetter_18 (by decide) (pc' := 21) rfl (fun c => ?_) (fun c => ?_)
    · replace h := mm_it h c
      clear c
      refine mm_iload_n 2 dX8_putLetter_50 rfl rfl (pc' := 51) rfl ?_
      refine mm_if_ne (tgt := 57) dX8_putLetter_51 (by decide) (pc' := 54) rfl (fun c => ?_) (fun c => ?_)
      · replace h := mm_if h c
        clear c
        refine mm_aload_n 0 dX8_putLetter_57 rfl rfl (pc' := 58) rfl ?_
        refine mm_getf fG_X8_7 dX8_putLetter_58 rfl rfl (pc' := 61) rfl ?_
        refine mm_iconst dX8_putLetter_61 ki_3 (pc' := 62) rfl ?_
        refine mm_iald dX8_putLetter_62 rfl ki_3_354 (congrArg _ kt_3) (pc' := 63) rfl ?_
        refine mm_bipush dX8_putLetter_63 kb_6 (pc' := 65) rfl ?_
        refine mm_icmp_ne (tgt := 71) dX8_putLetter_65 (by decide) (pc' := 68) rfl (fun c => ?_) (fun c => ?_)
        · replace h := mm_if h c
          clear c
          refine mm_aload_n 0 dX8_putLetter_71 rfl rfl (pc' := 72) rfl ?_
          refine mm_getf fG_X8_7 dX8_putLetter_72 rfl rfl (pc' := 75) rfl ?_
          refine mm_bipush dX8_putLetter_75 kb_30 (pc' := 77) rfl ?_
          refine mm_aload_n 0 dX8_putLetter_77 rfl rfl (pc' := 78) rfl ?_
          refine mm_getf fG_X8_7 dX8_putLetter_78 rfl rfl (pc' := 81) rfl ?_
          refine mm_iconst dX8_putLetter_81 ki_3 (pc' := 82) rfl ?_
          refine mm_iald dX8_putLetter_82 rfl ki_3_354 (congrArg _ kt_3) (pc' := 83) rfl ?_
          refine mm_iadd dX8_putLetter_83 (pc' := 84) rfl ?_
          refine mm_iload_n 1 dX8_putLetter_84 rfl rfl (pc' := 85) rfl ?_
          obtain ⟨c85, h⟩ := mm_ck_of h
          refine mm_iast dX8_putLetter_85 rfl c85 rfl (ws' := (W_X8 q_textSize q_cursor q_start q_token q_number q_word q_fault q_line q_foundPains q_foundLine q_deadMany q_deadSize q_deadLeast q_deadMost (upd q_st ((30 : Int32) + (q_st 3)).toNatClampNeg v1) q_before q_kept q_isKept q_refused q_text q_ones q_said q_readTable q_least q_made q_enough q_isWanted q_column q_foundColumn q_walls q_wallMany q_chosen)) rfl (pc' := 86) rfl ?_
          clear c85
          refine mm_aload_n 0 dX8_putLetter_86 rfl rfl (pc' := 87) rfl ?_
          refine mm_getf fG_X8_7 dX8_putLetter_87 rfl rfl (pc' := 90) rfl ?_
          refine mm_iconst dX8_putLetter_90 ki_3 (pc' := 91) rfl ?_
          refine mm_dup2 dX8_putLetter_91 rfl rfl (pc' := 92) rfl ?_
          refine mm_iald dX8_putLetter_92 rfl ki_3_354 (congrArg _ kt_3) (pc' := 93) rfl ?_
          refine mm_iconst dX8_putLetter_93 ki_1 (pc' := 94) rfl ?_
          refine mm_iadd dX8_putLetter_94 (pc' := 95) rfl ?_
          refine mm_iast dX8_putLetter_95 rfl ki_3_354 kt_3 (ws' := (W_X8 q_textSize q_cursor q_start q_token q_number q_word q_fault q_line q_foundPains q_foundLine q_deadMany q_deadSize q_deadLeast q_deadMost (upd (upd q_st ((30 : Int32) + (q_st 3)).toNatClampNeg v1) 3 (((upd q_st ((30 : Int32) + (q_st 3)).toNatClampNeg v1) 3) + (1 : Int32))) q_before q_kept q_isKept q_refused q_text q_ones q_said q_readTable q_least q_made q_enough q_isWanted q_column q_foundColumn q_walls q_wallMany q_chosen)) rfl (pc' := 96) rfl ?_
          refine mm_aload_n 0 dX8_putLetter_96 rfl rfl (pc' := 97) rfl ?_
          refine mm_getf fG_X8_7 dX8_putLetter_97 rfl rfl (pc' := 100) rfl ?_
          refine mm_iconst dX8_putLetter_100 ki_3 (pc' := 101) rfl ?_
          refine mm_iald dX8_putLetter_101 rfl ki_3_354 (congrArg _ kt_3) (pc' := 102) rfl ?_
          refine mm_iconst dX8_putLetter_102 ki_1 (pc' := 103) rfl ?_
          refine mm_isub dX8_putLetter_103 (pc' := 104) rfl ?_
          have h9 := Option.some.inj h
          subst h9
          exact mm_iret rfl dX8_putLetter_104 ⟨rfl, rfl⟩
        · replace h := mm_it h c
          clear c
          refine mm_bipush dX8_putLetter_68 kb_m4 (pc' := 70) rfl ?_
          have h9 := Option.some.inj h
          subst h9
          exact mm_iret rfl dX8_putLetter_70 ⟨rfl, rfl⟩
      · replace h := mm_it h c
        clear c
        refine mm_bipush dX8_putLetter_54 kb_m2 (pc' := 56) rfl ?_
        have h9 := Option.some.inj h
        subst h9
        exact mm_iret rfl dX8_putLetter_56 ⟨rfl, rfl⟩
    · replace h := mm_if h c
      clear c
      refine mm_iload_n 2 dX8_putLetter_21 rfl rfl (pc' := 22) rfl ?_
      refine mm_if_eq (tgt := 42) dX8_putLetter_22 (by decide) (pc' := 25) rfl (fun c => ?_) (fun c => ?_)
      · replace h := mm_it h c
        clear c
        exact mm_sub [0, 1, 3] rfl (s_X8_putLetter_J42 (hr11 := hr11) h)
      · replace h := mm_if h c
        clear c
        refine mm_aload_n 0 dX8_putLetter_25 rfl rfl (pc' := 26) rfl ?_
        refine mm_getf fG_X8_7 dX8_putLetter_26 rfl rfl (pc' := 29) rfl ?_
        refine mm_bipush dX8_putLetter_29 kb_30 (pc' := 31) rfl ?_
        refine mm_iload_n 3 dX8_putLetter_31 rfl rfl (pc' := 32) rfl ?_
        refine mm_iadd dX8_putLetter_32 (pc' := 33) rfl ?_
        obtain ⟨x33, c33, e33, h⟩ := mm_rd_of h
        refine mm_iald dX8_putLetter_33 rfl c33 e33 (pc' := 34) rfl ?_
        clear c33 e33
        refine mm_iload_n 1 dX8_putLetter_34 rfl rfl (pc' := 35) rfl ?_
        refine mm_icmp_eq (tgt := 42) dX8_putLetter_35 (by decide) (pc' := 38) rfl (fun c => ?_) (fun c => ?_)
        · replace h := mm_it h c
          clear c
          exact mm_sub [0, 1, 3] rfl (s_X8_putLetter_J42 (hr11 := hr11) h)
        · replace h := mm_if h c
          clear c
          refine mm_iconst dX8_putLetter_38 ki_1 (pc' := 39) rfl ?_
          refine mm_goto (tgt := 43) dX8_putLetter_39 (by decide) ?_
          exact mm_sub [0, 1, 3] rfl (s_X8_putLetter_J43 (hr11 := hr11) h)
def f_X8_putLetter (fu : Nat) (q_st : Nat → Int32) (v1 : Int32) : Option (Int32 × (Nat → Int32)) := (f_X8_in fu v1 (0 : Int32) (4095 : Int32)).bind fun t5 => X8_putLetter_L11 fu q_st v1 fu t5 (0 : Int32)
set_option maxHeartbeats 4000000 in
set_option maxRecDepth 100000 in
theorem ok_X8_putLetter {fu : Nat} {q_textSize : Int32} {q_cursor : Int32} {q_start : Int32} {q_token : Int32} {q_number : Int32} {q_word : Int64} {q_fault : Int32} {q_line : Int32} {q_foundPains : Int32} {q_foundLine : Int32} {q_deadMany : Int32} {q_deadSize : Int32} {q_deadLeast : Int32} {q_deadMost : Int32} {q_st : Nat → Int32} {q_before : Nat → Int32} {q_kept : Nat → Int32} {q_isKept : Nat → Int32} {q_refused : Nat → Int32} {q_text : Nat → Int32} {q_ones : Nat → Int32} {q_said : Nat → Int32} {q_readTable : Nat → Int32} {q_least : Nat → Int32} {q_made : Nat → Int32} {q_enough : Nat → Int32} {q_isWanted : Nat → Int32} {q_column : Nat → Int32} {q_foundColumn : Nat → Int32} {q_walls : Nat → Int64} {q_wallMany : Nat → Int32} {q_chosen : Nat → Int32} {r : Int32 × (Nat → Int32)} {v1 : Int32} (h : f_X8_putLetter fu q_st v1 = some r) : mm_Ok mX8_putLetter [.ref 0, .int v1] (W_X8 q_textSize q_cursor q_start q_token q_number q_word q_fault q_line q_foundPains q_foundLine q_deadMany q_deadSize q_deadLeast q_deadMost q_st q_before q_kept q_isKept q_refused q_text q_ones q_said q_readTable q_least q_made q_enough q_isWanted q_column q_foundColumn q_walls q_wallMany q_chosen) (P_X8_putLetter q_textSize q_cursor q_start q_token q_number q_word q_fault q_line q_foundPains q_foundLine q_deadMany q_deadSize q_deadLeast q_deadMost q_before q_kept q_isKept q_refused q_text q_ones q_said q_readTable q_least q_made q_enough q_isWanted q_column q_foundColumn q_walls q_wallMany q_chosen r) := by
  rw [f_X8_putLetter] at h
  refine mm_Ok.of pn_X8 (l := [(0, .ref 0), (1, .int v1)]) rfl (Nat.le_of_ble_eq_true rfl) ?_
  refine mm_iload_n 1 dX8_putLetter_0 rfl rfl (pc' := 1) rfl ?_
  refine mm_iconst dX8_putLetter_1 ki_0 (pc' := 2) rfl ?_
  refine mm_sipush dX8_putLetter_2 ks_4095 (pc' := 5) rfl ?_
  obtain ⟨t5, h5, h⟩ := mm_bd h
  refine mm_callS (As := [.int v1, .int (0 : Int32), .int (4095 : Int32)]) (rest := []) (av := [.int v1, .int (0 : Int32), .int (4095 : Int32)]) (wc := []) (is := []) cS_X8_70 (ok_X8_in h5) ⟨rfl, rfl, Nat.le_of_ble_eq_true rfl, Nat.le_of_ble_eq_true rfl⟩ dX8_putLetter_5 rfl rfl rfl ⟨rfl, by decide, by decide⟩ (by rintro _ _ ⟨-, rfl⟩; rfl) (Nat.le_of_ble_eq_true rfl) ⟨Nat.le_of_ble_eq_true rfl, Nat.le_of_ble_eq_true rfl⟩ (pc' := 8) rfl ?_
  rintro rv w ⟨rfl, rfl⟩
  show mm_Wp _ _ _ _ 8 [(0, .ref 0), (1, .int v1)] [.int t5] (W_X8 q_textSize q_cursor q_start q_token q_number q_word q_fault q_line q_foundPains q_foundLine q_deadMany q_deadSize q_deadLeast q_deadMost q_st q_before q_kept q_isKept q_refused q_text q_ones q_said q_readTable q_least q_made q_enough q_isWanted q_column q_foundColumn q_walls q_wallMany q_chosen)
  clear h5
  refine mm_istore_n dX8_putLetter_8 rfl (by decide) (l' := [(2, .int t5), (0, .ref 0), (1, .int v1)]) rfl (pc' := 9) rfl ?_
  refine mm_iconst dX8_putLetter_9 ki_0 (pc' := 10) rfl ?_
  refine mm_istore_n dX8_putLetter_10 rfl (by decide) (l' := [(3, .int (0 : Int32)), (2, .int t5), (0, .ref 0), (1, .int v1)]) rfl (pc' := 11) rfl ?_
  exact mm_sub [2, 3, 1, 0] rfl (s_X8_putLetter_L11  _ _ _ h)

def P_X8_putLight (q_textSize : Int32) (q_cursor : Int32) (q_start : Int32) (q_token : Int32) (q_number : Int32) (q_word : Int64) (q_fault : Int32) (q_line : Int32) (q_foundPains : Int32) (q_foundLine : Int32) (q_deadMany : Int32) (q_deadSize : Int32) (q_deadLeast : Int32) (q_deadMost : Int32) (q_before : Nat → Int32) (q_kept : Nat → Int32) (q_isKept : Nat → Int32) (q_refused : Nat → Int32) (q_text : Nat → Int32) (q_ones : Nat → Int32) (q_said : Nat → Int32) (q_readTable : Nat → Int32) (q_least : Nat → Int32) (q_made : Nat → Int32) (q_enough : Nat → Int32) (q_isWanted : Nat → Int32) (q_column : Nat → Int32) (q_foundColumn : Nat → Int32) (q_walls : Nat → Int64) (q_wallMany : Nat → Int32) (q_chosen : Nat → Int32) (r : Int32 × (Nat → Int32)) : Option Value → mm_W → Prop := fun rv w => rv = some (.int r.1) ∧ w = (W_X8 q_textSize q_cursor q_start q_token q_number q_word q_fault q_line q_foundPains q_foundLine q_deadMany q_deadSize q_deadLeast q_deadMost r.2 q_before q_kept q_isKept q_refused q_text q_ones q_said q_readTable q_least q_made q_enough q_isWanted q_column q_foundColumn q_walls q_wallMany q_chosen)
def X8_putLight_J15 (fu : Nat)  (q_st : Nat → Int32)   : Option (Int32 × (Nat → Int32)) := some ((-2 : Int32), q_st)
set_option maxHeartbeats 4000000 in
set_option maxRecDepth 100000 in
theorem s_X8_putLight_J15 {fu : Nat} {q_textSize : Int32} {q_cursor : Int32} {q_start : Int32} {q_token : Int32} {q_number : Int32} {q_word : Int64} {q_fault : Int32} {q_line : Int32} {q_foundPains : Int32} {q_foundLine : Int32} {q_deadMany : Int32} {q_deadSize : Int32} {q_deadLeast : Int32} {q_deadMost : Int32} {q_st : Nat → Int32} {q_before : Nat → Int32} {q_kept : Nat → Int32} {q_isKept : Nat → Int32} {q_refused : Nat → Int32} {q_text : Nat → Int32} {q_ones : Nat → Int32} {q_said : Nat → Int32} {q_readTable : Nat → Int32} {q_least : Nat → Int32} {q_made : Nat → Int32} {q_enough : Nat → Int32} {q_isWanted : Nat → Int32} {q_column : Nat → Int32} {q_foundColumn : Nat → Int32} {q_walls : Nat → Int64} {q_wallMany : Nat → Int32} {q_chosen : Nat → Int32} {r : Int32 × (Nat → Int32)} (h : X8_putLight_J15 fu q_st = some r) : mm_Wp mX8_putLight (mm_R (P_X8_putLight q_textSize q_cursor q_start q_token q_number q_word q_fault q_line q_foundPains q_foundLine q_deadMany q_deadSize q_deadLeast q_deadMost q_before q_kept q_isKept q_refused q_text q_ones q_said q_readTable q_least q_made q_enough q_isWanted q_column q_foundColumn q_walls q_wallMany q_chosen r)) 0 0 15 [] [] (W_X8 q_textSize q_cursor q_start q_token q_number q_word q_fault q_line q_foundPains q_foundLine q_deadMany q_deadSize q_deadLeast q_deadMost q_st q_before q_kept q_isKept q_refused q_text q_ones q_said q_readTable q_least q_made q_enough q_isWanted q_column q_foundColumn q_walls q_wallMany q_chosen) := by
  rw [X8_putLight_J15] at h
  refine mm_bipush dX8_putLight_15 kb_m2 (pc' := 17) rfl ?_
  have h9 := Option.some.inj h
  subst h9
  exact mm_iret rfl dX8_putLight_17 ⟨rfl, rfl⟩
def f_X8_putLight (fu : Nat) (q_st : Nat → Int32) (v1 : Int32) (v2 : Int32) (v3 : Int32) : Option (Int32 × (Nat → Int32)) := (f_X8_isHour fu v1).bind fun t1 => if t1 = 0 then (X8_putLight_J15 fu q_st) else ((f_X8_isWindow fu q_st v2).bind fun t9 => if t9 = 0 then (X8_putLight_J15 fu q_st) else (mm_let (((96 : Int32) + ((60 : Int32) * v1)) + v2) fun y27 => mm_rd q_st 354 y27 fun x35 => if x35 = v3 then (some ((-3 : Int32), q_st)) else (mm_ck 354 y27 (some ((1 : Int32), upd q_st y27.toNatClampNeg v3)))))
set_option maxHeartbeats 4000000 in
set_option maxRecDepth 100000 in
theorem ok_X8_putLight {fu : Nat} {q_textSize : Int32} {q_cursor : Int32} {q_start : Int32} {q_token : Int32} {q_number : Int32} {q_word : Int64} {q_fault : Int32} {q_line : Int32} {q_foundPains : Int32} {q_foundLine : Int32} {q_deadMany : Int32} {q_deadSize : Int32} {q_deadLeast : Int32} {q_deadMost : Int32} {q_st : Nat → Int32} {q_before : Nat → Int32} {q_kept : Nat → Int32} {q_isKept : Nat → Int32} {q_refused : Nat → Int32} {q_text : Nat → Int32} {q_ones : Nat → Int32} {q_said : Nat → Int32} {q_readTable : Nat → Int32} {q_least : Nat → Int32} {q_made : Nat → Int32} {q_enough : Nat → Int32} {q_isWanted : Nat → Int32} {q_column : Nat → Int32} {q_foundColumn : Nat → Int32} {q_walls : Nat → Int64} {q_wallMany : Nat → Int32} {q_chosen : Nat → Int32} {r : Int32 × (Nat → Int32)} {v1 : Int32} {v2 : Int32} {v3 : Int32} (h : f_X8_putLight fu q_st v1 v2 v3 = some r) : mm_Ok mX8_putLight [.ref 0, .int v1, .int v2, .int v3] (W_X8 q_textSize q_cursor q_start q_token q_number q_word q_fault q_line q_foundPains q_foundLine q_deadMany q_deadSize q_deadLeast q_deadMost q_st q_before q_kept q_isKept q_refused q_text q_ones q_said q_readTable q_least q_made q_enough q_isWanted q_column q_foundColumn q_walls q_wallMany q_chosen) (P_X8_putLight q_textSize q_cursor q_start q_token q_number q_word q_fault q_line q_foundPains q_foundLine q_deadMany q_deadSize q_deadLeast q_deadMost q_before q_kept q_isKept q_refused q_text q_ones q_said q_readTable q_least q_made q_enough q_isWanted q_column q_foundColumn q_walls q_wallMany q_chosen r) := by
  rw [f_X8_putLight] at h
  refine mm_Ok.of pn_X8 (l := [(0, .ref 0), (1, .int v1), (2, .int v2), (3, .int v3)]) rfl (Nat.le_of_ble_eq_true rfl) ?_
  refine mm_iload_n 1 dX8_putLight_0 rfl rfl (pc' := 1) rfl ?_
  obtain ⟨t1, h1, h⟩ := mm_bd h
  refine mm_callS (As := [.int v1]) (rest := []) (av := [.int v1]) (wc := []) (is := []) cS_X8_85 (ok_X8_isHour h1) ⟨rfl, rfl, Nat.le_of_ble_eq_true rfl, Nat.le_of_ble_eq_true rfl⟩ dX8_putLight_1 rfl rfl rfl ⟨rfl, by decide, by decide⟩ (by rintro _ _ ⟨-, rfl⟩; rfl) (Nat.le_of_ble_eq_true rfl) ⟨Nat.le_of_ble_eq_true rfl, Nat.le_of_ble_eq_true rfl⟩ (pc' := 4) rfl ?_
  rintro rv w ⟨rfl, rfl⟩
  show mm_Wp _ _ _ _ 4 [(0, .ref 0), (1, .int v1), (2, .int v2), (3, .int v3)] [.int t1] (W_X8 q_textSize q_cursor q_start q_token q_number q_word q_fault q_line q_foundPains q_foundLine q_deadMany q_deadSize q_deadLeast q_deadMost q_st q_before q_kept q_isKept q_refused q_text q_ones q_said q_readTable q_least q_made q_enough q_isWanted q_column q_foundColumn q_walls q_wallMany q_chosen)
  clear h1
  refine mm_if_eq (tgt := 15) dX8_putLight_4 (by decide) (pc' := 7) rfl (fun c => ?_) (fun c => ?_)
  · replace h := mm_it h c
    clear c
    exact mm_sub [] rfl (s_X8_putLight_J15  h)
  · replace h := mm_if h c
    clear c
    refine mm_aload_n 0 dX8_putLight_7 rfl rfl (pc' := 8) rfl ?_
    refine mm_iload_n 2 dX8_putLight_8 rfl rfl (pc' := 9) rfl ?_
    obtain ⟨t9, h9, h⟩ := mm_bd h
    refine mm_call0 (As := [.int v2]) (rest := []) cV_X8_78 (ok_X8_isWindow h9) ⟨rfl, rfl, Nat.le_of_ble_eq_true rfl, Nat.le_of_ble_eq_true rfl⟩ dX8_putLight_9 rfl rfl rfl rfl (by rintro _ _ ⟨-, rfl⟩; rfl) (Nat.le_of_ble_eq_true rfl) ⟨Nat.le_of_ble_eq_true rfl, Nat.le_of_ble_eq_true rfl⟩ (pc' := 12) rfl ?_
    rintro rv w ⟨rfl, rfl⟩
    show mm_Wp _ _ _ _ 12 [(0, .ref 0), (1, .int v1), (2, .int v2), (3, .int v3)] [.int t9] (W_X8 q_textSize q_cursor q_start q_token q_number q_word q_fault q_line q_foundPains q_foundLine q_deadMany q_deadSize q_deadLeast q_deadMost q_st q_before q_kept q_isKept q_refused q_text q_ones q_said q_readTable q_least q_made q_enough q_isWanted q_column q_foundColumn q_walls q_wallMany q_chosen)
    clear h9
    refine mm_if_ne (tgt := 18) dX8_putLight_12 (by decide) (pc' := 15) rfl (fun c => ?_) (fun c => ?_)
    · replace h := mm_if h c
      clear c
      refine mm_bipush dX8_putLight_18 kb_96 (pc' := 20) rfl ?_
      refine mm_bipush dX8_putLight_20 kb_60 (pc' := 22) rfl ?_
      refine mm_iload_n 1 dX8_putLight_22 rfl rfl (pc' := 23) rfl ?_
      refine mm_imul dX8_putLight_23 (pc' := 24) rfl ?_
      refine mm_iadd dX8_putLight_24 (pc' := 25) rfl ?_
      refine mm_iload_n 2 dX8_putLight_25 rfl rfl (pc' := 26) rfl ?_
      refine mm_iadd dX8_putLight_26 (pc' := 27) rfl ?_
      refine mm_topi (fun y27 e => ?_)
      replace h := mm_let_of h y27 e
      clear e
      refine mm_istore dX8_putLight_27 (by decide) (l' := [(4, .int y27), (0, .ref 0), (1, .int v1), (2, .int v2), (3, .int v3)]) rfl (pc' := 29) rfl ?_
      refine mm_aload_n 1 dX8_putLight_29 rfl rfl (pc' := 30) rfl ?_
      refine mm_getf fG_X8_7 dX8_putLight_30 rfl rfl (pc' := 33) rfl ?_
      refine mm_iload 0 dX8_putLight_33 rfl (pc' := 35) rfl ?_
      obtain ⟨x35, c35, e35, h⟩ := mm_rd_of h
      refine mm_iald dX8_putLight_35 rfl c35 e35 (pc' := 36) rfl ?_
      clear c35 e35
      refine mm_iload_n 4 dX8_putLight_36 rfl rfl (pc' := 37) rfl ?_
      refine mm_icmp_ne (tgt := 43) dX8_putLight_37 (by decide) (pc' := 40) rfl (fun c => ?_) (fun c => ?_)
      · replace h := mm_if h c
        clear c
        refine mm_aload_n 1 dX8_putLight_43 rfl rfl (pc' := 44) rfl ?_
        refine mm_getf fG_X8_7 dX8_putLight_44 rfl rfl (pc' := 47) rfl ?_
        refine mm_iload 0 dX8_putLight_47 rfl (pc' := 49) rfl ?_
        refine mm_iload_n 4 dX8_putLight_49 rfl rfl (pc' := 50) rfl ?_
        obtain ⟨c50, h⟩ := mm_ck_of h
        refine mm_iast dX8_putLight_50 rfl c50 rfl (ws' := (W_X8 q_textSize q_cursor q_start q_token q_number q_word q_fault q_line q_foundPains q_foundLine q_deadMany q_deadSize q_deadLeast q_deadMost (upd q_st y27.toNatClampNeg v3) q_before q_kept q_isKept q_refused q_text q_ones q_said q_readTable q_least q_made q_enough q_isWanted q_column q_foundColumn q_walls q_wallMany q_chosen)) rfl (pc' := 51) rfl ?_
        clear c50
        refine mm_iconst dX8_putLight_51 ki_1 (pc' := 52) rfl ?_
        have h9 := Option.some.inj h
        subst h9
        exact mm_iret rfl dX8_putLight_52 ⟨rfl, rfl⟩
      · replace h := mm_it h c
        clear c
        refine mm_bipush dX8_putLight_40 kb_m3 (pc' := 42) rfl ?_
        have h9 := Option.some.inj h
        subst h9
        exact mm_iret rfl dX8_putLight_42 ⟨rfl, rfl⟩
    · replace h := mm_it h c
      clear c
      exact mm_sub [] rfl (s_X8_putLight_J15  h)

def P_X8_putSlack (q_textSize : Int32) (q_cursor : Int32) (q_start : Int32) (q_token : Int32) (q_number : Int32) (q_word : Int64) (q_fault : Int32) (q_line : Int32) (q_foundPains : Int32) (q_foundLine : Int32) (q_deadMany : Int32) (q_deadSize : Int32) (q_deadLeast : Int32) (q_deadMost : Int32) (q_before : Nat → Int32) (q_kept : Nat → Int32) (q_isKept : Nat → Int32) (q_refused : Nat → Int32) (q_text : Nat → Int32) (q_ones : Nat → Int32) (q_said : Nat → Int32) (q_readTable : Nat → Int32) (q_least : Nat → Int32) (q_made : Nat → Int32) (q_enough : Nat → Int32) (q_isWanted : Nat → Int32) (q_column : Nat → Int32) (q_foundColumn : Nat → Int32) (q_walls : Nat → Int64) (q_wallMany : Nat → Int32) (q_chosen : Nat → Int32) (r : Int32 × (Nat → Int32)) : Option Value → mm_W → Prop := fun rv w => rv = some (.int r.1) ∧ w = (W_X8 q_textSize q_cursor q_start q_token q_number q_word q_fault q_line q_foundPains q_foundLine q_deadMany q_deadSize q_deadLeast q_deadMost r.2 q_before q_kept q_isKept q_refused q_text q_ones q_said q_readTable q_least q_made q_enough q_isWanted q_column q_foundColumn q_walls q_wallMany q_chosen)
def f_X8_putSlack (fu : Nat) (q_st : Nat → Int32) (v1 : Int32) : Option (Int32 × (Nat → Int32)) := (f_X8_in fu v1 (0 : Int32) (3 : Int32)).bind fun t3 => if t3 = 0 then (some ((-2 : Int32), q_st)) else (some ((q_st 5), upd q_st 5 v1))
set_option maxHeartbeats 4000000 in
set_option maxRecDepth 100000 in
theorem ok_X8_putSlack {fu : Nat} {q_textSize : Int32} {q_cursor : Int32} {q_start : Int32} {q_token : Int32} {q_number : Int32} {q_word : Int64} {q_fault : Int32} {q_line : Int32} {q_foundPains : Int32} {q_foundLine : Int32} {q_deadMany : Int32} {q_deadSize : Int32} {q_deadLeast : Int32} {q_deadMost : Int32} {q_st : Nat → Int32} {q_before : Nat → Int32} {q_kept : Nat → Int32} {q_isKept : Nat → Int32} {q_refused : Nat → Int32} {q_text : Nat → Int32} {q_ones : Nat → Int32} {q_said : Nat → Int32} {q_readTable : Nat → Int32} {q_least : Nat → Int32} {q_made : Nat → Int32} {q_enough : Nat → Int32} {q_isWanted : Nat → Int32} {q_column : Nat → Int32} {q_foundColumn : Nat → Int32} {q_walls : Nat → Int64} {q_wallMany : Nat → Int32} {q_chosen : Nat → Int32} {r : Int32 × (Nat → Int32)} {v1 : Int32} (h : f_X8_putSlack fu q_st v1 = some r) : mm_Ok mX8_putSlack [.ref 0, .int v1] (W_X8 q_textSize q_cursor q_start q_token q_number q_word q_fault q_line q_foundPains q_foundLine q_deadMany q_deadSize q_deadLeast q_deadMost q_st q_before q_kept q_isKept q_refused q_text q_ones q_said q_readTable q_least q_made q_enough q_isWanted q_column q_foundColumn q_walls q_wallMany q_chosen) (P_X8_putSlack q_textSize q_cursor q_start q_token q_number q_word q_fault q_line q_foundPains q_foundLine q_deadMany q_deadSize q_deadLeast q_deadMost q_before q_kept q_isKept q_refused q_text q_ones q_said q_readTable q_least q_made q_enough q_isWanted q_column q_foundColumn q_walls q_wallMany q_chosen r) := by
  rw [f_X8_putSlack] at h
  refine mm_Ok.of pn_X8 (l := [(0, .ref 0), (1, .int v1)]) rfl (Nat.le_of_ble_eq_true rfl) ?_
  refine mm_iload_n 1 dX8_putSlack_0 rfl rfl (pc' := 1) rfl ?_
  refine mm_iconst dX8_putSlack_1 ki_0 (pc' := 2) rfl ?_
  refine mm_iconst dX8_putSlack_2 ki_3 (pc' := 3) rfl ?_
  obtain ⟨t3, h3, h⟩ := mm_bd h
  refine mm_callS (As := [.int v1, .int (0 : Int32), .int (3 : Int32)]) (rest := []) (av := [.int v1, .int (0 : Int32), .int (3 : Int32)]) (wc := []) (is := []) cS_X8_70 (ok_X8_in h3) ⟨rfl, rfl, Nat.le_of_ble_eq_true rfl, Nat.le_of_ble_eq_true rfl⟩ dX8_putSlack_3 rfl rfl rfl ⟨rfl, by decide, by decide⟩ (by rintro _ _ ⟨-, rfl⟩; rfl) (Nat.le_of_ble_eq_true rfl) ⟨Nat.le_of_ble_eq_true rfl, Nat.le_of_ble_eq_true rfl⟩ (pc' := 6) rfl ?_
  rintro rv w ⟨rfl, rfl⟩
  show mm_Wp _ _ _ _ 6 [(0, .ref 0), (1, .int v1)] [.int t3] (W_X8 q_textSize q_cursor q_start q_token q_number q_word q_fault q_line q_foundPains q_foundLine q_deadMany q_deadSize q_deadLeast q_deadMost q_st q_before q_kept q_isKept q_refused q_text q_ones q_said q_readTable q_least q_made q_enough q_isWanted q_column q_foundColumn q_walls q_wallMany q_chosen)
  clear h3
  refine mm_if_ne (tgt := 12) dX8_putSlack_6 (by decide) (pc' := 9) rfl (fun c => ?_) (fun c => ?_)
  · replace h := mm_if h c
    clear c
    refine mm_aload_n 0 dX8_putSlack_12 rfl rfl (pc' := 13) rfl ?_
    refine mm_getf fG_X8_7 dX8_putSlack_13 rfl rfl (pc' := 16) rfl ?_
    refine mm_iconst dX8_putSlack_16 ki_5 (pc' := 17) rfl ?_
    refine mm_iald dX8_putSlack_17 rfl ki_5_354 (congrArg _ kt_5) (pc' := 18) rfl ?_
    refine mm_istore_n dX8_putSlack_18 rfl (by decide) (l' := [(2, .int (q_st 5)), (0, .ref 0), (1, .int v1)]) rfl (pc' := 19) rfl ?_
    refine mm_aload_n 1 dX8_putSlack_19 rfl rfl (pc' := 20) rfl ?_
    refine mm_getf fG_X8_7 dX8_putSlack_20 rfl rfl (pc' := 23) rfl ?_
    refine mm_iconst dX8_putSlack_23 ki_5 (pc' := 24) rfl ?_
    refine mm_iload_n 2 dX8_putSlack_24 rfl rfl (pc' := 25) rfl ?_
    refine mm_iast dX8_putSlack_25 rfl ki_5_354 kt_5 (ws' := (W_X8 q_textSize q_cursor q_start q_token q_number q_word q_fault q_line q_foundPains q_foundLine q_deadMany q_deadSize q_deadLeast q_deadMost (upd q_st 5 v1) q_before q_kept q_isKept q_refused q_text q_ones q_said q_readTable q_least q_made q_enough q_isWanted q_column q_foundColumn q_walls q_wallMany q_chosen)) rfl (pc' := 26) rfl ?_
    refine mm_iload_n 0 dX8_putSlack_26 rfl rfl (pc' := 27) rfl ?_
    have h9 := Option.some.inj h
    subst h9
    exact mm_iret rfl dX8_putSlack_27 ⟨rfl, rfl⟩
  · replace h := mm_it h c
    clear c
    refine mm_bipush dX8_putSlack_9 kb_m2 (pc' := 11) rfl ?_
    have h9 := Option.some.inj h
    subst h9
    exact mm_iret rfl dX8_putSlack_11 ⟨rfl, rfl⟩

def P_X8_wall (q_textSize : Int32) (q_cursor : Int32) (q_start : Int32) (q_token : Int32) (q_number : Int32) (q_word : Int64) (q_fault : Int32) (q_line : Int32) (q_foundPains : Int32) (q_foundLine : Int32) (q_deadMany : Int32) (q_deadSize : Int32) (q_deadLeast : Int32) (q_deadMost : Int32) (q_before : Nat → Int32) (q_kept : Nat → Int32) (q_isKept : Nat → Int32) (q_text : Nat → Int32) (q_ones : Nat → Int32) (q_said : Nat → Int32) (q_readTable : Nat → Int32) (q_least : Nat → Int32) (q_made : Nat → Int32) (q_enough : Nat → Int32) (q_isWanted : Nat → Int32) (q_column : Nat → Int32) (q_foundColumn : Nat → Int32) (q_walls : Nat → Int64) (q_wallMany : Nat → Int32) (q_chosen : Nat → Int32) (r : Int32 × (Nat → Int32) × (Nat → Int32)) : Option Value → mm_W → Prop := fun rv w => rv = some (.int r.1) ∧ w = (W_X8 q_textSize q_cursor q_start q_token q_number q_word q_fault q_line q_foundPains q_foundLine q_deadMany q_deadSize q_deadLeast q_deadMost r.2.1 q_before q_kept q_isKept r.2.2 q_text q_ones q_said q_readTable q_least q_made q_enough q_isWanted q_column q_foundColumn q_walls q_wallMany q_chosen)
def f_X8_wall (fu : Nat) (q_st : Nat → Int32) (q_refused : Nat → Int32) (v1 : Int32) (v2 : Int32) : Option (Int32 × (Nat → Int32) × (Nat → Int32)) := (f_X8_putWall fu q_st v1 v2).bind fun t4 => (f_X8_told fu q_refused t4.1).bind fun t7 => some (t7.1, t4.2, t7.2)
set_option maxHeartbeats 4000000 in
set_option maxRecDepth 100000 in
theorem ok_X8_wall {fu : Nat} {q_textSize : Int32} {q_cursor : Int32} {q_start : Int32} {q_token : Int32} {q_number : Int32} {q_word : Int64} {q_fault : Int32} {q_line : Int32} {q_foundPains : Int32} {q_foundLine : Int32} {q_deadMany : Int32} {q_deadSize : Int32} {q_deadLeast : Int32} {q_deadMost : Int32} {q_st : Nat → Int32} {q_before : Nat → Int32} {q_kept : Nat → Int32} {q_isKept : Nat → Int32} {q_refused : Nat → Int32} {q_text : Nat → Int32} {q_ones : Nat → Int32} {q_said : Nat → Int32} {q_readTable : Nat → Int32} {q_least : Nat → Int32} {q_made : Nat → Int32} {q_enough : Nat → Int32} {q_isWanted : Nat → Int32} {q_column : Nat → Int32} {q_foundColumn : Nat → Int32} {q_walls : Nat → Int64} {q_wallMany : Nat → Int32} {q_chosen : Nat → Int32} {r : Int32 × (Nat → Int32) × (Nat → Int32)} {v1 : Int32} {v2 : Int32} (h : f_X8_wall fu q_st q_refused v1 v2 = some r) : mm_Ok mX8_wall [.ref 0, .int v1, .int v2] (W_X8 q_textSize q_cursor q_start q_token q_number q_word q_fault q_line q_foundPains q_foundLine q_deadMany q_deadSize q_deadLeast q_deadMost q_st q_before q_kept q_isKept q_refused q_text q_ones q_said q_readTable q_least q_made q_enough q_isWanted q_column q_foundColumn q_walls q_wallMany q_chosen) (P_X8_wall q_textSize q_cursor q_start q_token q_number q_word q_fault q_line q_foundPains q_foundLine q_deadMany q_deadSize q_deadLeast q_deadMost q_before q_kept q_isKept q_text q_ones q_said q_readTable q_least q_made q_enough q_isWanted q_column q_foundColumn q_walls q_wallMany q_chosen r) := by
  rw [f_X8_wall] at h
  refine mm_Ok.of pn_X8 (l := [(0, .ref 0), (1, .int v1), (2, .int v2)]) rfl (Nat.le_of_ble_eq_true rfl) ?_
  refine mm_aload_n 0 dX8_wall_0 rfl rfl (pc' := 1) rfl ?_
  refine mm_aload_n 0 dX8_wall_1 rfl rfl (pc' := 2) rfl ?_
  refine mm_iload_n 1 dX8_wall_2 rfl rfl (pc' := 3) rfl ?_
  refine mm_iload_n 2 dX8_wall_3 rfl rfl (pc' := 4) rfl ?_
  obtain ⟨t4, h4, h⟩ := mm_bd h
  refine mm_call0 (As := [.int v1, .int v2]) (rest := [.ref 0]) cV_X8_88 (ok_X8_putWall h4) ⟨rfl, rfl, Nat.le_of_ble_eq_true rfl, Nat.le_of_ble_eq_true rfl⟩ dX8_wall_4 rfl rfl rfl rfl (by rintro _ _ ⟨-, rfl⟩; rfl) (Nat.le_of_ble_eq_true rfl) ⟨Nat.le_of_ble_eq_true rfl, Nat.le_of_ble_eq_true rfl⟩ (pc' := 7) rfl ?_
  rintro rv w ⟨rfl, rfl⟩
  show mm_Wp _ _ _ _ 7 [(0, .ref 0), (1, .int v1), (2, .int v2)] [.int t4.1, .ref 0] (W_X8 q_textSize q_cursor q_start q_token q_number q_word q_fault q_line q_foundPains q_foundLine q_deadMany q_deadSize q_deadLeast q_deadMost t4.2 q_before q_kept q_isKept q_refused q_text q_ones q_said q_readTable q_least q_made q_enough q_isWanted q_column q_foundColumn q_walls q_wallMany q_chosen)
  clear h4
  obtain ⟨t7, h7, h⟩ := mm_bd h
  refine mm_call0 (As := [.int t4.1]) (rest := []) cV_X8_92 (ok_X8_told h7) ⟨rfl, rfl, Nat.le_of_ble_eq_true rfl, Nat.le_of_ble_eq_true rfl⟩ dX8_wall_7 rfl rfl rfl rfl (by rintro _ _ ⟨-, rfl⟩; rfl) (Nat.le_of_ble_eq_true rfl) ⟨Nat.le_of_ble_eq_true rfl, Nat.le_of_ble_eq_true rfl⟩ (pc' := 10) rfl ?_
  rintro rv w ⟨rfl, rfl⟩
  show mm_Wp _ _ _ _ 10 [(0, .ref 0), (1, .int v1), (2, .int v2)] [.int t7.1] (W_X8 q_textSize q_cursor q_start q_token q_number q_word q_fault q_line q_foundPains q_foundLine q_deadMany q_deadSize q_deadLeast q_deadMost t4.2 q_before q_kept q_isKept t7.2 q_text q_ones q_said q_readTable q_least q_made q_enough q_isWanted q_column q_foundColumn q_walls q_wallMany q_chosen)
  clear h7
  have h9 := Option.some.inj h
  subst h9
  exact mm_iret rfl dX8_wall_10 ⟨rfl, rfl⟩

def P_X8_tenant (q_textSize : Int32) (q_cursor : Int32) (q_start : Int32) (q_token : Int32) (q_number : Int32) (q_word : Int64) (q_fault : Int32) (q_line : Int32) (q_foundPains : Int32) (q_foundLine : Int32) (q_deadMany : Int32) (q_deadSize : Int32) (q_deadLeast : Int32) (q_deadMost : Int32) (q_before : Nat → Int32) (q_kept : Nat → Int32) (q_isKept : Nat → Int32) (q_text : Nat → Int32) (q_ones : Nat → Int32) (q_said : Nat → Int32) (q_readTable : Nat → Int32) (q_least : Nat → Int32) (q_made : Nat → Int32) (q_enough : Nat → Int32) (q_isWanted : Nat → Int32) (q_column : Nat → Int32) (q_foundColumn : Nat → Int32) (q_walls : Nat → Int64) (q_wallMany : Nat → Int32) (q_chosen : Nat → Int32) (r : Int32 × (Nat → Int32) × (Nat → Int32)) : Option Value → mm_W → Prop := fun rv w => rv = some (.int r.1) ∧ w = (W_X8 q_textSize q_cursor q_start q_token q_number q_word q_fault q_line q_foundPains q_foundLine q_deadMany q_deadSize q_deadLeast q_deadMost r.2.1 q_before q_kept q_isKept r.2.2 q_text q_ones q_said q_readTable q_least q_made q_enough q_isWanted q_column q_foundColumn q_walls q_wallMany q_chosen)
def f_X8_tenant (fu : Nat) (q_st : Nat → Int32) (q_refused : Nat → Int32) (v1 : Int32) (v2 : Int32) (v3 : Int32) : Option (Int32 × (Nat → Int32) × (Nat → Int32)) := (f_X8_putMan fu q_st v1 v2 v3).bind fun t5 => (f_X8_told fu q_refused t5.1).bind fun t8 => some (t8.1, t5.2, t8.2)
set_option maxHeartbeats 4000000 in
set_option maxRecDepth 100000 in
theorem ok_X8_tenant {fu : Nat} {q_textSize : Int32} {q_cursor : Int32} {q_start : Int32} {q_token : Int32} {q_number : Int32} {q_word : Int64} {q_fault : Int32} {q_line : Int32} {q_foundPains : Int32} {q_foundLine : Int32} {q_deadMany : Int32} {q_deadSize : Int32} {q_deadLeast : Int32} {q_deadMost : Int32} {q_st : Nat → Int32} {q_before : Nat → Int32} {q_kept : Nat → Int32} {q_isKept : Nat → Int32} {q_refused : Nat → Int32} {q_text : Nat → Int32} {q_ones : Nat → Int32} {q_said : Nat → Int32} {q_readTable : Nat → Int32} {q_least : Nat → Int32} {q_made : Nat → Int32} {q_enough : Nat → Int32} {q_isWanted : Nat → Int32} {q_column : Nat → Int32} {q_foundColumn : Nat → Int32} {q_walls : Nat → Int64} {q_wallMany : Nat → Int32} {q_chosen : Nat → Int32} {r : Int32 × (Nat → Int32) × (Nat → Int32)} {v1 : Int32} {v2 : Int32} {v3 : Int32} (h : f_X8_tenant fu q_st q_refused v1 v2 v3 = some r) : mm_Ok mX8_tenant [.ref 0, .int v1, .int v2, .int v3] (W_X8 q_textSize q_cursor q_start q_token q_number q_word q_fault q_line q_foundPains q_foundLine q_deadMany q_deadSize q_deadLeast q_deadMost q_st q_before q_kept q_isKept q_refused q_text q_ones q_said q_readTable q_least q_made q_enough q_isWanted q_column q_foundColumn q_walls q_wallMany q_chosen) (P_X8_tenant q_textSize q_cursor q_start q_token q_number q_word q_fault q_line q_foundPains q_foundLine q_deadMany q_deadSize q_deadLeast q_deadMost q_before q_kept q_isKept q_text q_ones q_said q_readTable q_least q_made q_enough q_isWanted q_column q_foundColumn q_walls q_wallMany q_chosen r) := by
  rw [f_X8_tenant] at h
  refine mm_Ok.of pn_X8 (l := [(0, .ref 0), (1, .int v1), (2, .int v2), (3, .int v3)]) rfl (Nat.le_of_ble_eq_true rfl) ?_
  refine mm_aload_n 0 dX8_tenant_0 rfl rfl (pc' := 1) rfl ?_
  refine mm_aload_n 0 dX8_tenant_1 rfl rfl (pc' := 2) rfl ?_
  refine mm_iload_n 1 dX8_tenant_2 rfl rfl (pc' := 3) rfl ?_
  refine mm_iload_n 2 dX8_tenant_3 rfl rfl (pc' := 4) rfl ?_
  refine mm_iload_n 3 dX8_tenant_4 rfl rfl (pc' := 5) rfl ?_
  obtain ⟨t5, h5, h⟩ := mm_bd h
  refine mm_call0 (As := [.int v1, .int v2, .int v3]) (rest := [.ref 0]) cV_X8_96 (ok_X8_putMan h5) ⟨rfl, rfl, Nat.le_of_ble_eq_true rfl, Nat.le_of_ble_eq_true rfl⟩ dX8_tenant_5 rfl rfl rfl rfl (by rintro _ _ ⟨-, rfl⟩; rfl) (Nat.le_of_ble_eq_true rfl) ⟨Nat.le_of_ble_eq_true rfl, Nat.le_of_ble_eq_true rfl⟩ (pc' := 8) rfl ?_
  rintro rv w ⟨rfl, rfl⟩
  show mm_Wp _ _ _ _ 8 [(0, .ref 0), (1, .int v1), (2, .int v2), (3, .int v3)] [.int t5.1, .ref 0] (W_X8 q_textSize q_cursor q_start q_token q_number q_word q_fault q_line q_foundPains q_foundLine q_deadMany q_deadSize q_deadLeast q_deadMost t5.2 q_before q_kept q_isKept q_refused q_text q_ones q_said q_readTable q_least q_made q_enough q_isWanted q_column q_foundColumn q_walls q_wallMany q_chosen)
  clear h5
  obtain ⟨t8, h8, h⟩ := mm_bd h
  refine mm_call0 (As := [.int t5.1]) (rest := []) cV_X8_92 (ok_X8_told h8) ⟨rfl, rfl, Nat.le_of_ble_eq_true rfl, Nat.le_of_ble_eq_true rfl⟩ dX8_tenant_8 rfl rfl rfl rfl (by rintro _ _ ⟨-, rfl⟩; rfl) (Nat.le_of_ble_eq_true rfl) ⟨Nat.le_of_ble_eq_true rfl, Nat.le_of_ble_eq_true rfl⟩ (pc' := 11) rfl ?_
  rintro rv w ⟨rfl, rfl⟩
  show mm_Wp _ _ _ _ 11 [(0, .ref 0), (1, .int v1), (2, .int v2), (3, .int v3)] [.int t8.1] (W_X8 q_textSize q_cursor q_start q_token q_number q_word q_fault q_line q_foundPains q_foundLine q_deadMany q_deadSize q_deadLeast q_deadMost t5.2 q_before q_kept q_isKept t8.2 q_text q_ones q_said q_readTable q_least q_made q_enough q_isWanted q_column q_foundColumn q_walls q_wallMany q_chosen)
  clear h8
  have h9 := Option.some.inj h
  subst h9
  exact mm_iret rfl dX8_tenant_11 ⟨rfl, rfl⟩

def P_X8_refuses (q_textSize : Int32) (q_cursor : Int32) (q_start : Int32) (q_token : Int32) (q_number : Int32) (q_word : Int64) (q_fault : Int32) (q_line : Int32) (q_foundPains : Int32) (q_foundLine : Int32) (q_deadMany : Int32) (q_deadSize : Int32) (q_deadLeast : Int32) (q_deadMost : Int32) (q_before : Nat → Int32) (q_kept : Nat → Int32) (q_isKept : Nat → Int32) (q_text : Nat → Int32) (q_ones : Nat → Int32) (q_said : Nat → Int32) (q_readTable : Nat → Int32) (q_least : Nat → Int32) (q_made : Nat → Int32) (q_enough : Nat → Int32) (q_isWanted : Nat → Int32) (q_column : Nat → Int32) (q_foundColumn : Nat → Int32) (q_walls : Nat → Int64) (q_wallMany : Nat → Int32) (q_chosen : Nat → Int32) (r : Int32 × (Nat → Int32) × (Nat → Int32)) : Option Value → mm_W → Prop := fun rv w => rv = some (.int r.1) ∧ w = (W_X8 q_textSize q_cursor q_start q_token q_number q_word q_fault q_line q_foundPains q_foundLine q_deadMany q_deadSize q_deadLeast q_deadMost r.2.1 q_before q_kept q_isKept r.2.2 q_text q_ones q_said q_readTable q_least q_made q_enough q_isWanted q_column q_foundColumn q_walls q_wallMany q_chosen)
def X8_refuses_J21 (fu : Nat)  (q_st : Nat → Int32) (q_refused : Nat → Int32)   : Option (Int32 × (Nat → Int32) × (Nat → Int32)) := (f_X8_told fu q_refused (-10 : Int32)).bind fun t24 => some (t24.1, q_st, t24.2)
set_option maxHeartbeats 4000000 in
set_option maxRecDepth 100000 in
theorem s_X8_refuses_J21 {fu : Nat} {q_textSize : Int32} {q_cursor : Int32} {q_start : Int32} {q_token : Int32} {q_number : Int32} {q_word : Int64} {q_fault : Int32} {q_line : Int32} {q_foundPains : Int32} {q_foundLine : Int32} {q_deadMany : Int32} {q_deadSize : Int32} {q_deadLeast : Int32} {q_deadMost : Int32} {q_st : Nat → Int32} {q_before : Nat → Int32} {q_kept : Nat → Int32} {q_isKept : Nat → Int32} {q_refused : Nat → Int32} {q_text : Nat → Int32} {q_ones : Nat → Int32} {q_said : Nat → Int32} {q_readTable : Nat → Int32} {q_least : Nat → Int32} {q_made : Nat → Int32} {q_enough : Nat → Int32} {q_isWanted : Nat → Int32} {q_column : Nat → Int32} {q_foundColumn : Nat → Int32} {q_walls : Nat → Int64} {q_wallMany : Nat → Int32} {q_chosen : Nat → Int32} {r : Int32 × (Nat → Int32) × (Nat → Int32)} (h : X8_refuses_J21 fu q_st q_refused = some r) : mm_Wp mX8_refuses (mm_R (P_X8_refuses q_textSize q_cursor q_start q_token q_number q_word q_fault q_line q_foundPains q_foundLine q_deadMany q_deadSize q_deadLeast q_deadMost q_before q_kept q_isKept q_text q_ones q_said q_readTable q_least q_made q_enough q_isWanted q_column q_foundColumn q_walls q_wallMany q_chosen r)) 0 0 21 [(0, .ref 0)] [] (W_X8 q_textSize q_cursor q_start q_token q_number q_word q_fault q_line q_foundPains q_foundLine q_deadMany q_deadSize q_deadLeast q_deadMost q_st q_before q_kept q_isKept q_refused q_text q_ones q_said q_readTable q_least q_made q_enough q_isWanted q_column q_foundColumn q_walls q_wallMany q_chosen) := by
  rw [X8_refuses_J21] at h
  refine mm_aload_n 0 dX8_refuses_21 rfl rfl (pc' := 22) rfl ?_
  refine mm_bipush dX8_refuses_22 kb_m10 (pc' := 24) rfl ?_
  obtain ⟨t24, h24, h⟩ := mm_bd h
  refine mm_call0 (As := [.int (-10 : Int32)]) (rest := []) cV_X8_92 (ok_X8_told h24) ⟨rfl, rfl, Nat.le_of_ble_eq_true rfl, Nat.le_of_ble_eq_true rfl⟩ dX8_refuses_24 rfl rfl rfl rfl (by rintro _ _ ⟨-, rfl⟩; rfl) (Nat.le_of_ble_eq_true rfl) ⟨Nat.le_of_ble_eq_true rfl, Nat.le_of_ble_eq_true rfl⟩ (pc' := 27) rfl ?_
  rintro rv w ⟨rfl, rfl⟩
  show mm_Wp _ _ _ _ 27 [(0, .ref 0)] [.int t24.1] (W_X8 q_textSize q_cursor q_start q_token q_number q_word q_fault q_line q_foundPains q_foundLine q_deadMany q_deadSize q_deadLeast q_deadMost q_st q_before q_kept q_isKept t24.2 q_text q_ones q_said q_readTable q_least q_made q_enough q_isWanted q_column q_foundColumn q_walls q_wallMany q_chosen)
  clear h24
  have h9 := Option.some.inj h
  subst h9
  exact mm_iret rfl dX8_refuses_27 ⟨rfl, rfl⟩
def X8_refuses_J28 (fu : Nat)  (q_st : Nat → Int32) (q_refused : Nat → Int32) (v1 : Int32) (v2 : Int32)  : Option (Int32 × (Nat → Int32) × (Nat → Int32)) := mm_let (((6 : Int32) + ((4 : Int32) * v1)) + (3 : Int32)) fun y36 => mm_rd q_st 354 y36 fun x42 => mm_ck 354 y36 (some (x42, upd q_st y36.toNatClampNeg v2, q_refused))
set_option maxHeartbeats 4000000 in
set_option maxRecDepth 100000 in
theorem s_X8_refuses_J28 {fu : Nat} {q_textSize : Int32} {q_cursor : Int32} {q_start : Int32} {q_token : Int32} {q_number : Int32} {q_word : Int64} {q_fault : Int32} {q_line : Int32} {q_foundPains : Int32} {q_foundLine : Int32} {q_deadMany : Int32} {q_deadSize : Int32} {q_deadLeast : Int32} {q_deadMost : Int32} {q_st : Nat → Int32} {q_before : Nat → Int32} {q_kept : Nat → Int32} {q_isKept : Nat → Int32} {q_refused : Nat → Int32} {q_text : Nat → Int32} {q_ones : Nat → Int32} {q_said : Nat → Int32} {q_readTable : Nat → Int32} {q_least : Nat → Int32} {q_made : Nat → Int32} {q_enough : Nat → Int32} {q_isWanted : Nat → Int32} {q_column : Nat → Int32} {q_foundColumn : Nat → Int32} {q_walls : Nat → Int64} {q_wallMany : Nat → Int32} {q_chosen : Nat → Int32} {r : Int32 × (Nat → Int32) × (Nat → Int32)} {v1 : Int32} {v2 : Int32} (h : X8_refuses_J28 fu q_st q_refused v1 v2 = some r) : mm_Wp mX8_refuses (mm_R (P_X8_refuses q_textSize q_cursor q_start q_token q_number q_word q_fault q_line q_foundPains q_foundLine q_deadMany q_deadSize q_deadLeast q_deadMost q_before q_kept q_isKept q_text q_ones q_said q_readTable q_least q_made q_enough q_isWanted q_column q_foundColumn q_walls q_wallMany q_chosen r)) 0 0 28 [(0, .ref 0), (1, .int v1), (2, .int v2)] [] (W_X8 q_textSize q_cursor q_start q_token q_number q_word q_fault q_line q_foundPains q_foundLine q_deadMany q_deadSize q_deadLeast q_deadMost q_st q_before q_kept q_isKept q_refused q_text q_ones q_said q_readTable q_least q_made q_enough q_isWanted q_column q_foundColumn q_walls q_wallMany q_chosen) := by
  rw [X8_refuses_J28] at h
  refine mm_bipush dX8_refuses_28 kb_6 (pc' := 30) rfl ?_
  refine mm_iconst dX8_refuses_30 ki_4 (pc' := 31) rfl ?_
  refine mm_iload_n 1 dX8_refuses_31 rfl rfl (pc' := 32) rfl ?_
  refine mm_imul dX8_refuses_32 (pc' := 33) rfl ?_
  refine mm_iadd dX8_refuses_33 (pc' := 34) rfl ?_
  refine mm_iconst dX8_refuses_34 ki_3 (pc' := 35) rfl ?_
  refine mm_iadd dX8_refuses_35 (pc' := 36) rfl ?_
  refine mm_topi (fun y36 e => ?_)
  replace h := mm_let_of h y36 e
  clear e
  refine mm_istore_n dX8_refuses_36 rfl (by decide) (l' := [(3, .int y36), (0, .ref 0), (1, .int v1), (2, .int v2)]) rfl (pc' := 37) rfl ?_
  refine mm_aload_n 1 dX8_refuses_37 rfl rfl (pc' := 38) rfl ?_
  refine mm_getf fG_X8_7 dX8_refuses_38 rfl rfl (pc' := 41) rfl ?_
  refine mm_iload_n 0 dX8_refuses_41 rfl rfl (pc' := 42) rfl ?_
  obtain ⟨x42, c42, e42, h⟩ := mm_rd_of h
  refine mm_iald dX8_refuses_42 rfl c42 e42 (pc' := 43) rfl ?_
  clear c42 e42
  refine mm_istore dX8_refuses_43 (by decide) (l' := [(4, .int x42), (3, .int y36), (0, .ref 0), (1, .int v1), (2, .int v2)]) rfl (pc' := 45) rfl ?_
  refine mm_aload_n 2 dX8_refuses_45 rfl rfl (pc' := 46) rfl ?_
  refine mm_getf fG_X8_7 dX8_refuses_46 rfl rfl (pc' := 49) rfl ?_
  refine mm_iload_n 1 dX8_refuses_49 rfl rfl (pc' := 50) rfl ?_
  refine mm_iload_n 4 dX8_refuses_50 rfl rfl (pc' := 51) rfl ?_
  obtain ⟨c51, h⟩ := mm_ck_of h
  refine mm_iast dX8_refuses_51 rfl c51 rfl (ws' := (W_X8 q_textSize q_cursor q_start q_token q_number q_word q_fault q_line q_foundPains q_foundLine q_deadMany q_deadSize q_deadLeast q_deadMost (upd q_st y36.toNatClampNeg v2) q_before q_kept q_isKept q_refused q_text q_ones q_said q_readTable q_least q_made q_enough q_isWanted q_column q_foundColumn q_walls q_wallMany q_chosen)) rfl (pc' := 52) rfl ?_
  clear c51
  refine mm_iload 0 dX8_refuses_52 rfl (pc' := 54) rfl ?_
  have h9 := Option.some.inj h
  subst h9
  exact mm_iret rfl dX8_refuses_54 ⟨rfl, rfl⟩
def f_X8_refuses (fu : Nat) (q_st : Nat → Int32) (q_refused : Nat → Int32) (v1 : Int32) (v2 : Int32) : Option (Int32 × (Nat → Int32) × (Nat → Int32)) := (f_X8_isMan fu q_st v1).bind fun t2 => if t2 = 0 then (X8_refuses_J21 fu q_st q_refused) else (if v2 = (-1 : Int32) then (X8_refuses_J28 fu q_st q_refused v1 v2) else ((f_X8_isLetter fu q_st v2).bind fun t15 => if t15 = 0 then (X8_refuses_J21 fu q_st q_refused) else (X8_refuses_J28 fu q_st q_refused v1 v2)))
set_option maxHeartbeats 4000000 in
set_option maxRecDepth 100000 in
theorem ok_X8_refuses {fu : Nat} {q_textSize : Int32} {q_cursor : Int32} {q_start : Int32} {q_token : Int32} {q_number : Int32} {q_word : Int64} {q_fault : Int32} {q_line : Int32} {q_foundPains : Int32} {q_foundLine : Int32} {q_deadMany : Int32} {q_deadSize : Int32} {q_deadLeast : Int32} {q_deadMost : Int32} {q_st : Nat → Int32} {q_before : Nat → Int32} {q_kept : Nat → Int32} {q_isKept : Nat → Int32} {q_refused : Nat → Int32} {q_text : Nat → Int32} {q_ones : Nat → Int32} {q_said : Nat → Int32} {q_readTable : Nat → Int32} {q_least : Nat → Int32} {q_made : Nat → Int32} {q_enough : Nat → Int32} {q_isWanted : Nat → Int32} {q_column : Nat → Int32} {q_foundColumn : Nat → Int32} {q_walls : Nat → Int64} {q_wallMany : Nat → Int32} {q_chosen : Nat → Int32} {r : Int32 × (Nat → Int32) × (Nat → Int32)} {v1 : Int32} {v2 : Int32} (h : f_X8_refuses fu q_st q_refused v1 v2 = some r) : mm_Ok mX8_refuses [.ref 0, .int v1, .int v2] (W_X8 q_textSize q_cursor q_start q_token q_number q_word q_fault q_line q_foundPains q_foundLine q_deadMany q_deadSize q_deadLeast q_deadMost q_st q_before q_kept q_isKept q_refused q_text q_ones q_said q_readTable q_least q_made q_enough q_isWanted q_column q_foundColumn q_walls q_wallMany q_chosen) (P_X8_refuses q_textSize q_cursor q_start q_token q_number q_word q_fault q_line q_foundPains q_foundLine q_deadMany q_deadSize q_deadLeast q_deadMost q_before q_kept q_isKept q_text q_ones q_said q_readTable q_least q_made q_enough q_isWanted q_column q_foundColumn q_walls q_wallMany q_chosen r) := by
  rw [f_X8_refuses] at h
  refine mm_Ok.of pn_X8 (l := [(0, .ref 0), (1, .int v1), (2, .int v2)]) rfl (Nat.le_of_ble_eq_true rfl) ?_
  refine mm_aload_n 0 dX8_refuses_0 rfl rfl (pc' := 1) rfl ?_
  refine mm_iload_n 1 dX8_refuses_1 rfl rfl (pc' := 2) rfl ?_
  obtain ⟨t2, h2, h⟩ := mm_bd h
  refine mm_call0 (As := [.int v1]) (rest := []) cV_X8_82 (ok_X8_isMan h2) ⟨rfl, rfl, Nat.le_of_ble_eq_true rfl, Nat.le_of_ble_eq_true rfl⟩ dX8_refuses_2 rfl rfl rfl rfl (by rintro _ _ ⟨-, rfl⟩; rfl) (Nat.le_of_ble_eq_true rfl) ⟨Nat.le_of_ble_eq_true rfl, Nat.le_of_ble_eq_true rfl⟩ (pc' := 5) rfl ?_
  rintro rv w ⟨rfl, rfl⟩
  show mm_Wp _ _ _ _ 5 [(0, .ref 0), (1, .int v1), (2, .int v2)] [.int t2] (W_X8 q_textSize q_cursor q_start q_token q_number q_word q_fault q_line q_foundPains q_foundLine q_deadMany q_deadSize q_deadLeast q_deadMost q_st q_before q_kept q_isKept q_refused q_text q_ones q_said q_readTable q_least q_made q_enough q_isWanted q_column q_foundColumn q_walls q_wallMany q_chosen)
  clear h2
  refine mm_if_eq (tgt := 21) dX8_refuses_5 (by decide) (pc' := 8) rfl (fun c => ?_) (fun c => ?_)
  · replace h := mm_it h c
    clear c
    exact mm_sub [0] rfl (s_X8_refuses_J21  h)
  · replace h := mm_if h c
    clear c
    refine mm_iload_n 2 dX8_refuses_8 rfl rfl (pc' := 9) rfl ?_
    refine mm_iconst dX8_refuses_9 ki_m1 (pc' := 10) rfl ?_
    refine mm_icmp_eq (tgt := 28) dX8_refuses_10 (by decide) (pc' := 13) rfl (fun c => ?_) (fun c => ?_)
    · replace h := mm_it h c
      clear c
      exact s_X8_refuses_J28  h
    · replace h := mm_if h c
      clear c
      refine mm_aload_n 0 dX8_refuses_13 rfl rfl (pc' := 14) rfl ?_
      refine mm_iload_n 2 dX8_refuses_14 rfl rfl (pc' := 15) rfl ?_
      obtain ⟨t15, h15, h⟩ := mm_bd h
      refine mm_call0 (As := [.int v2]) (rest := []) cV_X8_100 (ok_X8_isLetter h15) ⟨rfl, rfl, Nat.le_of_ble_eq_true rfl, Nat.le_of_ble_eq_true rfl⟩ dX8_refuses_15 rfl rfl rfl rfl (by rintro _ _ ⟨-, rfl⟩; rfl) (Nat.le_of_ble_eq_true rfl) ⟨Nat.le_of_ble_eq_true rfl, Nat.le_of_ble_eq_true rfl⟩ (pc' := 18) rfl ?_
      rintro rv w ⟨rfl, rfl⟩
      show mm_Wp _ _ _ _ 18 [(0, .ref 0), (1, .int v1), (2, .int v2)] [.int t15] (W_X8 q_textSize q_cursor q_start q_token q_number q_word q_fault q_line q_foundPains q_foundLine q_deadMany q_deadSize q_deadLeast q_deadMost q_st q_before q_kept q_isKept q_refused q_text q_ones q_said q_readTable q_least q_made q_enough q_isWanted q_column q_foundColumn q_walls q_wallMany q_chosen)
      clear h15
      refine mm_if_ne (tgt := 28) dX8_refuses_18 (by decide) (pc' := 21) rfl (fun c => ?_) (fun c => ?_)
      · replace h := mm_if h c
        clear c
        exact s_X8_refuses_J28  h
      · replace h := mm_it h c
        clear c
        exact mm_sub [0] rfl (s_X8_refuses_J21  h)

def P_X8_has (q_textSize : Int32) (q_cursor : Int32) (q_start : Int32) (q_token : Int32) (q_number : Int32) (q_word : Int64) (q_fault : Int32) (q_line : Int32) (q_foundPains : Int32) (q_foundLine : Int32) (q_deadMany : Int32) (q_deadSize : Int32) (q_deadLeast : Int32) (q_deadMost : Int32) (q_before : Nat → Int32) (q_kept : Nat → Int32) (q_isKept : Nat → Int32) (q_text : Nat → Int32) (q_ones : Nat → Int32) (q_said : Nat → Int32) (q_readTable : Nat → Int32) (q_least : Nat → Int32) (q_made : Nat → Int32) (q_enough : Nat → Int32) (q_isWanted : Nat → Int32) (q_column : Nat → Int32) (q_foundColumn : Nat → Int32) (q_walls : Nat → Int64) (q_wallMany : Nat → Int32) (q_chosen : Nat → Int32) (r : Int32 × (Nat → Int32) × (Nat → Int32)) : Option Value → mm_W → Prop := fun rv w => rv = some (.int r.1) ∧ w = (W_X8 q_textSize q_cursor q_start q_token q_number q_word q_fault q_line q_foundPains q_foundLine q_deadMany q_deadSize q_deadLeast q_deadMost r.2.1 q_before q_kept q_isKept r.2.2 q_text q_ones q_said q_readTable q_least q_made q_enough q_isWanted q_column q_foundColumn q_walls q_wallMany q_chosen)
def f_X8_has (fu : Nat) (q_st : Nat → Int32) (q_refused : Nat → Int32) (v1 : Int32) (v2 : Int32) : Option (Int32 × (Nat → Int32) × (Nat → Int32)) := (f_X8_putOwner fu q_st v1 v2).bind fun t4 => (f_X8_told fu q_refused t4.1).bind fun t7 => some (t7.1, t4.2, t7.2)
set_option maxHeartbeats 4000000 in
set_option maxRecDepth 100000 in
theorem ok_X8_has {fu : Nat} {q_textSize : Int32} {q_cursor : Int32} {q_start : Int32} {q_token : Int32} {q_number : Int32} {q_word : Int64} {q_fault : Int32} {q_line : Int32} {q_foundPains : Int32} {q_foundLine : Int32} {q_deadMany : Int32} {q_deadSize : Int32} {q_deadLeast : Int32} {q_deadMost : Int32} {q_st : Nat → Int32} {q_before : Nat → Int32} {q_kept : Nat → Int32} {q_isKept : Nat → Int32} {q_refused : Nat → Int32} {q_text : Nat → Int32} {q_ones : Nat → Int32} {q_said : Nat → Int32} {q_readTable : Nat → Int32} {q_least : Nat → Int32} {q_made : Nat → Int32} {q_enough : Nat → Int32} {q_isWanted : Nat → Int32} {q_column : Nat → Int32} {q_foundColumn : Nat → Int32} {q_walls : Nat → Int64} {q_wallMany : Nat → Int32} {q_chosen : Nat → Int32} {r : Int32 × (Nat → Int32) × (Nat → Int32)} {v1 : Int32} {v2 : Int32} (h : f_X8_has fu q_st q_refused v1 v2 = some r) : mm_Ok mX8_has [.ref 0, .int v1, .int v2] (W_X8 q_textSize q_cursor q_start q_token q_number q_word q_fault q_line q_foundPains q_foundLine q_deadMany q_deadSize q_deadLeast q_deadMost q_st q_before q_kept q_isKept q_refused q_text q_ones q_said q_readTable q_least q_made q_enough q_isWanted q_column q_foundColumn q_walls q_wallMany q_chosen) (P_X8_has q_textSize q_cursor q_start q_token q_number q_word q_fault q_line q_foundPains q_foundLine q_deadMany q_deadSize q_deadLeast q_deadMost q_before q_kept q_isKept q_text q_ones q_said q_readTable q_least q_made q_enough q_isWanted q_column q_foundColumn q_walls q_wallMany q_chosen r) := by
  rw [f_X8_has] at h
  refine mm_Ok.of pn_X8 (l := [(0, .ref 0), (1, .int v1), (2, .int v2)]) rfl (Nat.le_of_ble_eq_true rfl) ?_
  refine mm_aload_n 0 dX8_has_0 rfl rfl (pc' := 1) rfl ?_
  refine mm_aload_n 0 dX8_has_1 rfl rfl (pc' := 2) rfl ?_
  refine mm_iload_n 1 dX8_has_2 rfl rfl (pc' := 3) rfl ?_
  refine mm_iload_n 2 dX8_has_3 rfl rfl (pc' := 4) rfl ?_
  obtain ⟨t4, h4, h⟩ := mm_bd h
  refine mm_call0 (As := [.int v1, .int v2]) (rest := [.ref 0]) cV_X8_103 (ok_X8_putOwner h4) ⟨rfl, rfl, Nat.le_of_ble_eq_true rfl, Nat.le_of_ble_eq_true rfl⟩ dX8_has_4 rfl rfl rfl rfl (by rintro _ _ ⟨-, rfl⟩; rfl) (Nat.le_of_ble_eq_true rfl) ⟨Nat.le_of_ble_eq_true rfl, Nat.le_of_ble_eq_true rfl⟩ (pc' := 7) rfl ?_
  rintro rv w ⟨rfl, rfl⟩
  show mm_Wp _ _ _ _ 7 [(0, .ref 0), (1, .int v1), (2, .int v2)] [.int t4.1, .ref 0] (W_X8 q_textSize q_cursor q_start q_token q_number q_word q_fault q_line q_foundPains q_foundLine q_deadMany q_deadSize q_deadLeast q_deadMost t4.2 q_before q_kept q_isKept q_refused q_text q_ones q_said q_readTable q_least q_made q_enough q_isWanted q_column q_foundColumn q_walls q_wallMany q_chosen)
  clear h4
  obtain ⟨t7, h7, h⟩ := mm_bd h
  refine mm_call0 (As := [.int t4.1]) (rest := []) cV_X8_92 (ok_X8_told h7) ⟨rfl, rfl, Nat.le_of_ble_eq_true rfl, Nat.le_of_ble_eq_true rfl⟩ dX8_has_7 rfl rfl rfl rfl (by rintro _ _ ⟨-, rfl⟩; rfl) (Nat.le_of_ble_eq_true rfl) ⟨Nat.le_of_ble_eq_true rfl, Nat.le_of_ble_eq_true rfl⟩ (pc' := 10) rfl ?_
  rintro rv w ⟨rfl, rfl⟩
  show mm_Wp _ _ _ _ 10 [(0, .ref 0), (1, .int v1), (2, .int v2)] [.int t7.1] (W_X8 q_textSize q_cursor q_start q_token q_number q_word q_fault q_line q_foundPains q_foundLine q_deadMany q_deadSize q_deadLeast q_deadMost t4.2 q_before q_kept q_isKept t7.2 q_text q_ones q_said q_readTable q_least q_made q_enough q_isWanted q_column q_foundColumn q_walls q_wallMany q_chosen)
  clear h7
  have h9 := Option.some.inj h
  subst h9
  exact mm_iret rfl dX8_has_10 ⟨rfl, rfl⟩

def P_X8_letter (q_textSize : Int32) (q_cursor : Int32) (q_start : Int32) (q_token : Int32) (q_number : Int32) (q_word : Int64) (q_fault : Int32) (q_line : Int32) (q_foundPains : Int32) (q_foundLine : Int32) (q_deadMany : Int32) (q_deadSize : Int32) (q_deadLeast : Int32) (q_deadMost : Int32) (q_before : Nat → Int32) (q_kept : Nat → Int32) (q_isKept : Nat → Int32) (q_text : Nat → Int32) (q_ones : Nat → Int32) (q_said : Nat → Int32) (q_readTable : Nat → Int32) (q_least : Nat → Int32) (q_made : Nat → Int32) (q_enough : Nat → Int32) (q_isWanted : Nat → Int32) (q_column : Nat → Int32) (q_foundColumn : Nat → Int32) (q_walls : Nat → Int64) (q_wallMany : Nat → Int32) (q_chosen : Nat → Int32) (r : Int32 × (Nat → Int32) × (Nat → Int32)) : Option Value → mm_W → Prop := fun rv w => rv = some (.int r.1) ∧ w = (W_X8 q_textSize q_cursor q_start q_token q_number q_word q_fault q_line q_foundPains q_foundLine q_deadMany q_deadSize q_deadLeast q_deadMost r.2.1 q_before q_kept q_isKept r.2.2 q_text q_ones q_said q_readTable q_least q_made q_enough q_isWanted q_column q_foundColumn q_walls q_wallMany q_chosen)
def f_X8_letter (fu : Nat) (q_st : Nat → Int32) (q_refused : Nat → Int32) (v1 : Int32) : Option (Int32 × (Nat → Int32) × (Nat → Int32)) := (f_X8_putLetter fu q_st v1).bind fun t3 => (f_X8_told fu q_refused t3.1).bind fun t6 => some (t6.1, t3.2, t6.2)
set_option maxHeartbeats 4000000 in
set_option maxRecDepth 100000 in
theorem ok_X8_letter {fu : Nat} {q_textSize : Int32} {q_cursor : Int32} {q_start : Int32} {q_token : Int32} {q_number : Int32} {q_word : Int64} {q_fault : Int32} {q_line : Int32} {q_foundPains : Int32} {q_foundLine : Int32} {q_deadMany : Int32} {q_deadSize : Int32} {q_deadLeast : Int32} {q_deadMost : Int32} {q_st : Nat → Int32} {q_before : Nat → Int32} {q_kept : Nat → Int32} {q_isKept : Nat → Int32} {q_refused : Nat → Int32} {q_text : Nat → Int32} {q_ones : Nat → Int32} {q_said : Nat → Int32} {q_readTable : Nat → Int32} {q_least : Nat → Int32} {q_made : Nat → Int32} {q_enough : Nat → Int32} {q_isWanted : Nat → Int32} {q_column : Nat → Int32} {q_foundColumn : Nat → Int32} {q_walls : Nat → Int64} {q_wallMany : Nat → Int32} {q_chosen : Nat → Int32} {r : Int32 × (Nat → Int32) × (Nat → Int32)} {v1 : Int32} (h : f_X8_letter fu q_st q_refused v1 = some r) : mm_Ok mX8_letter [.ref 0, .int v1] (W_X8 q_textSize q_cursor q_start q_token q_number q_word q_fault q_line q_foundPains q_foundLine q_deadMany q_deadSize q_deadLeast q_deadMost q_st q_before q_kept q_isKept q_refused q_text q_ones q_said q_readTable q_least q_made q_enough q_isWanted q_column q_foundColumn q_walls q_wallMany q_chosen) (P_X8_letter q_textSize q_cursor q_start q_token q_number q_word q_fault q_line q_foundPains q_foundLine q_deadMany q_deadSize q_deadLeast q_deadMost q_before q_kept q_isKept q_text q_ones q_said q_readTable q_least q_made q_enough q_isWanted q_column q_foundColumn q_walls q_wallMany q_chosen r) := by
  rw [f_X8_letter] at h
  refine mm_Ok.of pn_X8 (l := [(0, .ref 0), (1, .int v1)]) rfl (Nat.le_of_ble_eq_true rfl) ?_
  refine mm_aload_n 0 dX8_letter_0 rfl rfl (pc' := 1) rfl ?_
  refine mm_aload_n 0 dX8_letter_1 rfl rfl (pc' := 2) rfl ?_
  refine mm_iload_n 1 dX8_letter_2 rfl rfl (pc' := 3) rfl ?_
  obtain ⟨t3, h3, h⟩ := mm_bd h
  refine mm_call0 (As := [.int v1]) (rest := [.ref 0]) cV_X8_106 (ok_X8_putLetter h3) ⟨rfl, rfl, Nat.le_of_ble_eq_true rfl, Nat.le_of_ble_eq_true rfl⟩ dX8_letter_3 rfl rfl rfl rfl (by rintro _ _ ⟨-, rfl⟩; rfl) (Nat.le_of_ble_eq_true rfl) ⟨Nat.le_of_ble_eq_true rfl, Nat.le_of_ble_eq_true rfl⟩ (pc' := 6) rfl ?_
  rintro rv w ⟨rfl, rfl⟩
  show mm_Wp _ _ _ _ 6 [(0, .ref 0), (1, .int v1)] [.int t3.1, .ref 0] (W_X8 q_textSize q_cursor q_start q_token q_number q_word q_fault q_line q_foundPains q_foundLine q_deadMany q_deadSize q_deadLeast q_deadMost t3.2 q_before q_kept q_isKept q_refused q_text q_ones q_said q_readTable q_least q_made q_enough q_isWanted q_column q_foundColumn q_walls q_wallMany q_chosen)
  clear h3
  obtain ⟨t6, h6, h⟩ := mm_bd h
  refine mm_call0 (As := [.int t3.1]) (rest := []) cV_X8_92 (ok_X8_told h6) ⟨rfl, rfl, Nat.le_of_ble_eq_true rfl, Nat.le_of_ble_eq_true rfl⟩ dX8_letter_6 rfl rfl rfl rfl (by rintro _ _ ⟨-, rfl⟩; rfl) (Nat.le_of_ble_eq_true rfl) ⟨Nat.le_of_ble_eq_true rfl, Nat.le_of_ble_eq_true rfl⟩ (pc' := 9) rfl ?_
  rintro rv w ⟨rfl, rfl⟩
  show mm_Wp _ _ _ _ 9 [(0, .ref 0), (1, .int v1)] [.int t6.1] (W_X8 q_textSize q_cursor q_start q_token q_number q_word q_fault q_line q_foundPains q_foundLine q_deadMany q_deadSize q_deadLeast q_deadMost t3.2 q_before q_kept q_isKept t6.2 q_text q_ones q_said q_readTable q_least q_made q_enough q_isWanted q_column q_foundColumn q_walls q_wallMany q_chosen)
  clear h6
  have h9 := Option.some.inj h
  subst h9
  exact mm_iret rfl dX8_letter_9 ⟨rfl, rfl⟩

def P_X8_lit (q_textSize : Int32) (q_cursor : Int32) (q_start : Int32) (q_token : Int32) (q_number : Int32) (q_word : Int64) (q_fault : Int32) (q_line : Int32) (q_foundPains : Int32) (q_foundLine : Int32) (q_deadMany : Int32) (q_deadSize : Int32) (q_deadLeast : Int32) (q_deadMost : Int32) (q_before : Nat → Int32) (q_kept : Nat → Int32) (q_isKept : Nat → Int32) (q_text : Nat → Int32) (q_ones : Nat → Int32) (q_said : Nat → Int32) (q_readTable : Nat → Int32) (q_least : Nat → Int32) (q_made : Nat → Int32) (q_enough : Nat → Int32) (q_isWanted : Nat → Int32) (q_column : Nat → Int32) (q_foundColumn : Nat → Int32) (q_walls : Nat → Int64) (q_wallMany : Nat → Int32) (q_chosen : Nat → Int32) (r : Int32 × (Nat → Int32) × (Nat → Int32)) : Option Value → mm_W → Prop := fun rv w => rv = some (.int r.1) ∧ w = (W_X8 q_textSize q_cursor q_start q_token q_number q_word q_fault q_line q_foundPains q_foundLine q_deadMany q_deadSize q_deadLeast q_deadMost r.2.1 q_before q_kept q_isKept r.2.2 q_text q_ones q_said q_readTable q_least q_made q_enough q_isWanted q_column q_foundColumn q_walls q_wallMany q_chosen)
def X8_lit_J13 (fu : Nat)  (q_st : Nat → Int32) (q_refused : Nat → Int32)  (s0 : Int32) (s1 : Int32) (s2 : Int32) : Option (Int32 × (Nat → Int32) × (Nat → Int32)) := (f_X8_putLight fu q_st s2 s1 s0).bind fun t13 => (f_X8_told fu q_refused t13.1).bind fun t16 => some (t16.1, t13.2, t16.2)
set_option maxHeartbeats 4000000 in
set_option maxRecDepth 100000 in
theorem s_X8_lit_J13 {fu : Nat} {q_textSize : Int32} {q_cursor : Int32} {q_start : Int32} {q_token : Int32} {q_number : Int32} {q_word : Int64} {q_fault : Int32} {q_line : Int32} {q_foundPains : Int32} {q_foundLine : Int32} {q_deadMany : Int32} {q_deadSize : Int32} {q_deadLeast : Int32} {q_deadMost : Int32} {q_st : Nat → Int32} {q_before : Nat → Int32} {q_kept : Nat → Int32} {q_isKept : Nat → Int32} {q_refused : Nat → Int32} {q_text : Nat → Int32} {q_ones : Nat → Int32} {q_said : Nat → Int32} {q_readTable : Nat → Int32} {q_least : Nat → Int32} {q_made : Nat → Int32} {q_enough : Nat → Int32} {q_isWanted : Nat → Int32} {q_column : Nat → Int32} {q_foundColumn : Nat → Int32} {q_walls : Nat → Int64} {q_wallMany : Nat → Int32} {q_chosen : Nat → Int32} {r : Int32 × (Nat → Int32) × (Nat → Int32)} {s0 : Int32} {s1 : Int32} {s2 : Int32} (h : X8_lit_J13 fu q_st q_refused s0 s1 s2 = some r) : mm_Wp mX8_lit (mm_R (P_X8_lit q_textSize q_cursor q_start q_token q_number q_word q_fault q_line q_foundPains q_foundLine q_deadMany q_deadSize q_deadLeast q_deadMost q_before q_kept q_isKept q_text q_ones q_said q_readTable q_least q_made q_enough q_isWanted q_column q_foundColumn q_walls q_wallMany q_chosen r)) 0 0 13 [] [.int s0, .int s1, .int s2, .ref 0, .ref 0] (W_X8 q_textSize q_cursor q_start q_token q_number q_word q_fault q_line q_foundPains q_foundLine q_deadMany q_deadSize q_deadLeast q_deadMost q_st q_before q_kept q_isKept q_refused q_text q_ones q_said q_readTable q_least q_made q_enough q_isWanted q_column q_foundColumn q_walls q_wallMany q_chosen) := by
  rw [X8_lit_J13] at h
  obtain ⟨t13, h13, h⟩ := mm_bd h
  refine mm_call0 (As := [.int s2, .int s1, .int s0]) (rest := [.ref 0]) cV_X8_109 (ok_X8_putLight h13) ⟨rfl, rfl, Nat.le_of_ble_eq_true rfl, Nat.le_of_ble_eq_true rfl⟩ dX8_lit_13 rfl rfl rfl rfl (by rintro _ _ ⟨-, rfl⟩; rfl) (Nat.le_of_ble_eq_true rfl) ⟨Nat.le_of_ble_eq_true rfl, Nat.le_of_ble_eq_true rfl⟩ (pc' := 16) rfl ?_
  rintro rv w ⟨rfl, rfl⟩
  show mm_Wp _ _ _ _ 16 [] [.int t13.1, .ref 0] (W_X8 q_textSize q_cursor q_start q_token q_number q_word q_fault q_line q_foundPains q_foundLine q_deadMany q_deadSize q_deadLeast q_deadMost t13.2 q_before q_kept q_isKept q_refused q_text q_ones q_said q_readTable q_least q_made q_enough q_isWanted q_column q_foundColumn q_walls q_wallMany q_chosen)
  clear h13
  obtain ⟨t16, h16, h⟩ := mm_bd h
  refine mm_call0 (As := [.int t13.1]) (rest := []) cV_X8_92 (ok_X8_told h16) ⟨rfl, rfl, Nat.le_of_ble_eq_true rfl, Nat.le_of_ble_eq_true rfl⟩ dX8_lit_16 rfl rfl rfl rfl (by rintro _ _ ⟨-, rfl⟩; rfl) (Nat.le_of_ble_eq_true rfl) ⟨Nat.le_of_ble_eq_true rfl, Nat.le_of_ble_eq_true rfl⟩ (pc' := 19) rfl ?_
  rintro rv w ⟨rfl, rfl⟩
  show mm_Wp _ _ _ _ 19 [] [.int t16.1] (W_X8 q_textSize q_cursor q_start q_token q_number q_word q_fault q_line q_foundPains q_foundLine q_deadMany q_deadSize q_deadLeast q_deadMost t13.2 q_before q_kept q_isKept t16.2 q_text q_ones q_said q_readTable q_least q_made q_enough q_isWanted q_column q_foundColumn q_walls q_wallMany q_chosen)
  clear h16
  have h9 := Option.some.inj h
  subst h9
  exact mm_iret rfl dX8_lit_19 ⟨rfl, rfl⟩
def f_X8_lit (fu : Nat) (q_st : Nat → Int32) (q_refused : Nat → Int32) (v1 : Int32) (v2 : Int32) (v3 : Int32) : Option (Int32 × (Nat → Int32) × (Nat → Int32)) := if v3 = 0 then (X8_lit_J13 fu q_st q_refused (0 : Int32) v2 v1) else (X8_lit_J13 fu q_st q_refused (1 : Int32) v2 v1)
set_option maxHeartbeats 4000000 in
set_option maxRecDepth 100000 in
theorem ok_X8_lit {fu : Nat} {q_textSize : Int32} {q_cursor : Int32} {q_start : Int32} {q_token : Int32} {q_number : Int32} {q_word : Int64} {q_fault : Int32} {q_line : Int32} {q_foundPains : Int32} {q_foundLine : Int32} {q_deadMany : Int32} {q_deadSize : Int32} {q_deadLeast : Int32} {q_deadMost : Int32} {q_st : Nat → Int32} {q_before : Nat → Int32} {q_kept : Nat → Int32} {q_isKept : Nat → Int32} {q_refused : Nat → Int32} {q_text : Nat → Int32} {q_ones : Nat → Int32} {q_said : Nat → Int32} {q_readTable : Nat → Int32} {q_least : Nat → Int32} {q_made : Nat → Int32} {q_enough : Nat → Int32} {q_isWanted : Nat → Int32} {q_column : Nat → Int32} {q_foundColumn : Nat → Int32} {q_walls : Nat → Int64} {q_wallMany : Nat → Int32} {q_chosen : Nat → Int32} {r : Int32 × (Nat → Int32) × (Nat → Int32)} {v1 : Int32} {v2 : Int32} {v3 : Int32} (h : f_X8_lit fu q_st q_refused v1 v2 v3 = some r) : mm_Ok mX8_lit [.ref 0, .int v1, .int v2, .int v3] (W_X8 q_textSize q_cursor q_start q_token q_number q_word q_fault q_line q_foundPains q_foundLine q_deadMany q_deadSize q_deadLeast q_deadMost q_st q_before q_kept q_isKept q_refused q_text q_ones q_said q_readTable q_least q_made q_enough q_isWanted q_column q_foundColumn q_walls q_wallMany q_chosen) (P_X8_lit q_textSize q_cursor q_start q_token q_number q_word q_fault q_line q_foundPains q_foundLine q_deadMany q_deadSize q_deadLeast q_deadMost q_before q_kept q_isKept q_text q_ones q_said q_readTable q_least q_made q_enough q_isWanted q_column q_foundColumn q_walls q_wallMany q_chosen r) := by
  rw [f_X8_lit] at h
  refine mm_Ok.of pn_X8 (l := [(0, .ref 0), (1, .int v1), (2, .int v2), (3, .int v3)]) rfl (Nat.le_of_ble_eq_true rfl) ?_
  refine mm_aload_n 0 dX8_lit_0 rfl rfl (pc' := 1) rfl ?_
  refine mm_aload_n 0 dX8_lit_1 rfl rfl (pc' := 2) rfl ?_
  refine mm_iload_n 1 dX8_lit_2 rfl rfl (pc' := 3) rfl ?_
  refine mm_iload_n 2 dX8_lit_3 rfl rfl (pc' := 4) rfl ?_
  refine mm_iload_n 3 dX8_lit_4 rfl rfl (pc' := 5) rfl ?_
  refine mm_if_eq (tgt := 12) dX8_lit_5 (by decide) (pc' := 8) rfl (fun c => ?_) (fun c => ?_)
  · replace h := mm_it h c
    clear c
    refine mm_iconst dX8_lit_12 ki_0 (pc' := 13) rfl ?_
    exact mm_sub [] rfl (s_X8_lit_J13  h)
  · replace h := mm_if h c
    clear c
    refine mm_iconst dX8_lit_8 ki_1 (pc' := 9) rfl ?_
    refine mm_goto (tgt := 13) dX8_lit_9 (by decide) ?_
    exact mm_sub [] rfl (s_X8_lit_J13  h)

def P_X8_slack (q_textSize : Int32) (q_cursor : Int32) (q_start : Int32) (q_token : Int32) (q_number : Int32) (q_word : Int64) (q_fault : Int32) (q_line : Int32) (q_foundPains : Int32) (q_foundLine : Int32) (q_deadMany : Int32) (q_deadSize : Int32) (q_deadLeast : Int32) (q_deadMost : Int32) (q_before : Nat → Int32) (q_kept : Nat → Int32) (q_isKept : Nat → Int32) (q_text : Nat → Int32) (q_ones : Nat → Int32) (q_said : Nat → Int32) (q_readTable : Nat → Int32) (q_least : Nat → Int32) (q_made : Nat → Int32) (q_enough : Nat → Int32) (q_isWanted : Nat → Int32) (q_column : Nat → Int32) (q_foundColumn : Nat → Int32) (q_walls : Nat → Int64) (q_wallMany : Nat → Int32) (q_chosen : Nat → Int32) (r : Int32 × (Nat → Int32) × (Nat → Int32)) : Option Value → mm_W → Prop := fun rv w => rv = some (.int r.1) ∧ w = (W_X8 q_textSize q_cursor q_start q_token q_number q_word q_fault q_line q_foundPains q_foundLine q_deadMany q_deadSize q_deadLeast q_deadMost r.2.1 q_before q_kept q_isKept r.2.2 q_text q_ones q_said q_readTable q_least q_made q_enough q_isWanted q_column q_foundColumn q_walls q_wallMany q_chosen)
def f_X8_slack (fu : Nat) (q_st : Nat → Int32) (q_refused : Nat → Int32) (v1 : Int32) : Option (Int32 × (Nat → Int32) × (Nat → Int32)) := (f_X8_putSlack fu q_st v1).bind fun t3 => (f_X8_told fu q_refused t3.1).bind fun t6 => some (t6.1, t3.2, t6.2)
set_option maxHeartbeats 4000000 in
set_option maxRecDepth 100000 in
theorem ok_X8_slack {fu : Nat} {q_textSize : Int32} {q_cursor : Int32} {q_start : Int32} {q_token : Int32} {q_number : Int32} {q_word : Int64} {q_fault : Int32} {q_line : Int32} {q_foundPains : Int32} {q_foundLine : Int32} {q_deadMany : Int32} {q_deadSize : Int32} {q_deadLeast : Int32} {q_deadMost : Int32} {q_st : Nat → Int32} {q_before : Nat → Int32} {q_kept : Nat → Int32} {q_isKept : Nat → Int32} {q_refused : Nat → Int32} {q_text : Nat → Int32} {q_ones : Nat → Int32} {q_said : Nat → Int32} {q_readTable : Nat → Int32} {q_least : Nat → Int32} {q_made : Nat → Int32} {q_enough : Nat → Int32} {q_isWanted : Nat → Int32} {q_column : Nat → Int32} {q_foundColumn : Nat → Int32} {q_walls : Nat → Int64} {q_wallMany : Nat → Int32} {q_chosen : Nat → Int32} {r : Int32 × (Nat → Int32) × (Nat → Int32)} {v1 : Int32} (h : f_X8_slack fu q_st q_refused v1 = some r) : mm_Ok mX8_slack [.ref 0, .int v1] (W_X8 q_textSize q_cursor q_start q_token q_number q_word q_fault q_line q_foundPains q_foundLine q_deadMany q_deadSize q_deadLeast q_deadMost q_st q_before q_kept q_isKept q_refused q_text q_ones q_said q_readTable q_least q_made q_enough q_isWanted q_column q_foundColumn q_walls q_wallMany q_chosen) (P_X8_slack q_textSize q_cursor q_start q_token q_number q_word q_fault q_line q_foundPains q_foundLine q_deadMany q_deadSize q_deadLeast q_deadMost q_before q_kept q_isKept q_text q_ones q_said q_readTable q_least q_made q_enough q_isWanted q_column q_foundColumn q_walls q_wallMany q_chosen r) := by
  rw [f_X8_slack] at h
  refine mm_Ok.of pn_X8 (l := [(0, .ref 0), (1, .int v1)]) rfl (Nat.le_of_ble_eq_true rfl) ?_
  refine mm_aload_n 0 dX8_slack_0 rfl rfl (pc' := 1) rfl ?_
  refine mm_aload_n 0 dX8_slack_1 rfl rfl (pc' := 2) rfl ?_
  refine mm_iload_n 1 dX8_slack_2 rfl rfl (pc' := 3) rfl ?_
  obtain ⟨t3, h3, h⟩ := mm_bd h
  refine mm_call0 (As := [.int v1]) (rest := [.ref 0]) cV_X8_112 (ok_X8_putSlack h3) ⟨rfl, rfl, Nat.le_of_ble_eq_true rfl, Nat.le_of_ble_eq_true rfl⟩ dX8_slack_3 rfl rfl rfl rfl (by rintro _ _ ⟨-, rfl⟩; rfl) (Nat.le_of_ble_eq_true rfl) ⟨Nat.le_of_ble_eq_true rfl, Nat.le_of_ble_eq_true rfl⟩ (pc' := 6) rfl ?_
  rintro rv w ⟨rfl, rfl⟩
  show mm_Wp _ _ _ _ 6 [(0, .ref 0), (1, .int v1)] [.int t3.1, .ref 0] (W_X8 q_textSize q_cursor q_start q_token q_number q_word q_fault q_line q_foundPains q_foundLine q_deadMany q_deadSize q_deadLeast q_deadMost t3.2 q_before q_kept q_isKept q_refused q_text q_ones q_said q_readTable q_least q_made q_enough q_isWanted q_column q_foundColumn q_walls q_wallMany q_chosen)
  clear h3
  obtain ⟨t6, h6, h⟩ := mm_bd h
  refine mm_call0 (As := [.int t3.1]) (rest := []) cV_X8_92 (ok_X8_told h6) ⟨rfl, rfl, Nat.le_of_ble_eq_true rfl, Nat.le_of_ble_eq_true rfl⟩ dX8_slack_6 rfl rfl rfl rfl (by rintro _ _ ⟨-, rfl⟩; rfl) (Nat.le_of_ble_eq_true rfl) ⟨Nat.le_of_ble_eq_true rfl, Nat.le_of_ble_eq_true rfl⟩ (pc' := 9) rfl ?_
  rintro rv w ⟨rfl, rfl⟩
  show mm_Wp _ _ _ _ 9 [(0, .ref 0), (1, .int v1)] [.int t6.1] (W_X8 q_textSize q_cursor q_start q_token q_number q_word q_fault q_line q_foundPains q_foundLine q_deadMany q_deadSize q_deadLeast q_deadMost t3.2 q_before q_kept q_isKept t6.2 q_text q_ones q_said q_readTable q_least q_made q_enough q_isWanted q_column q_foundColumn q_walls q_wallMany q_chosen)
  clear h6
  have h9 := Option.some.inj h
  subst h9
  exact mm_iret rfl dX8_slack_9 ⟨rfl, rfl⟩

def P_X8_willNot (q_textSize : Int32) (q_cursor : Int32) (q_start : Int32) (q_token : Int32) (q_number : Int32) (q_word : Int64) (q_fault : Int32) (q_line : Int32) (q_foundPains : Int32) (q_foundLine : Int32) (q_deadMany : Int32) (q_deadSize : Int32) (q_deadLeast : Int32) (q_deadMost : Int32) (q_st : Nat → Int32) (q_before : Nat → Int32) (q_kept : Nat → Int32) (q_isKept : Nat → Int32) (q_refused : Nat → Int32) (q_text : Nat → Int32) (q_ones : Nat → Int32) (q_said : Nat → Int32) (q_readTable : Nat → Int32) (q_least : Nat → Int32) (q_made : Nat → Int32) (q_enough : Nat → Int32) (q_isWanted : Nat → Int32) (q_column : Nat → Int32) (q_foundColumn : Nat → Int32) (q_walls : Nat → Int64) (q_wallMany : Nat → Int32) (q_chosen : Nat → Int32) (r : Int32) : Option Value → mm_W → Prop := fun rv w => rv = some (.int r) ∧ w = (W_X8 q_textSize q_cursor q_start q_token q_number q_word q_fault q_line q_foundPains q_foundLine q_deadMany q_deadSize q_deadLeast q_deadMost q_st q_before q_kept q_isKept q_refused q_text q_ones q_said q_readTable q_least q_made q_enough q_isWanted q_column q_foundColumn q_walls q_wallMany q_chosen)
def X8_willNot_J42 (fu : Nat) (rec5 : Int32 → Int32 → Option (Int32)) (q_st : Nat → Int32) (v1 : Int32) (v4 : Int32) (s0 : Int32) : Option (Int32) := rec5 s0 (v4 / (10 : Int32))
set_option maxHeartbeats 4000000 in
set_option maxRecDepth 100000 in
theorem s_X8_willNot_J42 {fu : Nat} {q_textSize : Int32} {q_cursor : Int32} {q_start : Int32} {q_token : Int32} {q_number : Int32} {q_word : Int64} {q_fault : Int32} {q_line : Int32} {q_foundPains : Int32} {q_foundLine : Int32} {q_deadMany : Int32} {q_deadSize : Int32} {q_deadLeast : Int32} {q_deadMost : Int32} {q_st : Nat → Int32} {q_before : Nat → Int32} {q_kept : Nat → Int32} {q_isKept : Nat → Int32} {q_refused : Nat → Int32} {q_text : Nat → Int32} {q_ones : Nat → Int32} {q_said : Nat → Int32} {q_readTable : Nat → Int32} {q_least : Nat → Int32} {q_made : Nat → Int32} {q_enough : Nat → Int32} {q_isWanted : Nat → Int32} {q_column : Nat → Int32} {q_foundColumn : Nat → Int32} {q_walls : Nat → Int64} {q_wallMany : Nat → Int32} {q_chosen : Nat → Int32} {r : Int32} {rec5 : Int32 → Int32 → Option (Int32)} {v1 : Int32} {v4 : Int32} {s0 : Int32} (hr5 : ∀ (y3 : Int32) (y4 : Int32), rec5 y3 y4 = some r → mm_Wp mX8_willNot (mm_R (P_X8_willNot q_textSize q_cursor q_start q_token q_number q_word q_fault q_line q_foundPains q_foundLine q_deadMany q_deadSize q_deadLeast q_deadMost q_st q_before q_kept q_isKept q_refused q_text q_ones q_said q_readTable q_least q_made q_enough q_isWanted q_column q_foundColumn q_walls q_wallMany q_chosen r)) 0 0 5 [(0, .ref 0), (1, .int v1), (3, .int y3), (4, .int y4)] [] (W_X8 q_textSize q_cursor q_start q_token q_number q_word q_fault q_line q_foundPains q_foundLine q_deadMany q_deadSize q_deadLeast q_deadMost q_st q_before q_kept q_isKept q_refused q_text q_ones q_said q_readTable q_least q_made q_enough q_isWanted q_column q_foundColumn q_walls q_wallMany q_chosen)) (h : X8_willNot_J42 fu rec5 q_st v1 v4 s0 = some r) : mm_Wp mX8_willNot (mm_R (P_X8_willNot q_textSize q_cursor q_start q_token q_number q_word q_fault q_line q_foundPains q_foundLine q_deadMany q_deadSize q_deadLeast q_deadMost q_st q_before q_kept q_isKept q_refused q_text q_ones q_said q_readTable q_least q_made q_enough q_isWanted q_column q_foundColumn q_walls q_wallMany q_chosen r)) 0 0 42 [(0, .ref 0), (1, .int v1), (4, .int v4)] [.int s0] (W_X8 q_textSize q_cursor q_start q_token q_number q_word q_fault q_line q_foundPains q_foundLine q_deadMany q_deadSize q_deadLeast q_deadMost q_st q_before q_kept q_isKept q_refused q_text q_ones q_said q_readTable q_least q_made q_enough q_isWanted q_column q_foundColumn q_walls q_wallMany q_chosen) := by
  rw [X8_willNot_J42] at h
  refine mm_istore_n dX8_willNot_42 rfl (by decide) (l' := [(3, .int s0), (0, .ref 0), (1, .int v1), (4, .int v4)]) rfl (pc' := 43) rfl ?_
  refine mm_iload 3 dX8_willNot_43 rfl (pc' := 45) rfl ?_
  refine mm_bipush dX8_willNot_45 kb_10 (pc' := 47) rfl ?_
  refine mm_idiv dX8_willNot_47 (by decide) (pc' := 48) rfl ?_
  refine mm_istore dX8_willNot_48 (by decide) (l' := [(4, .int (v4 / (10 : Int32))), (3, .int s0), (0, .ref 0), (1, .int v1)]) rfl (pc' := 50) rfl ?_
  refine mm_goto (tgt := 5) dX8_willNot_50 (by decide) ?_
  exact mm_sub [2, 3, 1, 0] rfl (hr5 _ _ h)
def X8_willNot_J37 (fu : Nat) (rec5 : Int32 → Int32 → Option (Int32)) (q_st : Nat → Int32) (v1 : Int32) (v4 : Int32)  : Option (Int32) := X8_willNot_J42 fu rec5 q_st v1 v4 (1 : Int32)
set_option maxHeartbeats 4000000 in
set_option maxRecDepth 100000 in
theorem s_X8_willNot_J37 {fu : Nat} {q_textSize : Int32} {q_cursor : Int32} {q_start : Int32} {q_token : Int32} {q_number : Int32} {q_word : Int64} {q_fault : Int32} {q_line : Int32} {q_foundPains : Int32} {q_foundLine : Int32} {q_deadMany : Int32} {q_deadSize : Int32} {q_deadLeast : Int32} {q_deadMost : Int32} {q_st : Nat → Int32} {q_before : Nat → Int32} {q_kept : Nat → Int32} {q_isKept : Nat → Int32} {q_refused : Nat → Int32} {q_text : Nat → Int32} {q_ones : Nat → Int32} {q_said : Nat → Int32} {q_readTable : Nat → Int32} {q_least : Nat → Int32} {q_made : Nat → Int32} {q_enough : Nat → Int32} {q_isWanted : Nat → Int32} {q_column : Nat → Int32} {q_foundColumn : Nat → Int32} {q_walls : Nat → Int64} {q_wallMany : Nat → Int32} {q_chosen : Nat → Int32} {r : Int32} {rec5 : Int32 → Int32 → Option (Int32)} {v1 : Int32} {v4 : Int32} (hr5 : ∀ (y3 : Int32) (y4 : Int32), rec5 y3 y4 = some r → mm_Wp mX8_willNot (mm_R (P_X8_willNot q_textSize q_cursor q_start q_token q_number q_word q_fault q_line q_foundPains q_foundLine q_deadMany q_deadSize q_deadLeast q_deadMost q_st q_before q_kept q_isKept q_refused q_text q_ones q_said q_readTable q_least q_made q_enough q_isWanted q_column q_foundColumn q_walls q_wallMany q_chosen r)) 0 0 5 [(0, .ref 0), (1, .int v1), (3, .int y3), (4, .int y4)] [] (W_X8 q_textSize q_cursor q_start q_token q_number q_word q_fault q_line q_foundPains q_foundLine q_deadMany q_deadSize q_deadLeast q_deadMost q_st q_before q_kept q_isKept q_refused q_text q_ones q_said q_readTable q_least q_made q_enough q_isWanted q_column q_foundColumn q_walls q_wallMany q_chosen)) (h : X8_willNot_J37 fu rec5 q_st v1 v4 = some r) : mm_Wp mX8_willNot (mm_R (P_X8_willNot q_textSize q_cursor q_start q_token q_number q_word q_fault q_line q_foundPains q_foundLine q_deadMany q_deadSize q_deadLeast q_deadMost q_st q_before q_kept q_isKept q_refused q_text q_ones q_said q_readTable q_least q_made q_enough q_isWanted q_column q_foundColumn q_walls q_wallMany q_chosen r)) 0 0 37 [(0, .ref 0), (1, .int v1), (4, .int v4)] [] (W_X8 q_textSize q_cursor q_start q_token q_number q_word q_fault q_line q_foundPains q_foundLine q_deadMany q_deadSize q_deadLeast q_deadMost q_st q_before q_kept q_isKept q_refused q_text q_ones q_said q_readTable q_least q_made q_enough q_isWanted q_column q_foundColumn q_walls q_wallMany q_chosen) := by
  rw [X8_willNot_J37] at h
  refine mm_iconst dX8_willNot_37 ki_1 (pc' := 38) rfl ?_
  refine mm_goto (tgt := 42) dX8_willNot_38 (by decide) ?_
  exact s_X8_willNot_J42 (hr5 := hr5) h
def X8_willNot_L5 (fu : Nat)  (q_st : Nat → Int32) (v1 : Int32) : Nat → Int32 → Int32 → Option (Int32)
  | 0, _, _ => none
  | n + 1, v3, v4 => if v4 ≤ 0 then (mm_gd (mm_zb v3) (some (v3))) else (if v3 = 0 then (mm_rd q_st 354 (((6 : Int32) + ((4 : Int32) * v1)) + (3 : Int32)) fun x33 => if ((v4 - v4 / (10 : Int32) * (10 : Int32)) - (1 : Int32)) = x33 then (X8_willNot_J37 fu (X8_willNot_L5 fu q_st v1 n) q_st v1 v4) else (X8_willNot_J42 fu (X8_willNot_L5 fu q_st v1 n) q_st v1 v4 (0 : Int32))) else (X8_willNot_J37 fu (X8_willNot_L5 fu q_st v1 n) q_st v1 v4))
set_option maxHeartbeats 4000000 in
set_option maxRecDepth 100000 in
theorem s_X8_willNot_L5 {fu : Nat} {q_textSize : Int32} {q_cursor : Int32} {q_start : Int32} {q_token : Int32} {q_number : Int32} {q_word : Int64} {q_fault : Int32} {q_line : Int32} {q_foundPains : Int32} {q_foundLine : Int32} {q_deadMany : Int32} {q_deadSize : Int32} {q_deadLeast : Int32} {q_deadMost : Int32} {q_st : Nat → Int32} {q_before : Nat → Int32} {q_kept : Nat → Int32} {q_isKept : Nat → Int32} {q_refused : Nat → Int32} {q_text : Nat → Int32} {q_ones : Nat → Int32} {q_said : Nat → Int32} {q_readTable : Nat → Int32} {q_least : Nat → Int32} {q_made : Nat → Int32} {q_enough : Nat → Int32} {q_isWanted : Nat → Int32} {q_column : Nat → Int32} {q_foundColumn : Nat → Int32} {q_walls : Nat → Int64} {q_wallMany : Nat → Int32} {q_chosen : Nat → Int32} {r : Int32} {v1 : Int32} : ∀ (n : Nat) (v3 : Int32) (v4 : Int32), X8_willNot_L5 fu q_st v1 n v3 v4 = some r → mm_Wp mX8_willNot (mm_R (P_X8_willNot q_textSize q_cursor q_start q_token q_number q_word q_fault q_line q_foundPains q_foundLine q_deadMany q_deadSize q_deadLeast q_deadMost q_st q_before q_kept q_isKept q_refused q_text q_ones q_said q_readTable q_least q_made q_enough q_isWanted q_column q_foundColumn q_walls q_wallMany q_chosen r)) 0 0 5 [(0, .ref 0), (1, .int v1), (3, .int v3), (4, .int v4)] [] (W_X8 q_textSize q_cursor q_start q_token q_number q_word q_fault q_line q_foundPains q_foundLine q_deadMany q_deadSize q_deadLeast q_deadMost q_st q_before q_kept q_isKept q_refused q_text q_ones q_said q_readTable q_least q_made q_enough q_isWanted q_column q_foundColumn q_walls q_wallMany q_chosen) := by
  intro n
  induction n with
  | zero =>
    intro v3 v4 h
    rw [X8_willNot_L5] at h
    cases h
  | succ n hr5 =>
    intro v3 v4 h
    rw [X8_willNot_L5] at h
    refine mm_iload 3 dX8_willNot_5 rfl (pc' := 7) rfl ?_
    refine mm_if_le (tgt := 53) dX8_willNot_7 (by decide) (pc' := 10) rfl (fun c => ?_) (fun c => ?_)
    · replace h := mm_it h c
      clear c
      refine mm_iload_n 2 dX8_willNot_53 rfl rfl (pc' := 54) rfl ?_
      obtain ⟨c, h⟩ := mm_gd_of h
      have h9 := Option.some.inj h
      subst h9
      exact mm_zret rfl (mm_zb_of c) dX8_willNot_54 ⟨rfl, rfl⟩
    · replace h := mm_if h c
      clear c
      refine mm_iload_n 2 dX8_willNot_10 rfl rfl (pc' := 11) rfl ?_
      refine mm_if_ne (tgt := 37) dX8_willNot_11 (by decide) (pc' := 14) rfl (fun c => ?_) (fun c => ?_)
      · replace h := mm_if h c
        clear c
        exact mm_sub [0, 1, 3] rfl (s_X8_willNot_J37 (hr5 := hr5) h)
      · replace h := mm_it h c
        clear c
        refine mm_iload 3 dX8_willNot_14 rfl (pc' := 16) rfl ?_
        refine mm_bipush dX8_willNot_16 kb_10 (pc' := 18) rfl ?_
        refine mm_irem dX8_willNot_18 (by decide) (pc' := 19) rfl ?_
        refine mm_iconst dX8_willNot_19 ki_1 (pc' := 20) rfl ?_
        refine mm_isub dX8_willNot_20 (pc' := 21) rfl ?_
        refine mm_aload_n 0 dX8_willNot_21 rfl rfl (pc' := 22) rfl ?_
        refine mm_getf fG_X8_7 dX8_willNot_22 rfl rfl (pc' := 25) rfl ?_
        refine mm_bipush dX8_willNot_25 kb_6 (pc' := 27) rfl ?_
        refine mm_iconst dX8_willNot_27 ki_4 (pc' := 28) rfl ?_
        refine mm_iload_n 1 dX8_willNot_28 rfl rfl (pc' := 29) rfl ?_
        refine mm_imul dX8_willNot_29 (pc' := 30) rfl ?_
        refine mm_iadd dX8_willNot_30 (pc' := 31) rfl ?_
        refine mm_iconst dX8_willNot_31 ki_3 (pc' := 32) rfl ?_
        refine mm_iadd dX8_willNot_32 (pc' := 33) rfl ?_
        obtain ⟨x33, c33, e33, h⟩ := mm_rd_of h
        refine mm_iald dX8_willNot_33 rfl c33 e33 (pc' := 34) rfl ?_
        clear c33 e33
        refine mm_icmp_ne (tgt := 41) dX8_willNot_34 (by decide) (pc' := 37) rfl (fun c => ?_) (fun c => ?_)
        · replace h := mm_if h c
          clear c
          refine mm_iconst dX8_willNot_41 ki_0 (pc' := 42) rfl ?_
          exact mm_sub [0, 1, 3] rfl (s_X8_willNot_J42 (hr5 := hr5) h)
        · replace h := mm_it h c
          clear c
          exact mm_sub [0, 1, 3] rfl (s_X8_willNot_J37 (hr5 := hr5) h)
def f_X8_willNot (fu : Nat) (q_st : Nat → Int32) (v1 : Int32) (v2 : Int32) : Option (Int32) := X8_willNot_L5 fu q_st v1 fu (0 : Int32) v2
set_option maxHeartbeats 4000000 in
set_option maxRecDepth 100000 in
theorem ok_X8_willNot {fu : Nat} {q_textSize : Int32} {q_cursor : Int32} {q_start : Int32} {q_token : Int32} {q_number : Int32} {q_word : Int64} {q_fault : Int32} {q_line : Int32} {q_foundPains : Int32} {q_foundLine : Int32} {q_deadMany : Int32} {q_deadSize : Int32} {q_deadLeast : Int32} {q_deadMost : Int32} {q_st : Nat → Int32} {q_before : Nat → Int32} {q_kept : Nat → Int32} {q_isKept : Nat → Int32} {q_refused : Nat → Int32} {q_text : Nat → Int32} {q_ones : Nat → Int32} {q_said : Nat → Int32} {q_readTable : Nat → Int32} {q_least : Nat → Int32} {q_made : Nat → Int32} {q_enough : Nat → Int32} {q_isWanted : Nat → Int32} {q_column : Nat → Int32} {q_foundColumn : Nat → Int32} {q_walls : Nat → Int64} {q_wallMany : Nat → Int32} {q_chosen : Nat → Int32} {r : Int32} {v1 : Int32} {v2 : Int32} (h : f_X8_willNot fu q_st v1 v2 = some r) : mm_Ok mX8_willNot [.ref 0, .int v1, .int v2] (W_X8 q_textSize q_cursor q_start q_token q_number q_word q_fault q_line q_foundPains q_foundLine q_deadMany q_deadSize q_deadLeast q_deadMost q_st q_before q_kept q_isKept q_refused q_text q_ones q_said q_readTable q_least q_made q_enough q_isWanted q_column q_foundColumn q_walls q_wallMany q_chosen) (P_X8_willNot q_textSize q_cursor q_start q_token q_number q_word q_fault q_line q_foundPains q_foundLine q_deadMany q_deadSize q_deadLeast q_deadMost q_st q_before q_kept q_isKept q_refused q_text q_ones q_said q_readTable q_least q_made q_enough q_isWanted q_column q_foundColumn q_walls q_wallMany q_chosen r) := by
  rw [f_X8_willNot] at h
  refine mm_Ok.of pn_X8 (l := [(0, .ref 0), (1, .int v1), (2, .int v2)]) rfl (Nat.le_of_ble_eq_true rfl) ?_
  refine mm_iconst dX8_willNot_0 ki_0 (pc' := 1) rfl ?_
  refine mm_istore_n dX8_willNot_1 rfl (by decide) (l' := [(3, .int (0 : Int32)), (0, .ref 0), (1, .int v1), (2, .int v2)]) rfl (pc' := 2) rfl ?_
  refine mm_iload_n 3 dX8_willNot_2 rfl rfl (pc' := 3) rfl ?_
  refine mm_istore dX8_willNot_3 (by decide) (l' := [(4, .int v2), (3, .int (0 : Int32)), (0, .ref 0), (1, .int v1), (2, .int v2)]) rfl (pc' := 5) rfl ?_
  exact mm_sub [2, 3, 1, 0] rfl (s_X8_willNot_L5  _ _ _ h)

def P_X8_price (q_textSize : Int32) (q_cursor : Int32) (q_start : Int32) (q_token : Int32) (q_number : Int32) (q_word : Int64) (q_fault : Int32) (q_line : Int32) (q_foundPains : Int32) (q_foundLine : Int32) (q_deadMany : Int32) (q_deadSize : Int32) (q_deadLeast : Int32) (q_deadMost : Int32) (q_st : Nat → Int32) (q_before : Nat → Int32) (q_kept : Nat → Int32) (q_isKept : Nat → Int32) (q_refused : Nat → Int32) (q_text : Nat → Int32) (q_ones : Nat → Int32) (q_said : Nat → Int32) (q_readTable : Nat → Int32) (q_least : Nat → Int32) (q_made : Nat → Int32) (q_enough : Nat → Int32) (q_isWanted : Nat → Int32) (q_column : Nat → Int32) (q_foundColumn : Nat → Int32) (q_walls : Nat → Int64) (q_wallMany : Nat → Int32) (q_chosen : Nat → Int32) (r : Int32) : Option Value → mm_W → Prop := fun rv w => rv = some (.int r) ∧ w = (W_X8 q_textSize q_cursor q_start q_token q_number q_word q_fault q_line q_foundPains q_foundLine q_deadMany q_deadSize q_deadLeast q_deadMost q_st q_before q_kept q_isKept q_refused q_text q_ones q_said q_readTable q_least q_made q_enough q_isWanted q_column q_foundColumn q_walls q_wallMany q_chosen)
def X8_price_J27 (fu : Nat)  (q_st : Nat → Int32)   : Option (Int32) := some ((-1 : Int32))
set_option maxHeartbeats 4000000 in
set_option maxRecDepth 100000 in
theorem s_X8_price_J27 {fu : Nat} {q_textSize : Int32} {q_cursor : Int32} {q_start : Int32} {q_token : Int32} {q_number : Int32} {q_word : Int64} {q_fault : Int32} {q_line : Int32} {q_foundPains : Int32} {q_foundLine : Int32} {q_deadMany : Int32} {q_deadSize : Int32} {q_deadLeast : Int32} {q_deadMost : Int32} {q_st : Nat → Int32} {q_before : Nat → Int32} {q_kept : Nat → Int32} {q_isKept : Nat → Int32} {q_refused : Nat → Int32} {q_text : Nat → Int32} {q_ones : Nat → Int32} {q_said : Nat → Int32} {q_readTable : Nat → Int32} {q_least : Nat → Int32} {q_made : Nat → Int32} {q_enough : Nat → Int32} {q_isWanted : Nat → Int32} {q_column : Nat → Int32} {q_foundColumn : Nat → Int32} {q_walls : Nat → Int64} {q_wallMany : Nat → Int32} {q_chosen : Nat → Int32} {r : Int32} (h : X8_price_J27 fu q_st = some r) : mm_Wp mX8_price (mm_R (P_X8_price q_textSize q_cursor q_start q_token q_number q_word q_fault q_line q_foundPains q_foundLine q_deadMany q_deadSize q_deadLeast q_deadMost q_st q_before q_kept q_isKept q_refused q_text q_ones q_said q_readTable q_least q_made q_enough q_isWanted q_column q_foundColumn q_walls q_wallMany q_chosen r)) 0 0 27 [] [] (W_X8 q_textSize q_cursor q_start q_token q_number q_word q_fault q_line q_foundPains q_foundLine q_deadMany q_deadSize q_deadLeast q_deadMost q_st q_before q_kept q_isKept q_refused q_text q_ones q_said q_readTable q_least q_made q_enough q_isWanted q_column q_foundColumn q_walls q_wallMany q_chosen) := by
  rw [X8_price_J27] at h
  refine mm_iconst dX8_price_27 ki_m1 (pc' := 28) rfl ?_
  have h9 := Option.some.inj h
  subst h9
  exact mm_iret rfl dX8_price_28 ⟨rfl, rfl⟩
def X8_price_J59 (fu : Nat)  (q_st : Nat → Int32) (v1 : Int32) (v2 : Int32) (v4 : Int32) (v5 : Int32) (s0 : Int32) : Option (Int32) := mm_rd q_st 354 ((6 : Int32) + ((4 : Int32) * v4)) fun x72 => if x72 = (0 : Int32) then (some (v5)) else (if x72 = (1 : Int32) then (some (s0)) else (if x72 = (2 : Int32) then (if (2 : Int32) ≤ v1 then (some (v5)) else (some ((0 : Int32)))) else (if x72 = (3 : Int32) then (some ((s0 + (3 : Int32)))) else (if x72 = (4 : Int32) then (mm_rd q_st 354 (((96 : Int32) + ((60 : Int32) * v1)) + v2) fun x144 => if x144 = (1 : Int32) then (some ((s0 + (3 : Int32)))) else (some ((-1 : Int32)))) else (some ((0 : Int32)))))))
set_option maxHeartbeats 4000000 in
set_option maxRecDepth 100000 in
theorem s_X8_price_J59 {fu : Nat} {q_textSize : Int32} {q_cursor : Int32} {q_start : Int32} {q_token : Int32} {q_number : Int32} {q_word : Int64} {q_fault : Int32} {q_line : Int32} {q_foundPains : Int32} {q_foundLine : Int32} {q_deadMany : Int32} {q_deadSize : Int32} {q_deadLeast : Int32} {q_deadMost : Int32} {q_st : Nat → Int32} {q_before : Nat → Int32} {q_kept : Nat → Int32} {q_isKept : Nat → Int32} {q_refused : Nat → Int32} {q_text : Nat → Int32} {q_ones : Nat → Int32} {q_said : Nat → Int32} {q_readTable : Nat → Int32} {q_least : Nat → Int32} {q_made : Nat → Int32} {q_enough : Nat → Int32} {q_isWanted : Nat → Int32} {q_column : Nat → Int32} {q_foundColumn : Nat → Int32} {q_walls : Nat → Int64} {q_wallMany : Nat → Int32} {q_chosen : Nat → Int32} {r : Int32} {v1 : Int32} {v2 : Int32} {v4 : Int32} {v5 : Int32} {s0 : Int32} (h : X8_price_J59 fu q_st v1 v2 v4 v5 s0 = some r) : mm_Wp mX8_price (mm_R (P_X8_price q_textSize q_cursor q_start q_token q_number q_word q_fault q_line q_foundPains q_foundLine q_deadMany q_deadSize q_deadLeast q_deadMost q_st q_before q_kept q_isKept q_refused q_text q_ones q_said q_readTable q_least q_made q_enough q_isWanted q_column q_foundColumn q_walls q_wallMany q_chosen r)) 0 0 59 [(0, .ref 0), (1, .int v1), (2, .int v2), (4, .int v4), (5, .int v5)] [.int s0] (W_X8 q_textSize q_cursor q_start q_token q_number q_word q_fault q_line q_foundPains q_foundLine q_deadMany q_deadSize q_deadLeast q_deadMost q_st q_before q_kept q_isKept q_refused q_text q_ones q_said q_readTable q_least q_made q_enough q_isWanted q_column q_foundColumn q_walls q_wallMany q_chosen) := by
  rw [X8_price_J59] at h
  refine mm_istore dX8_price_59 (by decide) (l' := [(6, .int s0), (0, .ref 0), (1, .int v1), (2, .int v2), (4, .int v4), (5, .int v5)]) rfl (pc' := 61) rfl ?_
  refine mm_aload_n 1 dX8_price_61 rfl rfl (pc' := 62) rfl ?_
  refine mm_getf fG_X8_7 dX8_price_62 rfl rfl (pc' := 65) rfl ?_
  refine mm_bipush dX8_price_65 kb_6 (pc' := 67) rfl ?_
  refine mm_iconst dX8_price_67 ki_4 (pc' := 68) rfl ?_
  refine mm_iload 4 dX8_price_68 rfl (pc' := 70) rfl ?_
  refine mm_imul dX8_price_70 (pc' := 71) rfl ?_
  refine mm_iadd dX8_price_71 (pc' := 72) rfl ?_
  obtain ⟨x72, c72, e72, h⟩ := mm_rd_of h
  refine mm_iald dX8_price_72 rfl c72 e72 (pc' := 73) rfl ?_
  clear c72 e72
  by_cases c0 : x72 = (0 : Int32)
  · replace h := mm_it h c0
    refine mm_tswIn (off := 35) (tgt := 108) (0 : Int32) c0 dX8_price_73 (by decide) (by decide) (by decide) (by decide) ?_
    clear c0
    refine mm_iload 5 dX8_price_108 rfl (pc' := 110) rfl ?_
    have h9 := Option.some.inj h
    subst h9
    exact mm_iret rfl dX8_price_110 ⟨rfl, rfl⟩
  replace h := mm_if h c0
  by_cases c1 : x72 = (1 : Int32)
  · replace h := mm_it h c1
    refine mm_tswIn (off := 38) (tgt := 111) (1 : Int32) c1 dX8_price_73 (by decide) (by decide) (by decide) (by decide) ?_
    clear c0 c1
    refine mm_iload 0 dX8_price_111 rfl (pc' := 113) rfl ?_
    have h9 := Option.some.inj h
    subst h9
    exact mm_iret rfl dX8_price_113 ⟨rfl, rfl⟩
  replace h := mm_if h c1
  by_cases c2 : x72 = (2 : Int32)
  · replace h := mm_it h c2
    refine mm_tswIn (off := 41) (tgt := 114) (2 : Int32) c2 dX8_price_73 (by decide) (by decide) (by decide) (by decide) ?_
    clear c0 c1 c2
    refine mm_iload_n 2 dX8_price_114 rfl rfl (pc' := 115) rfl ?_
    refine mm_iconst dX8_price_115 ki_2 (pc' := 116) rfl ?_
    refine mm_icmp_ge (tgt := 123) dX8_price_116 (by decide) (pc' := 119) rfl (fun c => ?_) (fun c => ?_)
    · replace h := mm_it h c
      clear c
      refine mm_iload 5 dX8_price_123 rfl (pc' := 125) rfl ?_
      have h9 := Option.some.inj h
      subst h9
      exact mm_iret rfl dX8_price_125 ⟨rfl, rfl⟩
    · replace h := mm_if h c
      clear c
      refine mm_iconst dX8_price_119 ki_0 (pc' := 120) rfl ?_
      refine mm_goto (tgt := 125) dX8_price_120 (by decide) ?_
      have h9 := Option.some.inj h
      subst h9
      exact mm_iret rfl dX8_price_125 ⟨rfl, rfl⟩
  replace h := mm_if h c2
  by_cases c3 : x72 = (3 : Int32)
  · replace h := mm_it h c3
    refine mm_tswIn (off := 53) (tgt := 126) (3 : Int32) c3 dX8_price_73 (by decide) (by decide) (by decide) (by decide) ?_
    clear c0 c1 c2 c3
    refine mm_iload 0 dX8_price_126 rfl (pc' := 128) rfl ?_
    refine mm_iconst dX8_price_128 ki_3 (pc' := 129) rfl ?_
    refine mm_iadd dX8_price_129 (pc' := 130) rfl ?_
    have h9 := Option.some.inj h
    subst h9
    exact mm_iret rfl dX8_price_130 ⟨rfl, rfl⟩
  replace h := mm_if h c3
  by_cases c4 : x72 = (4 : Int32)
  · replace h := mm_it h c4
    refine mm_tswIn (off := 58) (tgt := 131) (4 : Int32) c4 dX8_price_73 (by decide) (by decide) (by decide) (by decide) ?_
    clear c0 c1 c2 c3 c4
    refine mm_aload_n 1 dX8_price_131 rfl rfl (pc' := 132) rfl ?_
    refine mm_getf fG_X8_7 dX8_price_132 rfl rfl (pc' := 135) rfl ?_
    refine mm_bipush dX8_price_135 kb_96 (pc' := 137) rfl ?_
    refine mm_bipush dX8_price_137 kb_60 (pc' := 139) rfl ?_
    refine mm_iload_n 2 dX8_price_139 rfl rfl (pc' := 140) rfl ?_
    refine mm_imul dX8_price_140 (pc' := 141) rfl ?_
    refine mm_iadd dX8_price_141 (pc' := 142) rfl ?_
    refine mm_iload_n 3 dX8_price_142 rfl rfl (pc' := 143) rfl ?_
    refine mm_iadd dX8_price_143 (pc' := 144) rfl ?_
    obtain ⟨x144, c144, e144, h⟩ := mm_rd_of h
    refine mm_iald dX8_price_144 rfl c144 e144 (pc' := 145) rfl ?_
    clear c144 e144
    refine mm_iconst dX8_price_145 ki_1 (pc' := 146) rfl ?_
    refine mm_icmp_ne (tgt := 156) dX8_price_146 (by decide) (pc' := 149) rfl (fun c => ?_) (fun c => ?_)
    · replace h := mm_if h c
      clear c
      refine mm_iconst dX8_price_156 ki_m1 (pc' := 157) rfl ?_
      have h9 := Option.some.inj h
      subst h9
      exact mm_iret rfl dX8_price_157 ⟨rfl, rfl⟩
    · replace h := mm_it h c
      clear c
      refine mm_iload 0 dX8_price_149 rfl (pc' := 151) rfl ?_
      refine mm_iconst dX8_price_151 ki_3 (pc' := 152) rfl ?_
      refine mm_iadd dX8_price_152 (pc' := 153) rfl ?_
      refine mm_goto (tgt := 157) dX8_price_153 (by decide) ?_
      have h9 := Option.some.inj h
      subst h9
      exact mm_iret rfl dX8_price_157 ⟨rfl, rfl⟩
  replace h := mm_if h c4
  refine mm_tswOut (tgt := 158) 0 5 [0, 1, 2, 3, 4] (by decide +kernel) (mm_fa c0 (mm_fa c1 (mm_fa c2 (mm_fa c3 (mm_fa c4 mm_f0))))) dX8_price_73 rfl rfl (by decide) ?_
  clear c0 c1 c2 c3 c4
  refine mm_iconst dX8_price_158 ki_0 (pc' := 159) rfl ?_
  have h9 := Option.some.inj h
  subst h9
  exact mm_iret rfl dX8_price_159 ⟨rfl, rfl⟩
def f_X8_price (fu : Nat) (q_st : Nat → Int32) (v1 : Int32) (v2 : Int32) (v3 : Int32) : Option (Int32) := mm_rd q_st 354 ((36 : Int32) + v2) fun x8 => if x8 = (-1 : Int32) then (X8_price_J27 fu q_st) else ((f_X8_willNot fu q_st x8 v3).bind fun t21 => if t21 = 0 then (mm_rd q_st 354 (((6 : Int32) + ((4 : Int32) * x8)) + (1 : Int32)) fun x42 => if (2 : Int32) ≤ v1 then (X8_price_J59 fu q_st v1 v2 x8 x42 ((2 : Int32) * x42)) else (X8_price_J59 fu q_st v1 v2 x8 x42 x42)) else (X8_price_J27 fu q_st))
set_option maxHeartbeats 4000000 in
set_option maxRecDepth 100000 in
theorem ok_X8_price {fu : Nat} {q_textSize : Int32} {q_cursor : Int32} {q_start : Int32} {q_token : Int32} {q_number : Int32} {q_word : Int64} {q_fault : Int32} {q_line : Int32} {q_foundPains : Int32} {q_foundLine : Int32} {q_deadMany : Int32} {q_deadSize : Int32} {q_deadLeast : Int32} {q_deadMost : Int32} {q_st : Nat → Int32} {q_before : Nat → Int32} {q_kept : Nat → Int32} {q_isKept : Nat → Int32} {q_refused : Nat → Int32} {q_text : Nat → Int32} {q_ones : Nat → Int32} {q_said : Nat → Int32} {q_readTable : Nat → Int32} {q_least : Nat → Int32} {q_made : Nat → Int32} {q_enough : Nat → Int32} {q_isWanted : Nat → Int32} {q_column : Nat → Int32} {q_foundColumn : Nat → Int32} {q_walls : Nat → Int64} {q_wallMany : Nat → Int32} {q_chosen : Nat → Int32} {r : Int32} {v1 : Int32} {v2 : Int32} {v3 : Int32} (h : f_X8_price fu q_st v1 v2 v3 = some r) : mm_Ok mX8_price [.ref 0, .int v1, .int v2, .int v3] (W_X8 q_textSize q_cursor q_start q_token q_number q_word q_fault q_line q_foundPains q_foundLine q_deadMany q_deadSize q_deadLeast q_deadMost q_st q_before q_kept q_isKept q_refused q_text q_ones q_said q_readTable q_least q_made q_enough q_isWanted q_column q_foundColumn q_walls q_wallMany q_chosen) (P_X8_price q_textSize q_cursor q_start q_token q_number q_word q_fault q_line q_foundPains q_foundLine q_deadMany q_deadSize q_deadLeast q_deadMost q_st q_before q_kept q_isKept q_refused q_text q_ones q_said q_readTable q_least q_made q_enough q_isWanted q_column q_foundColumn q_walls q_wallMany q_chosen r) := by
  rw [f_X8_price] at h
  refine mm_Ok.of pn_X8 (l := [(0, .ref 0), (1, .int v1), (2, .int v2), (3, .int v3)]) rfl (Nat.le_of_ble_eq_true rfl) ?_
  refine mm_aload_n 0 dX8_price_0 rfl rfl (pc' := 1) rfl ?_
  refine mm_getf fG_X8_7 dX8_price_1 rfl rfl (pc' := 4) rfl ?_
  refine mm_bipush dX8_price_4 kb_36 (pc' := 6) rfl ?_
  refine mm_iload_n 2 dX8_price_6 rfl rfl (pc' := 7) rfl ?_
  refine mm_iadd dX8_price_7 (pc' := 8) rfl ?_
  obtain ⟨x8, c8, e8, h⟩ := mm_rd_of h
  refine mm_iald dX8_price_8 rfl c8 e8 (pc' := 9) rfl ?_
  clear c8 e8
  refine mm_istore dX8_price_9 (by decide) (l' := [(4, .int x8), (0, .ref 0), (1, .int v1), (2, .int v2), (3, .int v3)]) rfl (pc' := 11) rfl ?_
  refine mm_iload 0 dX8_price_11 rfl (pc' := 13) rfl ?_
  refine mm_iconst dX8_price_13 ki_m1 (pc' := 14) rfl ?_
  refine mm_icmp_eq (tgt := 27) dX8_price_14 (by decide) (pc' := 17) rfl (fun c => ?_) (fun c => ?_)
  · replace h := mm_it h c
    clear c
    exact mm_sub [] rfl (s_X8_price_J27  h)
  · replace h := mm_if h c
    clear c
    refine mm_aload_n 1 dX8_price_17 rfl rfl (pc' := 18) rfl ?_
    refine mm_iload 0 dX8_price_18 rfl (pc' := 20) rfl ?_
    refine mm_iload_n 4 dX8_price_20 rfl rfl (pc' := 21) rfl ?_
    obtain ⟨t21, h21, h⟩ := mm_bd h
    refine mm_call0 (As := [.int x8, .int v3]) (rest := []) cV_X8_115 (ok_X8_willNot h21) ⟨rfl, rfl, Nat.le_of_ble_eq_true rfl, Nat.le_of_ble_eq_true rfl⟩ dX8_price_21 rfl rfl rfl rfl (by rintro _ _ ⟨-, rfl⟩; rfl) (Nat.le_of_ble_eq_true rfl) ⟨Nat.le_of_ble_eq_true rfl, Nat.le_of_ble_eq_true rfl⟩ (pc' := 24) rfl ?_
    rintro rv w ⟨rfl, rfl⟩
    show mm_Wp _ _ _ _ 24 [(4, .int x8), (0, .ref 0), (1, .int v1), (2, .int v2), (3, .int v3)] [.int t21] (W_X8 q_textSize q_cursor q_start q_token q_number q_word q_fault q_line q_foundPains q_foundLine q_deadMany q_deadSize q_deadLeast q_deadMost q_st q_before q_kept q_isKept q_refused q_text q_ones q_said q_readTable q_least q_made q_enough q_isWanted q_column q_foundColumn q_walls q_wallMany q_chosen)
    clear h21
    refine mm_if_eq (tgt := 29) dX8_price_24 (by decide) (pc' := 27) rfl (fun c => ?_) (fun c => ?_)
    · replace h := mm_it h c
      clear c
      refine mm_aload_n 1 dX8_price_29 rfl rfl (pc' := 30) rfl ?_
      refine mm_getf fG_X8_7 dX8_price_30 rfl rfl (pc' := 33) rfl ?_
      refine mm_bipush dX8_price_33 kb_6 (pc' := 35) rfl ?_
      refine mm_iconst dX8_price_35 ki_4 (pc' := 36) rfl ?_
      refine mm_iload 0 dX8_price_36 rfl (pc' := 38) rfl ?_
      refine mm_imul dX8_price_38 (pc' := 39) rfl ?_
      refine mm_iadd dX8_price_39 (pc' := 40) rfl ?_
      refine mm_iconst dX8_price_40 ki_1 (pc' := 41) rfl ?_
      refine mm_iadd dX8_price_41 (pc' := 42) rfl ?_
      obtain ⟨x42, c42, e42, h⟩ := mm_rd_of h
      refine mm_iald dX8_price_42 rfl c42 e42 (pc' := 43) rfl ?_
      clear c42 e42
      refine mm_istore dX8_price_43 (by decide) (l' := [(5, .int x42), (4, .int x8), (0, .ref 0), (1, .int v1), (2, .int v2), (3, .int v3)]) rfl (pc' := 45) rfl ?_
      refine mm_iload_n 3 dX8_price_45 rfl rfl (pc' := 46) rfl ?_
      refine mm_iconst dX8_price_46 ki_2 (pc' := 47) rfl ?_
      refine mm_icmp_ge (tgt := 55) dX8_price_47 (by decide) (pc' := 50) rfl (fun c => ?_) (fun c => ?_)
      · replace h := mm_it h c
        clear c
        refine mm_iconst dX8_price_55 ki_2 (pc' := 56) rfl ?_
        refine mm_iload 0 dX8_price_56 rfl (pc' := 58) rfl ?_
        refine mm_imul dX8_price_58 (pc' := 59) rfl ?_
        exact mm_sub [2, 3, 4, 1, 0] rfl (s_X8_price_J59  h)
      · replace h := mm_if h c
        clear c
        refine mm_iload 0 dX8_price_50 rfl (pc' := 52) rfl ?_
        refine mm_goto (tgt := 59) dX8_price_52 (by decide) ?_
        exact mm_sub [2, 3, 4, 1, 0] rfl (s_X8_price_J59  h)
    · replace h := mm_if h c
      clear c
      exact mm_sub [] rfl (s_X8_price_J27  h)

def P_X8_pains (q_textSize : Int32) (q_cursor : Int32) (q_start : Int32) (q_token : Int32) (q_number : Int32) (q_word : Int64) (q_fault : Int32) (q_line : Int32) (q_foundPains : Int32) (q_foundLine : Int32) (q_deadMany : Int32) (q_deadSize : Int32) (q_deadLeast : Int32) (q_deadMost : Int32) (q_st : Nat → Int32) (q_before : Nat → Int32) (q_kept : Nat → Int32) (q_isKept : Nat → Int32) (q_text : Nat → Int32) (q_ones : Nat → Int32) (q_said : Nat → Int32) (q_readTable : Nat → Int32) (q_least : Nat → Int32) (q_made : Nat → Int32) (q_enough : Nat → Int32) (q_isWanted : Nat → Int32) (q_column : Nat → Int32) (q_foundColumn : Nat → Int32) (q_walls : Nat → Int64) (q_wallMany : Nat → Int32) (q_chosen : Nat → Int32) (r : Int32 × (Nat → Int32)) : Option Value → mm_W → Prop := fun rv w => rv = some (.int r.1) ∧ w = (W_X8 q_textSize q_cursor q_start q_token q_number q_word q_fault q_line q_foundPains q_foundLine q_deadMany q_deadSize q_deadLeast q_deadMost q_st q_before q_kept q_isKept r.2 q_text q_ones q_said q_readTable q_least q_made q_enough q_isWanted q_column q_foundColumn q_walls q_wallMany q_chosen)
def X8_pains_J25 (fu : Nat)  (q_st : Nat → Int32) (q_refused : Nat → Int32)   : Option (Int32 × (Nat → Int32)) := (f_X8_told fu q_refused (-2 : Int32)).bind fun t28 => some (t28.1, t28.2)
set_option maxHeartbeats 4000000 in
set_option maxRecDepth 100000 in
theorem s_X8_pains_J25 {fu : Nat} {q_textSize : Int32} {q_cursor : Int32} {q_start : Int32} {q_token : Int32} {q_number : Int32} {q_word : Int64} {q_fault : Int32} {q_line : Int32} {q_foundPains : Int32} {q_foundLine : Int32} {q_deadMany : Int32} {q_deadSize : Int32} {q_deadLeast : Int32} {q_deadMost : Int32} {q_st : Nat → Int32} {q_before : Nat → Int32} {q_kept : Nat → Int32} {q_isKept : Nat → Int32} {q_refused : Nat → Int32} {q_text : Nat → Int32} {q_ones : Nat → Int32} {q_said : Nat → Int32} {q_readTable : Nat → Int32} {q_least : Nat → Int32} {q_made : Nat → Int32} {q_enough : Nat → Int32} {q_isWanted : Nat → Int32} {q_column : Nat → Int32} {q_foundColumn : Nat → Int32} {q_walls : Nat → Int64} {q_wallMany : Nat → Int32} {q_chosen : Nat → Int32} {r : Int32 × (Nat → Int32)} (h : X8_pains_J25 fu q_st q_refused = some r) : mm_Wp mX8_pains (mm_R (P_X8_pains q_textSize q_cursor q_start q_token q_number q_word q_fault q_line q_foundPains q_foundLine q_deadMany q_deadSize q_deadLeast q_deadMost q_st q_before q_kept q_isKept q_text q_ones q_said q_readTable q_least q_made q_enough q_isWanted q_column q_foundColumn q_walls q_wallMany q_chosen r)) 0 0 25 [(0, .ref 0)] [] (W_X8 q_textSize q_cursor q_start q_token q_number q_word q_fault q_line q_foundPains q_foundLine q_deadMany q_deadSize q_deadLeast q_deadMost q_st q_before q_kept q_isKept q_refused q_text q_ones q_said q_readTable q_least q_made q_enough q_isWanted q_column q_foundColumn q_walls q_wallMany q_chosen) := by
  rw [X8_pains_J25] at h
  refine mm_aload_n 0 dX8_pains_25 rfl rfl (pc' := 26) rfl ?_
  refine mm_bipush dX8_pains_26 kb_m2 (pc' := 28) rfl ?_
  obtain ⟨t28, h28, h⟩ := mm_bd h
  refine mm_call0 (As := [.int (-2 : Int32)]) (rest := []) cV_X8_92 (ok_X8_told h28) ⟨rfl, rfl, Nat.le_of_ble_eq_true rfl, Nat.le_of_ble_eq_true rfl⟩ dX8_pains_28 rfl rfl rfl rfl (by rintro _ _ ⟨-, rfl⟩; rfl) (Nat.le_of_ble_eq_true rfl) ⟨Nat.le_of_ble_eq_true rfl, Nat.le_of_ble_eq_true rfl⟩ (pc' := 31) rfl ?_
  rintro rv w ⟨rfl, rfl⟩
  show mm_Wp _ _ _ _ 31 [(0, .ref 0)] [.int t28.1] (W_X8 q_textSize q_cursor q_start q_token q_number q_word q_fault q_line q_foundPains q_foundLine q_deadMany q_deadSize q_deadLeast q_deadMost q_st q_before q_kept q_isKept t28.2 q_text q_ones q_said q_readTable q_least q_made q_enough q_isWanted q_column q_foundColumn q_walls q_wallMany q_chosen)
  clear h28
  have h9 := Option.some.inj h
  subst h9
  exact mm_iret rfl dX8_pains_31 ⟨rfl, rfl⟩
def f_X8_pains (fu : Nat) (q_st : Nat → Int32) (q_refused : Nat → Int32) (v1 : Int32) (v2 : Int32) : Option (Int32 × (Nat → Int32)) := (f_X8_isWindow fu q_st v1).bind fun t2 => if t2 = 0 then (X8_pains_J25 fu q_st q_refused) else ((f_X8_isHour fu v2).bind fun t9 => if t9 = 0 then (X8_pains_J25 fu q_st q_refused) else ((f_X8_price fu q_st v2 v1 (0 : Int32)).bind fun t19 => some (t19, q_refused)))
set_option maxHeartbeats 4000000 in
set_option maxRecDepth 100000 in
theorem ok_X8_pains {fu : Nat} {q_textSize : Int32} {q_cursor : Int32} {q_start : Int32} {q_token : Int32} {q_number : Int32} {q_word : Int64} {q_fault : Int32} {q_line : Int32} {q_foundPains : Int32} {q_foundLine : Int32} {q_deadMany : Int32} {q_deadSize : Int32} {q_deadLeast : Int32} {q_deadMost : Int32} {q_st : Nat → Int32} {q_before : Nat → Int32} {q_kept : Nat → Int32} {q_isKept : Nat → Int32} {q_refused : Nat → Int32} {q_text : Nat → Int32} {q_ones : Nat → Int32} {q_said : Nat → Int32} {q_readTable : Nat → Int32} {q_least : Nat → Int32} {q_made : Nat → Int32} {q_enough : Nat → Int32} {q_isWanted : Nat → Int32} {q_column : Nat → Int32} {q_foundColumn : Nat → Int32} {q_walls : Nat → Int64} {q_wallMany : Nat → Int32} {q_chosen : Nat → Int32} {r : Int32 × (Nat → Int32)} {v1 : Int32} {v2 : Int32} (h : f_X8_pains fu q_st q_refused v1 v2 = some r) : mm_Ok mX8_pains [.ref 0, .int v1, .int v2] (W_X8 q_textSize q_cursor q_start q_token q_number q_word q_fault q_line q_foundPains q_foundLine q_deadMany q_deadSize q_deadLeast q_deadMost q_st q_before q_kept q_isKept q_refused q_text q_ones q_said q_readTable q_least q_made q_enough q_isWanted q_column q_foundColumn q_walls q_wallMany q_chosen) (P_X8_pains q_textSize q_cursor q_start q_token q_number q_word q_fault q_line q_foundPains q_foundLine q_deadMany q_deadSize q_deadLeast q_deadMost q_st q_before q_kept q_isKept q_text q_ones q_said q_readTable q_least q_made q_enough q_isWanted q_column q_foundColumn q_walls q_wallMany q_chosen r) := by
  rw [f_X8_pains] at h
  refine mm_Ok.of pn_X8 (l := [(0, .ref 0), (1, .int v1), (2, .int v2)]) rfl (Nat.le_of_ble_eq_true rfl) ?_
  refine mm_aload_n 0 dX8_pains_0 rfl rfl (pc' := 1) rfl ?_
  refine mm_iload_n 1 dX8_pains_1 rfl rfl (pc' := 2) rfl ?_
  obtain ⟨t2, h2, h⟩ := mm_bd h
  refine mm_call0 (As := [.int v1]) (rest := []) cV_X8_78 (ok_X8_isWindow h2) ⟨rfl, rfl, Nat.le_of_ble_eq_true rfl, Nat.le_of_ble_eq_true rfl⟩ dX8_pains_2 rfl rfl rfl rfl (by rintro _ _ ⟨-, rfl⟩; rfl) (Nat.le_of_ble_eq_true rfl) ⟨Nat.le_of_ble_eq_true rfl, Nat.le_of_ble_eq_true rfl⟩ (pc' := 5) rfl ?_
  rintro rv w ⟨rfl, rfl⟩
  show mm_Wp _ _ _ _ 5 [(0, .ref 0), (1, .int v1), (2, .int v2)] [.int t2] (W_X8 q_textSize q_cursor q_start q_token q_number q_word q_fault q_line q_foundPains q_foundLine q_deadMany q_deadSize q_deadLeast q_deadMost q_st q_before q_kept q_isKept q_refused q_text q_ones q_said q_readTable q_least q_made q_enough q_isWanted q_column q_foundColumn q_walls q_wallMany q_chosen)
  clear h2
  refine mm_if_eq (tgt := 25) dX8_pains_5 (by decide) (pc' := 8) rfl (fun c => ?_) (fun c => ?_)
  · replace h := mm_it h c
    clear c
    exact mm_sub [0] rfl (s_X8_pains_J25  h)
  · replace h := mm_if h c
    clear c
    refine mm_iload_n 2 dX8_pains_8 rfl rfl (pc' := 9) rfl ?_
    obtain ⟨t9, h9, h⟩ := mm_bd h
    refine mm_callS (As := [.int v2]) (rest := []) (av := [.int v2]) (wc := []) (is := []) cS_X8_85 (ok_X8_isHour h9) ⟨rfl, rfl, Nat.le_of_ble_eq_true rfl, Nat.le_of_ble_eq_true rfl⟩ dX8_pains_9 rfl rfl rfl ⟨rfl, by decide, by decide⟩ (by rintro _ _ ⟨-, rfl⟩; rfl) (Nat.le_of_ble_eq_true rfl) ⟨Nat.le_of_ble_eq_true rfl, Nat.le_of_ble_eq_true rfl⟩ (pc' := 12) rfl ?_
    rintro rv w ⟨rfl, rfl⟩
    show mm_Wp _ _ _ _ 12 [(0, .ref 0), (1, .int v1), (2, .int v2)] [.int t9] (W_X8 q_textSize q_cursor q_start q_token q_number q_word q_fault q_line q_foundPains q_foundLine q_deadMany q_deadSize q_deadLeast q_deadMost q_st q_before q_kept q_isKept q_refused q_text q_ones q_said q_readTable q_least q_made q_enough q_isWanted q_column q_foundColumn q_walls q_wallMany q_chosen)
    clear h9
    refine mm_if_eq (tgt := 25) dX8_pains_12 (by decide) (pc' := 15) rfl (fun c => ?_) (fun c => ?_)
    · replace h := mm_it h c
      clear c
      exact mm_sub [0] rfl (s_X8_pains_J25  h)
    · replace h := mm_if h c
      clear c
      refine mm_aload_n 0 dX8_pains_15 rfl rfl (pc' := 16) rfl ?_
      refine mm_iload_n 2 dX8_pains_16 rfl rfl (pc' := 17) rfl ?_
      refine mm_iload_n 1 dX8_pains_17 rfl rfl (pc' := 18) rfl ?_
      refine mm_iconst dX8_pains_18 ki_0 (pc' := 19) rfl ?_
      obtain ⟨t19, h19, h⟩ := mm_bd h
      refine mm_call0 (As := [.int v2, .int v1, .int (0 : Int32)]) (rest := []) cV_X8_118 (ok_X8_price h19) ⟨rfl, rfl, Nat.le_of_ble_eq_true rfl, Nat.le_of_ble_eq_true rfl⟩ dX8_pains_19 rfl rfl rfl rfl (by rintro _ _ ⟨-, rfl⟩; rfl) (Nat.le_of_ble_eq_true rfl) ⟨Nat.le_of_ble_eq_true rfl, Nat.le_of_ble_eq_true rfl⟩ (pc' := 22) rfl ?_
      rintro rv w ⟨rfl, rfl⟩
      show mm_Wp _ _ _ _ 22 [(0, .ref 0), (1, .int v1), (2, .int v2)] [.int t19] (W_X8 q_textSize q_cursor q_start q_token q_number q_word q_fault q_line q_foundPains q_foundLine q_deadMany q_deadSize q_deadLeast q_deadMost q_st q_before q_kept q_isKept q_refused q_text q_ones q_said q_readTable q_least q_made q_enough q_isWanted q_column q_foundColumn q_walls q_wallMany q_chosen)
      clear h19
      refine mm_goto (tgt := 31) dX8_pains_22 (by decide) ?_
      have h9 := Option.some.inj h
      subst h9
      exact mm_iret rfl dX8_pains_31 ⟨rfl, rfl⟩

def P_X8_type (q_cursor : Int32) (q_start : Int32) (q_token : Int32) (q_number : Int32) (q_word : Int64) (q_fault : Int32) (q_line : Int32) (q_foundPains : Int32) (q_foundLine : Int32) (q_deadMany : Int32) (q_deadSize : Int32) (q_deadLeast : Int32) (q_deadMost : Int32) (q_st : Nat → Int32) (q_before : Nat → Int32) (q_kept : Nat → Int32) (q_isKept : Nat → Int32) (q_ones : Nat → Int32) (q_said : Nat → Int32) (q_readTable : Nat → Int32) (q_least : Nat → Int32) (q_made : Nat → Int32) (q_enough : Nat → Int32) (q_isWanted : Nat → Int32) (q_column : Nat → Int32) (q_foundColumn : Nat → Int32) (q_walls : Nat → Int64) (q_wallMany : Nat → Int32) (q_chosen : Nat → Int32) (r : Int32 × Int32 × (Nat → Int32) × (Nat → Int32)) : Option Value → mm_W → Prop := fun rv w => rv = some (.int r.1) ∧ w = (W_X8 r.2.1 q_cursor q_start q_token q_number q_word q_fault q_line q_foundPains q_foundLine q_deadMany q_deadSize q_deadLeast q_deadMost q_st q_before q_kept q_isKept r.2.2.1 r.2.2.2 q_ones q_said q_readTable q_least q_made q_enough q_isWanted q_column q_foundColumn q_walls q_wallMany q_chosen)
def X8_type_L41 (fu : Nat)  (q_refused : Nat → Int32) (v1 : Int64) : Nat → Int32 → (Nat → Int32) → Int32 → Option (Int32 × Int32 × (Nat → Int32) × (Nat → Int32))
  | 0, _, _, _ => none
  | n + 1, q_textSize, q_text, v4 => if v4 < 0 then (some (q_textSize, q_textSize, q_refused, q_text)) else (mm_ck 200 q_textSize ((X8_type_L41 fu q_refused v1 n) (q_textSize + (1 : Int32)) (upd q_text q_textSize.toNatClampNeg (((v1 >>> (((8 : Int32) * v4).toInt64 &&& 63)) &&& (255 : Int64)).toInt32)) (v4 + (-1 : Int32))))
set_option maxHeartbeats 4000000 in
set_option maxRecDepth 100000 in
theorem s_X8_type_L41 {fu : Nat} {q_cursor : Int32} {q_start : Int32} {q_token : Int32} {q_number : Int32} {q_word : Int64} {q_fault : Int32} {q_line : Int32} {q_foundPains : Int32} {q_foundLine : Int32} {q_deadMany : Int32} {q_deadSize : Int32} {q_deadLeast : Int32} {q_deadMost : Int32} {q_st : Nat → Int32} {q_before : Nat → Int32} {q_kept : Nat → Int32} {q_isKept : Nat → Int32} {q_refused : Nat → Int32} {q_ones : Nat → Int32} {q_said : Nat → Int32} {q_readTable : Nat → Int32} {q_least : Nat → Int32} {q_made : Nat → Int32} {q_enough : Nat → Int32} {q_isWanted : Nat → Int32} {q_column : Nat → Int32} {q_foundColumn : Nat → Int32} {q_walls : Nat → Int64} {q_wallMany : Nat → Int32} {q_chosen : Nat → Int32} {r : Int32 × Int32 × (Nat → Int32) × (Nat → Int32)} {v1 : Int64} : ∀ (n : Nat) (q_textSize : Int32) (q_text : Nat → Int32) (v4 : Int32), X8_type_L41 fu q_refused v1 n q_textSize q_text v4 = some r → mm_Wp mX8_type (mm_R (P_X8_type q_cursor q_start q_token q_number q_word q_fault q_line q_foundPains q_foundLine q_deadMany q_deadSize q_deadLeast q_deadMost q_st q_before q_kept q_isKept q_ones q_said q_readTable q_least q_made q_enough q_isWanted q_column q_foundColumn q_walls q_wallMany q_chosen r)) 0 0 41 [(0, .ref 0), (1, .long v1), (4, .int v4)] [] (W_X8 q_textSize q_cursor q_start q_token q_number q_word q_fault q_line q_foundPains q_foundLine q_deadMany q_deadSize q_deadLeast q_deadMost q_st q_before q_kept q_isKept q_refused q_text q_ones q_said q_readTable q_least q_made q_enough q_isWanted q_column q_foundColumn q_walls q_wallMany q_chosen) := by
  intro n
  induction n with
  | zero =>
    intro q_textSize q_text v4 h
    rw [X8_type_L41] at h
    cases h
  | succ n hr41 =>
    intro q_textSize q_text v4 h
    rw [X8_type_L41] at h
    refine mm_iload 2 dX8_type_41 rfl (pc' := 43) rfl ?_
    refine mm_if_lt (tgt := 83) dX8_type_43 (by decide) (pc' := 46) rfl (fun c => ?_) (fun c => ?_)
    · replace h := mm_it h c
      clear c
      refine mm_aload_n 0 dX8_type_83 rfl rfl (pc' := 84) rfl ?_
      refine mm_getf fG_X8_121 dX8_type_84 rfl rfl (pc' := 87) rfl ?_
      have h9 := Option.some.inj h
      subst h9
      exact mm_iret rfl dX8_type_87 ⟨rfl, rfl⟩
    · replace h := mm_if h c
      clear c
      refine mm_aload_n 0 dX8_type_46 rfl rfl (pc' := 47) rfl ?_
      refine mm_getf fG_X8_26 dX8_type_47 rfl rfl (pc' := 50) rfl ?_
      refine mm_aload_n 0 dX8_type_50 rfl rfl (pc' := 51) rfl ?_
      refine mm_getf fG_X8_121 dX8_type_51 rfl rfl (pc' := 54) rfl ?_
      refine mm_lload_n 1 dX8_type_54 rfl rfl (pc' := 55) rfl ?_
      refine mm_bipush dX8_type_55 kb_8 (pc' := 57) rfl ?_
      refine mm_iload 2 dX8_type_57 rfl (pc' := 59) rfl ?_
      refine mm_imul dX8_type_59 (pc' := 60) rfl ?_
      refine mm_lshr dX8_type_60 (pc' := 61) rfl ?_
      refine mm_ldc2 kC_X8_125 dX8_type_61 (pc' := 64) rfl ?_
      refine mm_land dX8_type_64 (pc' := 65) rfl ?_
      refine mm_l2i dX8_type_65 (pc' := 66) rfl ?_
      obtain ⟨c66, h⟩ := mm_ck_of h
      refine mm_iast dX8_type_66 rfl c66 rfl (ws' := (W_X8 q_textSize q_cursor q_start q_token q_number q_word q_fault q_line q_foundPains q_foundLine q_deadMany q_deadSize q_deadLeast q_deadMost q_st q_before q_kept q_isKept q_refused (upd q_text q_textSize.toNatClampNeg (((v1 >>> (((8 : Int32) * v4).toInt64 &&& 63)) &&& (255 : Int64)).toInt32)) q_ones q_said q_readTable q_least q_made q_enough q_isWanted q_column q_foundColumn q_walls q_wallMany q_chosen)) rfl (pc' := 67) rfl ?_
      clear c66
      refine mm_aload_n 0 dX8_type_67 rfl rfl (pc' := 68) rfl ?_
      refine mm_dup dX8_type_68 rfl (pc' := 69) rfl ?_
      refine mm_getf fG_X8_121 dX8_type_69 rfl rfl (pc' := 72) rfl ?_
      refine mm_iconst dX8_type_72 ki_1 (pc' := 73) rfl ?_
      refine mm_iadd dX8_type_73 (pc' := 74) rfl ?_
      refine mm_putf fP_X8_121 dX8_type_74 rfl (Nat.le_of_ble_eq_true rfl) (fun _ => rfl) (fun _ => rfl) (ws' := (W_X8 (q_textSize + (1 : Int32)) q_cursor q_start q_token q_number q_word q_fault q_line q_foundPains q_foundLine q_deadMany q_deadSize q_deadLeast q_deadMost q_st q_before q_kept q_isKept q_refused (upd q_text q_textSize.toNatClampNeg (((v1 >>> (((8 : Int32) * v4).toInt64 &&& 63)) &&& (255 : Int64)).toInt32)) q_ones q_said q_readTable q_least q_made q_enough q_isWanted q_column q_foundColumn q_walls q_wallMany q_chosen)) rfl (pc' := 77) rfl ?_
      refine mm_iinc 2 dX8_type_77 rfl ki_m1 (by decide) (l' := [(4, .int (v4 + (-1 : Int32))), (0, .ref 0), (1, .long v1)]) rfl (pc' := 80) rfl ?_
      refine mm_goto (tgt := 41) dX8_type_80 (by decide) ?_
      exact mm_sub [1, 2, 0] rfl (hr41 _ _ _ h)
def f_X8_type (fu : Nat) (q_textSize : Int32) (q_refused : Nat → Int32) (q_text : Nat → Int32) (v1 : Int64) (v3 : Int32) : Option (Int32 × Int32 × (Nat → Int32) × (Nat → Int32)) := (f_X8_in fu v3 (1 : Int32) (8 : Int32)).bind fun t4 => if t4 = 0 then ((f_X8_told fu q_refused (-2 : Int32)).bind fun t13 => some (t13.1, q_textSize, t13.2, q_text)) else (if (q_textSize + v3) ≤ (200 : Int32) then (X8_type_L41 fu q_refused v1 fu q_textSize q_text (v3 - (1 : Int32))) else ((f_X8_told fu q_refused (-4 : Int32)).bind fun t32 => some (t32.1, q_textSize, t32.2, q_text)))
set_option maxHeartbeats 4000000 in
set_option maxRecDepth 100000 in
theorem ok_X8_type {fu : Nat} {q_textSize : Int32} {q_cursor : Int32} {q_start : Int32} {q_token : Int32} {q_number : Int32} {q_word : Int64} {q_fault : Int32} {q_line : Int32} {q_foundPains : Int32} {q_foundLine : Int32} {q_deadMany : Int32} {q_deadSize : Int32} {q_deadLeast : Int32} {q_deadMost : Int32} {q_st : Nat → Int32} {q_before : Nat → Int32} {q_kept : Nat → Int32} {q_isKept : Nat → Int32} {q_refused : Nat → Int32} {q_text : Nat → Int32} {q_ones : Nat → Int32} {q_said : Nat → Int32} {q_readTable : Nat → Int32} {q_least : Nat → Int32} {q_made : Nat → Int32} {q_enough : Nat → Int32} {q_isWanted : Nat → Int32} {q_column : Nat → Int32} {q_foundColumn : Nat → Int32} {q_walls : Nat → Int64} {q_wallMany : Nat → Int32} {q_chosen : Nat → Int32} {r : Int32 × Int32 × (Nat → Int32) × (Nat → Int32)} {v1 : Int64} {v3 : Int32} (h : f_X8_type fu q_textSize q_refused q_text v1 v3 = some r) : mm_Ok mX8_type [.ref 0, .long v1, .int v3] (W_X8 q_textSize q_cursor q_start q_token q_number q_word q_fault q_line q_foundPains q_foundLine q_deadMany q_deadSize q_deadLeast q_deadMost q_st q_before q_kept q_isKept q_refused q_text q_ones q_said q_readTable q_least q_made q_enough q_isWanted q_column q_foundColumn q_walls q_wallMany q_chosen) (P_X8_type q_cursor q_start q_token q_number q_word q_fault q_line q_foundPains q_foundLine q_deadMany q_deadSize q_deadLeast q_deadMost q_st q_before q_kept q_isKept q_ones q_said q_readTable q_least q_made q_enough q_isWanted q_column q_foundColumn q_walls q_wallMany q_chosen r) := by
  rw [f_X8_type] at h
  refine mm_Ok.of pn_X8 (l := [(0, .ref 0), (1, .long v1), (3, .int v3)]) rfl (Nat.le_of_ble_eq_true rfl) ?_
  refine mm_iload_n 2 dX8_type_0 rfl rfl (pc' := 1) rfl ?_
  refine mm_iconst dX8_type_1 ki_1 (pc' := 2) rfl ?_
  refine mm_bipush dX8_type_2 kb_8 (pc' := 4) rfl ?_
  obtain ⟨t4, h4, h⟩ := mm_bd h
  refine mm_callS (As := [.int v3, .int (1 : Int32), .int (8 : Int32)]) (rest := []) (av := [.int v3, .int (1 : Int32), .int (8 : Int32)]) (wc := []) (is := []) cS_X8_70 (ok_X8_in h4) ⟨rfl, rfl, Nat.le_of_ble_eq_true rfl, Nat.le_of_ble_eq_true rfl⟩ dX8_type_4 rfl rfl rfl ⟨rfl, by decide, by decide⟩ (by rintro _ _ ⟨-, rfl⟩; rfl) (Nat.le_of_ble_eq_true rfl) ⟨Nat.le_of_ble_eq_true rfl, Nat.le_of_ble_eq_true rfl⟩ (pc' := 7) rfl ?_
  rintro rv w ⟨rfl, rfl⟩
  show mm_Wp _ _ _ _ 7 [(0, .ref 0), (1, .long v1), (3, .int v3)] [.int t4] (W_X8 q_textSize q_cursor q_start q_token q_number q_word q_fault q_line q_foundPains q_foundLine q_deadMany q_deadSize q_deadLeast q_deadMost q_st q_before q_kept q_isKept q_refused q_text q_ones q_said q_readTable q_least q_made q_enough q_isWanted q_column q_foundColumn q_walls q_wallMany q_chosen)
  clear h4
  refine mm_if_ne (tgt := 17) dX8_type_7 (by decide) (pc' := 10) rfl (fun c => ?_) (fun c => ?_)
  · replace h := mm_if h c
    clear c
    refine mm_aload_n 0 dX8_type_17 rfl rfl (pc' := 18) rfl ?_
    refine mm_getf fG_X8_121 dX8_type_18 rfl rfl (pc' := 21) rfl ?_
    refine mm_iload_n 2 dX8_type_21 rfl rfl (pc' := 22) rfl ?_
    refine mm_iadd dX8_type_22 (pc' := 23) rfl ?_
    refine mm_sipush dX8_type_23 ks_200 (pc' := 26) rfl ?_
    refine mm_icmp_le (tgt := 36) dX8_type_26 (by decide) (pc' := 29) rfl (fun c => ?_) (fun c => ?_)
    · replace h := mm_it h c
      clear c
      refine mm_iload_n 2 dX8_type_36 rfl rfl (pc' := 37) rfl ?_
      refine mm_iconst dX8_type_37 ki_1 (pc' := 38) rfl ?_
      refine mm_isub dX8_type_38 (pc' := 39) rfl ?_
      refine mm_istore dX8_type_39 (by decide) (l' := [(4, .int (v3 - (1 : Int32))), (0, .ref 0), (1, .long v1), (3, .int v3)]) rfl (pc' := 41) rfl ?_
      exact mm_sub [1, 2, 0] rfl (s_X8_type_L41  _ _ _ _ h)
    · replace h := mm_if h c
      clear c
      refine mm_aload_n 0 dX8_type_29 rfl rfl (pc' := 30) rfl ?_
      refine mm_bipush dX8_type_30 kb_m4 (pc' := 32) rfl ?_
      obtain ⟨t32, h32, h⟩ := mm_bd h
      refine mm_call0 (As := [.int (-4 : Int32)]) (rest := []) cV_X8_92 (ok_X8_told h32) ⟨rfl, rfl, Nat.le_of_ble_eq_true rfl, Nat.le_of_ble_eq_true rfl⟩ dX8_type_32 rfl rfl rfl rfl (by rintro _ _ ⟨-, rfl⟩; rfl) (Nat.le_of_ble_eq_true rfl) ⟨Nat.le_of_ble_eq_true rfl, Nat.le_of_ble_eq_true rfl⟩ (pc' := 35) rfl ?_
      rintro rv w ⟨rfl, rfl⟩
      show mm_Wp _ _ _ _ 35 [(0, .ref 0), (1, .long v1), (3, .int v3)] [.int t32.1] (W_X8 q_textSize q_cursor q_start q_token q_number q_word q_fault q_line q_foundPains q_foundLine q_deadMany q_deadSize q_deadLeast q_deadMost q_st q_before q_kept q_isKept t32.2 q_text q_ones q_said q_readTable q_least q_made q_enough q_isWanted q_column q_foundColumn q_walls q_wallMany q_chosen)
      clear h32
      have h9 := Option.some.inj h
      subst h9
      exact mm_iret rfl dX8_type_35 ⟨rfl, rfl⟩
  · replace h := mm_it h c
    clear c
    refine mm_aload_n 0 dX8_type_10 rfl rfl (pc' := 11) rfl ?_
    refine mm_bipush dX8_type_11 kb_m2 (pc' := 13) rfl ?_
    obtain ⟨t13, h13, h⟩ := mm_bd h
    refine mm_call0 (As := [.int (-2 : Int32)]) (rest := []) cV_X8_92 (ok_X8_told h13) ⟨rfl, rfl, Nat.le_of_ble_eq_true rfl, Nat.le_of_ble_eq_true rfl⟩ dX8_type_13 rfl rfl rfl rfl (by rintro _ _ ⟨-, rfl⟩; rfl) (Nat.le_of_ble_eq_true rfl) ⟨Nat.le_of_ble_eq_true rfl, Nat.le_of_ble_eq_true rfl⟩ (pc' := 16) rfl ?_
    rintro rv w ⟨rfl, rfl⟩
    show mm_Wp _ _ _ _ 16 [(0, .ref 0), (1, .long v1), (3, .int v3)] [.int t13.1] (W_X8 q_textSize q_cursor q_start q_token q_number q_word q_fault q_line q_foundPains q_foundLine q_deadMany q_deadSize q_deadLeast q_deadMost q_st q_before q_kept q_isKept t13.2 q_text q_ones q_said q_readTable q_least q_made q_enough q_isWanted q_column q_foundColumn q_walls q_wallMany q_chosen)
    clear h13
    have h9 := Option.some.inj h
    subst h9
    exact mm_iret rfl dX8_type_16 ⟨rfl, rfl⟩

def P_X8_clear (q_cursor : Int32) (q_start : Int32) (q_token : Int32) (q_number : Int32) (q_word : Int64) (q_fault : Int32) (q_line : Int32) (q_foundPains : Int32) (q_foundLine : Int32) (q_deadMany : Int32) (q_deadSize : Int32) (q_deadLeast : Int32) (q_deadMost : Int32) (q_st : Nat → Int32) (q_before : Nat → Int32) (q_kept : Nat → Int32) (q_isKept : Nat → Int32) (q_refused : Nat → Int32) (q_text : Nat → Int32) (q_ones : Nat → Int32) (q_said : Nat → Int32) (q_readTable : Nat → Int32) (q_least : Nat → Int32) (q_made : Nat → Int32) (q_enough : Nat → Int32) (q_isWanted : Nat → Int32) (q_column : Nat → Int32) (q_foundColumn : Nat → Int32) (q_walls : Nat → Int64) (q_wallMany : Nat → Int32) (q_chosen : Nat → Int32) (r : Int32 × Int32) : Option Value → mm_W → Prop := fun rv w => rv = some (.int r.1) ∧ w = (W_X8 r.2 q_cursor q_start q_token q_number q_word q_fault q_line q_foundPains q_foundLine q_deadMany q_deadSize q_deadLeast q_deadMost q_st q_before q_kept q_isKept q_refused q_text q_ones q_said q_readTable q_least q_made q_enough q_isWanted q_column q_foundColumn q_walls q_wallMany q_chosen)
def f_X8_clear (fu : Nat) (q_textSize : Int32) : Option (Int32 × Int32) := some (q_textSize, (0 : Int32))
set_option maxHeartbeats 4000000 in
set_option maxRecDepth 100000 in
theorem ok_X8_clear {fu : Nat} {q_textSize : Int32} {q_cursor : Int32} {q_start : Int32} {q_token : Int32} {q_number : Int32} {q_word : Int64} {q_fault : Int32} {q_line : Int32} {q_foundPains : Int32} {q_foundLine : Int32} {q_deadMany : Int32} {q_deadSize : Int32} {q_deadLeast : Int32} {q_deadMost : Int32} {q_st : Nat → Int32} {q_before : Nat → Int32} {q_kept : Nat → Int32} {q_isKept : Nat → Int32} {q_refused : Nat → Int32} {q_text : Nat → Int32} {q_ones : Nat → Int32} {q_said : Nat → Int32} {q_readTable : Nat → Int32} {q_least : Nat → Int32} {q_made : Nat → Int32} {q_enough : Nat → Int32} {q_isWanted : Nat → Int32} {q_column : Nat → Int32} {q_foundColumn : Nat → Int32} {q_walls : Nat → Int64} {q_wallMany : Nat → Int32} {q_chosen : Nat → Int32} {r : Int32 × Int32} (h : f_X8_clear fu q_textSize = some r) : mm_Ok mX8_clear [.ref 0] (W_X8 q_textSize q_cursor q_start q_token q_number q_word q_fault q_line q_foundPains q_foundLine q_deadMany q_deadSize q_deadLeast q_deadMost q_st q_before q_kept q_isKept q_refused q_text q_ones q_said q_readTable q_least q_made q_enough q_isWanted q_column q_foundColumn q_walls q_wallMany q_chosen) (P_X8_clear q_cursor q_start q_token q_number q_word q_fault q_line q_foundPains q_foundLine q_deadMany q_deadSize q_deadLeast q_deadMost q_st q_before q_kept q_isKept q_refused q_text q_ones q_said q_readTable q_least q_made q_enough q_isWanted q_column q_foundColumn q_walls q_wallMany q_chosen r) := by
  rw [f_X8_clear] at h
  refine mm_Ok.of pn_X8 (l := [(0, .ref 0)]) rfl (Nat.le_of_ble_eq_true rfl) ?_
  refine mm_aload_n 0 dX8_clear_0 rfl rfl (pc' := 1) rfl ?_
  refine mm_getf fG_X8_121 dX8_clear_1 rfl rfl (pc' := 4) rfl ?_
  refine mm_istore_n dX8_clear_4 rfl (by decide) (l' := [(1, .int q_textSize), (0, .ref 0)]) rfl (pc' := 5) rfl ?_
  refine mm_aload_n 1 dX8_clear_5 rfl rfl (pc' := 6) rfl ?_
  refine mm_iconst dX8_clear_6 ki_0 (pc' := 7) rfl ?_
  refine mm_putf fP_X8_121 dX8_clear_7 rfl (Nat.le_of_ble_eq_true rfl) (fun _ => rfl) (fun _ => rfl) (ws' := (W_X8 (0 : Int32) q_cursor q_start q_token q_number q_word q_fault q_line q_foundPains q_foundLine q_deadMany q_deadSize q_deadLeast q_deadMost q_st q_before q_kept q_isKept q_refused q_text q_ones q_said q_readTable q_least q_made q_enough q_isWanted q_column q_foundColumn q_walls q_wallMany q_chosen)) rfl (pc' := 10) rfl ?_
  refine mm_iload_n 0 dX8_clear_10 rfl rfl (pc' := 11) rfl ?_
  have h9 := Option.some.inj h
  subst h9
  exact mm_iret rfl dX8_clear_11 ⟨rfl, rfl⟩

def P_X8_byteAt (q_textSize : Int32) (q_cursor : Int32) (q_start : Int32) (q_token : Int32) (q_number : Int32) (q_word : Int64) (q_fault : Int32) (q_line : Int32) (q_foundPains : Int32) (q_foundLine : Int32) (q_deadMany : Int32) (q_deadSize : Int32) (q_deadLeast : Int32) (q_deadMost : Int32) (q_st : Nat → Int32) (q_before : Nat → Int32) (q_kept : Nat → Int32) (q_isKept : Nat → Int32) (q_refused : Nat → Int32) (q_text : Nat → Int32) (q_ones : Nat → Int32) (q_said : Nat → Int32) (q_readTable : Nat → Int32) (q_least : Nat → Int32) (q_made : Nat → Int32) (q_enough : Nat → Int32) (q_isWanted : Nat → Int32) (q_column : Nat → Int32) (q_foundColumn : Nat → Int32) (q_walls : Nat → Int64) (q_wallMany : Nat → Int32) (q_chosen : Nat → Int32) (r : Int32) : Option Value → mm_W → Prop := fun rv w => rv = some (.int r) ∧ w = (W_X8 q_textSize q_cursor q_start q_token q_number q_word q_fault q_line q_foundPains q_foundLine q_deadMany q_deadSize q_deadLeast q_deadMost q_st q_before q_kept q_isKept q_refused q_text q_ones q_said q_readTable q_least q_made q_enough q_isWanted q_column q_foundColumn q_walls q_wallMany q_chosen)
def f_X8_byteAt (fu : Nat) (q_textSize : Int32) (q_text : Nat → Int32) (v1 : Int32) : Option (Int32) := if q_textSize ≤ v1 then (some ((-1 : Int32))) else (mm_rd q_text 200 v1 fun x13 => some (x13))
set_option maxHeartbeats 4000000 in
set_option maxRecDepth 100000 in
theorem ok_X8_byteAt {fu : Nat} {q_textSize : Int32} {q_cursor : Int32} {q_start : Int32} {q_token : Int32} {q_number : Int32} {q_word : Int64} {q_fault : Int32} {q_line : Int32} {q_foundPains : Int32} {q_foundLine : Int32} {q_deadMany : Int32} {q_deadSize : Int32} {q_deadLeast : Int32} {q_deadMost : Int32} {q_st : Nat → Int32} {q_before : Nat → Int32} {q_kept : Nat → Int32} {q_isKept : Nat → Int32} {q_refused : Nat → Int32} {q_text : Nat → Int32} {q_ones : Nat → Int32} {q_said : Nat → Int32} {q_readTable : Nat → Int32} {q_least : Nat → Int32} {q_made : Nat → Int32} {q_enough : Nat → Int32} {q_isWanted : Nat → Int32} {q_column : Nat → Int32} {q_foundColumn : Nat → Int32} {q_walls : Nat → Int64} {q_wallMany : Nat → Int32} {q_chosen : Nat → Int32} {r : Int32} {v1 : Int32} (h : f_X8_byteAt fu q_textSize q_text v1 = some r) : mm_Ok mX8_byteAt [.ref 0, .int v1] (W_X8 q_textSize q_cursor q_start q_token q_number q_word q_fault q_line q_foundPains q_foundLine q_deadMany q_deadSize q_deadLeast q_deadMost q_st q_before q_kept q_isKept q_refused q_text q_ones q_said q_readTable q_least q_made q_enough q_isWanted q_column q_foundColumn q_walls q_wallMany q_chosen) (P_X8_byteAt q_textSize q_cursor q_start q_token q_number q_word q_fault q_line q_foundPains q_foundLine q_deadMany q_deadSize q_deadLeast q_deadMost q_st q_before q_kept q_isKept q_refused q_text q_ones q_said q_readTable q_least q_made q_enough q_isWanted q_column q_foundColumn q_walls q_wallMany q_chosen r) := by
  rw [f_X8_byteAt] at h
  refine mm_Ok.of pn_X8 (l := [(0, .ref 0), (1, .int v1)]) rfl (Nat.le_of_ble_eq_true rfl) ?_
  refine mm_iload_n 1 dX8_byteAt_0 rfl rfl (pc' := 1) rfl ?_
  refine mm_aload_n 0 dX8_byteAt_1 rfl rfl (pc' := 2) rfl ?_
  refine mm_getf fG_X8_121 dX8_byteAt_2 rfl rfl (pc' := 5) rfl ?_
  refine mm_icmp_ge (tgt := 17) dX8_byteAt_5 (by decide) (pc' := 8) rfl (fun c => ?_) (fun c => ?_)
  · replace h := mm_it h c
    clear c
    refine mm_iconst dX8_byteAt_17 ki_m1 (pc' := 18) rfl ?_
    have h9 := Option.some.inj h
    subst h9
    exact mm_iret rfl dX8_byteAt_18 ⟨rfl, rfl⟩
  · replace h := mm_if h c
    clear c
    refine mm_aload_n 0 dX8_byteAt_8 rfl rfl (pc' := 9) rfl ?_
    refine mm_getf fG_X8_26 dX8_byteAt_9 rfl rfl (pc' := 12) rfl ?_
    refine mm_iload_n 1 dX8_byteAt_12 rfl rfl (pc' := 13) rfl ?_
    obtain ⟨x13, c13, e13, h⟩ := mm_rd_of h
    refine mm_iald dX8_byteAt_13 rfl c13 e13 (pc' := 14) rfl ?_
    clear c13 e13
    refine mm_goto (tgt := 18) dX8_byteAt_14 (by decide) ?_
    have h9 := Option.some.inj h
    subst h9
    exact mm_iret rfl dX8_byteAt_18 ⟨rfl, rfl⟩

def P_X8_next (q_textSize : Int32) (q_fault : Int32) (q_line : Int32) (q_foundPains : Int32) (q_foundLine : Int32) (q_deadMany : Int32) (q_deadSize : Int32) (q_deadLeast : Int32) (q_deadMost : Int32) (q_st : Nat → Int32) (q_before : Nat → Int32) (q_kept : Nat → Int32) (q_isKept : Nat → Int32) (q_refused : Nat → Int32) (q_text : Nat → Int32) (q_ones : Nat → Int32) (q_said : Nat → Int32) (q_readTable : Nat → Int32) (q_least : Nat → Int32) (q_made : Nat → Int32) (q_enough : Nat → Int32) (q_isWanted : Nat → Int32) (q_column : Nat → Int32) (q_foundColumn : Nat → Int32) (q_walls : Nat → Int64) (q_wallMany : Nat → Int32) (q_chosen : Nat → Int32) (r : Int32 × Int32 × Int32 × Int32 × Int64) : Option Value → mm_W → Prop := fun rv w => rv = none ∧ w = (W_X8 q_textSize r.1 r.2.1 r.2.2.1 r.2.2.2.1 r.2.2.2.2 q_fault q_line q_foundPains q_foundLine q_deadMany q_deadSize q_deadLeast q_deadMost q_st q_before q_kept q_isKept q_refused q_text q_ones q_said q_readTable q_least q_made q_enough q_isWanted q_column q_foundColumn q_walls q_wallMany q_chosen)
def X8_next_J274 (fu : Nat)  (q_textSize : Int32) (q_cursor : Int32) (q_start : Int32) (q_token : Int32) (q_number : Int32) (q_word : Int64) (q_text : Nat → Int32)  (s0 : Int32) : Option (Int32 × Int32 × Int32 × Int32 × Int64) := some (q_cursor + (1 : Int32), q_start, s0, q_number, q_word)
set_option maxHeartbeats 4000000 in
set_option maxRecDepth 100000 in
theorem s_X8_next_J274 {fu : Nat} {q_textSize : Int32} {q_cursor : Int32} {q_start : Int32} {q_token : Int32} {q_number : Int32} {q_word : Int64} {q_fault : Int32} {q_line : Int32} {q_foundPains : Int32} {q_foundLine : Int32} {q_deadMany : Int32} {q_deadSize : Int32} {q_deadLeast : Int32} {q_deadMost : Int32} {q_st : Nat → Int32} {q_before : Nat → Int32} {q_kept : Nat → Int32} {q_isKept : Nat → Int32} {q_refused : Nat → Int32} {q_text : Nat → Int32} {q_ones : Nat → Int32} {q_said : Nat → Int32} {q_readTable : Nat → Int32} {q_least : Nat → Int32} {q_made : Nat → Int32} {q_enough : Nat → Int32} {q_isWanted : Nat → Int32} {q_column : Nat → Int32} {q_foundColumn : Nat → Int32} {q_walls : Nat → Int64} {q_wallMany : Nat → Int32} {q_chosen : Nat → Int32} {r : Int32 × Int32 × Int32 × Int32 × Int64} {s0 : Int32} (h : X8_next_J274 fu q_textSize q_cursor q_start q_token q_number q_word q_text s0 = some r) : mm_Wp mX8_next (mm_R (P_X8_next q_textSize q_fault q_line q_foundPains q_foundLine q_deadMany q_deadSize q_deadLeast q_deadMost q_st q_before q_kept q_isKept q_refused q_text q_ones q_said q_readTable q_least q_made q_enough q_isWanted q_column q_foundColumn q_walls q_wallMany q_chosen r)) 0 0 274 [(0, .ref 0)] [.int s0, .ref 0] (W_X8 q_textSize q_cursor q_start q_token q_number q_word q_fault q_line q_foundPains q_foundLine q_deadMany q_deadSize q_deadLeast q_deadMost q_st q_before q_kept q_isKept q_refused q_text q_ones q_said q_readTable q_least q_made q_enough q_isWanted q_column q_foundColumn q_walls q_wallMany q_chosen) := by
  rw [X8_next_J274] at h
  refine mm_putf fP_X8_136 dX8_next_274 rfl (Nat.le_of_ble_eq_true rfl) (fun _ => rfl) (fun _ => rfl) (ws' := (W_X8 q_textSize q_cursor q_start s0 q_number q_word q_fault q_line q_foundPains q_foundLine q_deadMany q_deadSize q_deadLeast q_deadMost q_st q_before q_kept q_isKept q_refused q_text q_ones q_said q_readTable q_least q_made q_enough q_isWanted q_column q_foundColumn q_walls q_wallMany q_chosen)) rfl (pc' := 277) rfl ?_
  refine mm_aload_n 0 dX8_next_277 rfl rfl (pc' := 278) rfl ?_
  refine mm_dup dX8_next_278 rfl (pc' := 279) rfl ?_
  refine mm_getf fG_X8_127 dX8_next_279 rfl rfl (pc' := 282) rfl ?_
  refine mm_iconst dX8_next_282 ki_1 (pc' := 283) rfl ?_
  refine mm_iadd dX8_next_283 (pc' := 284) rfl ?_
  refine mm_putf fP_X8_127 dX8_next_284 rfl (Nat.le_of_ble_eq_true rfl) (fun _ => rfl) (fun _ => rfl) (ws' := (W_X8 q_textSize (q_cursor + (1 : Int32)) q_start s0 q_number q_word q_fault q_line q_foundPains q_foundLine q_deadMany q_deadSize q_deadLeast q_deadMost q_st q_before q_kept q_isKept q_refused q_text q_ones q_said q_readTable q_least q_made q_enough q_isWanted q_column q_foundColumn q_walls q_wallMany q_chosen)) rfl (pc' := 287) rfl ?_
  have h9 := Option.some.inj h
  subst h9
  exact mm_vret rfl dX8_next_287 ⟨rfl, rfl⟩
def X8_next_J256 (fu : Nat)  (q_textSize : Int32) (q_cursor : Int32) (q_start : Int32) (q_token : Int32) (q_number : Int32) (q_word : Int64) (q_text : Nat → Int32)  (s0 : Int32) : Option (Int32 × Int32 × Int32 × Int32 × Int64) := some (q_cursor, q_start, s0, q_number, q_word)
set_option maxHeartbeats 4000000 in
set_option maxRecDepth 100000 in
theorem s_X8_next_J256 {fu : Nat} {q_textSize : Int32} {q_cursor : Int32} {q_start : Int32} {q_token : Int32} {q_number : Int32} {q_word : Int64} {q_fault : Int32} {q_line : Int32} {q_foundPains : Int32} {q_foundLine : Int32} {q_deadMany : Int32} {q_deadSize : Int32} {q_deadLeast : Int32} {q_deadMost : Int32} {q_st : Nat → Int32} {q_before : Nat → Int32} {q_kept : Nat → Int32} {q_isKept : Nat → Int32} {q_refused : Nat → Int32} {q_text : Nat → Int32} {q_ones : Nat → Int32} {q_said : Nat → Int32} {q_readTable : Nat → Int32} {q_least : Nat → Int32} {q_made : Nat → Int32} {q_enough : Nat → Int32} {q_isWanted : Nat → Int32} {q_column : Nat → Int32} {q_foundColumn : Nat → Int32} {q_walls : Nat → Int64} {q_wallMany : Nat → Int32} {q_chosen : Nat → Int32} {r : Int32 × Int32 × Int32 × Int32 × Int64} {s0 : Int32} (h : X8_next_J256 fu q_textSize q_cursor q_start q_token q_number q_word q_text s0 = some r) : mm_Wp mX8_next (mm_R (P_X8_next q_textSize q_fault q_line q_foundPains q_foundLine q_deadMany q_deadSize q_deadLeast q_deadMost q_st q_before q_kept q_isKept q_refused q_text q_ones q_said q_readTable q_least q_made q_enough q_isWanted q_column q_foundColumn q_walls q_wallMany q_chosen r)) 0 0 256 [] [.int s0, .ref 0] (W_X8 q_textSize q_cursor q_start q_token q_number q_word q_fault q_line q_foundPains q_foundLine q_deadMany q_deadSize q_deadLeast q_deadMost q_st q_before q_kept q_isKept q_refused q_text q_ones q_said q_readTable q_least q_made q_enough q_isWanted q_column q_foundColumn q_walls q_wallMany q_chosen) := by
  rw [X8_next_J256] at h
  refine mm_putf fP_X8_136 dX8_next_256 rfl (Nat.le_of_ble_eq_true rfl) (fun _ => rfl) (fun _ => rfl) (ws' := (W_X8 q_textSize q_cursor q_start s0 q_number q_word q_fault q_line q_foundPains q_foundLine q_deadMany q_deadSize q_deadLeast q_deadMost q_st q_before q_kept q_isKept q_refused q_text q_ones q_said q_readTable q_least q_made q_enough q_isWanted q_column q_foundColumn q_walls q_wallMany q_chosen)) rfl (pc' := 259) rfl ?_
  refine mm_goto (tgt := 287) dX8_next_259 (by decide) ?_
  have h9 := Option.some.inj h
  subst h9
  exact mm_vret rfl dX8_next_287 ⟨rfl, rfl⟩
def X8_next_J221 (fu : Nat) (rec163 : Int32 → Int32 → Option (Int32 × Int32 × Int32 × Int32 × Int64)) (q_textSize : Int32) (q_cursor : Int32) (q_start : Int32) (q_token : Int32) (q_number : Int32) (q_word : Int64) (q_text : Nat → Int32)  (s0 : Int32) : Option (Int32 × Int32 × Int32 × Int32 × Int64) := rec163 (q_cursor + (1 : Int32)) s0
set_option maxHeartbeats 4000000 in
set_option maxRecDepth 100000 in
theorem s_X8_next_J221 {fu : Nat} {q_textSize : Int32} {q_cursor : Int32} {q_start : Int32} {q_token : Int32} {q_number : Int32} {q_word : Int64} {q_fault : Int32} {q_line : Int32} {q_foundPains : Int32} {q_foundLine : Int32} {q_deadMany : Int32} {q_deadSize : Int32} {q_deadLeast : Int32} {q_deadMost : Int32} {q_st : Nat → Int32} {q_before : Nat → Int32} {q_kept : Nat → Int32} {q_isKept : Nat → Int32} {q_refused : Nat → Int32} {q_text : Nat → Int32} {q_ones : Nat → Int32} {q_said : Nat → Int32} {q_readTable : Nat → Int32} {q_least : Nat → Int32} {q_made : Nat → Int32} {q_enough : Nat → Int32} {q_isWanted : Nat → Int32} {q_column : Nat → Int32} {q_foundColumn : Nat → Int32} {q_walls : Nat → Int64} {q_wallMany : Nat → Int32} {q_chosen : Nat → Int32} {r : Int32 × Int32 × Int32 × Int32 × Int64} {rec163 : Int32 → Int32 → Option (Int32 × Int32 × Int32 × Int32 × Int64)} {s0 : Int32} (hr163 : ∀ (z_q_cursor : Int32) (z_q_number : Int32), rec163 z_q_cursor z_q_number = some r → mm_Wp mX8_next (mm_R (P_X8_next q_textSize q_fault q_line q_foundPains q_foundLine q_deadMany q_deadSize q_deadLeast q_deadMost q_st q_before q_kept q_isKept q_refused q_text q_ones q_said q_readTable q_least q_made q_enough q_isWanted q_column q_foundColumn q_walls q_wallMany q_chosen r)) 0 0 163 [(0, .ref 0)] [] (W_X8 q_textSize z_q_cursor q_start q_token z_q_number q_word q_fault q_line q_foundPains q_foundLine q_deadMany q_deadSize q_deadLeast q_deadMost q_st q_before q_kept q_isKept q_refused q_text q_ones q_said q_readTable q_least q_made q_enough q_isWanted q_column q_foundColumn q_walls q_wallMany q_chosen)) (h : X8_next_J221 fu rec163 q_textSize q_cursor q_start q_token q_number q_word q_text s0 = some r) : mm_Wp mX8_next (mm_R (P_X8_next q_textSize q_fault q_line q_foundPains q_foundLine q_deadMany q_deadSize q_deadLeast q_deadMost q_st q_before q_kept q_isKept q_refused q_text q_ones q_said q_readTable q_least q_made q_enough q_isWanted q_column q_foundColumn q_walls q_wallMany q_chosen r)) 0 0 221 [(0, .ref 0)] [.int s0, .ref 0] (W_X8 q_textSize q_cursor q_start q_token q_number q_word q_fault q_line q_foundPains q_foundLine q_deadMany q_deadSize q_deadLeast q_deadMost q_st q_before q_kept q_isKept q_refused q_text q_ones q_said q_readTable q_least q_made q_enough q_isWanted q_column q_foundColumn q_walls q_wallMany q_chosen) := by
  rw [X8_next_J221] at h
  refine mm_putf fP_X8_143 dX8_next_221 rfl (Nat.le_of_ble_eq_true rfl) (fun _ => rfl) (fun _ => rfl) (ws' := (W_X8 q_textSize q_cursor q_start q_token s0 q_word q_fault q_line q_foundPains q_foundLine q_deadMany q_deadSize q_deadLeast q_deadMost q_st q_before q_kept q_isKept q_refused q_text q_ones q_said q_readTable q_least q_made q_enough q_isWanted q_column q_foundColumn q_walls q_wallMany q_chosen)) rfl (pc' := 224) rfl ?_
  refine mm_aload_n 0 dX8_next_224 rfl rfl (pc' := 225) rfl ?_
  refine mm_dup dX8_next_225 rfl (pc' := 226) rfl ?_
  refine mm_getf fG_X8_127 dX8_next_226 rfl rfl (pc' := 229) rfl ?_
  refine mm_iconst dX8_next_229 ki_1 (pc' := 230) rfl ?_
  refine mm_iadd dX8_next_230 (pc' := 231) rfl ?_
  refine mm_putf fP_X8_127 dX8_next_231 rfl (Nat.le_of_ble_eq_true rfl) (fun _ => rfl) (fun _ => rfl) (ws' := (W_X8 q_textSize (q_cursor + (1 : Int32)) q_start q_token s0 q_word q_fault q_line q_foundPains q_foundLine q_deadMany q_deadSize q_deadLeast q_deadMost q_st q_before q_kept q_isKept q_refused q_text q_ones q_said q_readTable q_least q_made q_enough q_isWanted q_column q_foundColumn q_walls q_wallMany q_chosen)) rfl (pc' := 234) rfl ?_
  refine mm_goto (tgt := 163) dX8_next_234 (by decide) ?_
  exact hr163 _ _ h
def X8_next_L163 (fu : Nat)  (q_textSize : Int32) (q_start : Int32) (q_token : Int32) (q_word : Int64) (q_text : Nat → Int32)  : Nat → Int32 → Int32 → Option (Int32 × Int32 × Int32 × Int32 × Int64)
  | 0, _, _ => none
  | n + 1, q_cursor, q_number => (f_X8_byteAt fu q_textSize q_text q_cursor).bind fun t168 => (f_X8_in fu t168 (48 : Int32) (57 : Int32)).bind fun t175 => if t175 = 0 then (if (5 : Int32) ≤ (q_cursor - q_start) then (X8_next_J256 fu q_textSize q_cursor q_start q_token q_number q_word q_text (4 : Int32)) else (X8_next_J256 fu q_textSize q_cursor q_start q_token q_number q_word q_text (2 : Int32))) else (if (4 : Int32) ≤ (q_cursor - q_start) then (X8_next_J221 fu (X8_next_L163 fu q_textSize q_start q_token q_word q_text n) q_textSize q_cursor q_start q_token q_number q_word q_text q_number) else ((f_X8_byteAt fu q_textSize q_text q_cursor).bind fun t207 => X8_next_J221 fu (X8_next_L163 fu q_textSize q_start q_token q_word q_text n) q_textSize q_cursor q_start q_token q_number q_word q_text ((((10 : Int32) * q_number) + t207) - (48 : Int32))))
set_option maxHeartbeats 4000000 in
set_option maxRecDepth 100000 in
theorem s_X8_next_L163 {fu : Nat} {q_textSize : Int32} {q_start : Int32} {q_token : Int32} {q_word : Int64} {q_fault : Int32} {q_line : Int32} {q_foundPains : Int32} {q_foundLine : Int32} {q_deadMany : Int32} {q_deadSize : Int32} {q_deadLeast : Int32} {q_deadMost : Int32} {q_st : Nat → Int32} {q_before : Nat → Int32} {q_kept : Nat → Int32} {q_isKept : Nat → Int32} {q_refused : Nat → Int32} {q_text : Nat → Int32} {q_ones : Nat → Int32} {q_said : Nat → Int32} {q_readTable : Nat → Int32} {q_least : Nat → Int32} {q_made : Nat → Int32} {q_enough : Nat → Int32} {q_isWanted : Nat → Int32} {q_column : Nat → Int32} {q_foundColumn : Nat → Int32} {q_walls : Nat → Int64} {q_wallMany : Nat → Int32} {q_chosen : Nat → Int32} {r : Int32 × Int32 × Int32 × Int32 × Int64} : ∀ (n : Nat) (q_cursor : Int32) (q_number : Int32), X8_next_L163 fu q_textSize q_start q_token q_word q_text n q_cursor q_number = some r → mm_Wp mX8_next (mm_R (P_X8_next q_textSize q_fault q_line q_foundPains q_foundLine q_deadMany q_deadSize q_deadLeast q_deadMost q_st q_before q_kept q_isKept q_refused q_text q_ones q_said q_readTable q_least q_made q_enough q_isWanted q_column q_foundColumn q_walls q_wallMany q_chosen r)) 0 0 163 [(0, .ref 0)] [] (W_X8 q_textSize q_cursor q_start q_token q_number q_word q_fault q_line q_foundPains q_foundLine q_deadMany q_deadSize q_deadLeast q_deadMost q_st q_before q_kept q_isKept q_refused q_text q_ones q_said q_readTable q_least q_made q_enough q_isWanted q_column q_foundColumn q_walls q_wallMany q_chosen) := by
  intro n
  induction n with
  | zero =>
    intro q_cursor q_number h
    rw [X8_next_L163] at h
    cases h
  | succ n hr163 =>
    intro q_cursor q_number h
    rw [X8_next_L163] at h
    refine mm_aload_n 0 dX8_next_163 rfl rfl (pc' := 164) rfl ?_
    refine mm_aload_n 0 dX8_next_164 rfl rfl (pc' := 165) rfl ?_
    refine mm_getf fG_X8_127 dX8_next_165 rfl rfl (pc' := 168) rfl ?_
    obtain ⟨t168, h168, h⟩ := mm_bd h
    refine mm_call0 (As := [.int q_cursor]) (rest := []) cV_X8_130 (ok_X8_byteAt h168) ⟨rfl, rfl, Nat.le_of_ble_eq_true rfl, Nat.le_of_ble_eq_true rfl⟩ dX8_next_168 rfl rfl rfl rfl (by rintro _ _ ⟨-, rfl⟩; rfl) (Nat.le_of_ble_eq_true rfl) ⟨Nat.le_of_ble_eq_true rfl, Nat.le_of_ble_eq_true rfl⟩ (pc' := 171) rfl ?_
    rintro rv w ⟨rfl, rfl⟩
    show mm_Wp _ _ _ _ 171 [(0, .ref 0)] [.int t168] (W_X8 q_textSize q_cursor q_start q_token q_number q_word q_fault q_line q_foundPains q_foundLine q_deadMany q_deadSize q_deadLeast q_deadMost q_st q_before q_kept q_isKept q_refused q_text q_ones q_said q_readTable q_least q_made q_enough q_isWanted q_column q_foundColumn q_walls q_wallMany q_chosen)
    clear h168
    refine mm_bipush dX8_next_171 kb_48 (pc' := 173) rfl ?_
    refine mm_bipush dX8_next_173 kb_57 (pc' := 175) rfl ?_
    obtain ⟨t175, h175, h⟩ := mm_bd h
    refine mm_callS (As := [.int t168, .int (48 : Int32), .int (57 : Int32)]) (rest := []) (av := [.int t168, .int (48 : Int32), .int (57 : Int32)]) (wc := []) (is := []) cS_X8_70 (ok_X8_in h175) ⟨rfl, rfl, Nat.le_of_ble_eq_true rfl, Nat.le_of_ble_eq_true rfl⟩ dX8_next_175 rfl rfl rfl ⟨rfl, by decide, by decide⟩ (by rintro _ _ ⟨-, rfl⟩; rfl) (Nat.le_of_ble_eq_true rfl) ⟨Nat.le_of_ble_eq_true rfl, Nat.le_of_ble_eq_true rfl⟩ (pc' := 178) rfl ?_
    rintro rv w ⟨rfl, rfl⟩
    show mm_Wp _ _ _ _ 178 [(0, .ref 0)] [.int t175] (W_X8 q_textSize q_cursor q_start q_token q_number q_word q_fault q_line q_foundPains q_foundLine q_deadMany q_deadSize q_deadLeast q_deadMost q_st q_before q_kept q_isKept q_refused q_text q_ones q_said q_readTable q_least q_made q_enough q_isWanted q_column q_foundColumn q_walls q_wallMany q_chosen)
    clear h175
    refine mm_if_eq (tgt := 237) dX8_next_178 (by decide) (pc' := 181) rfl (fun c => ?_) (fun c => ?_)
    · replace h := mm_it h c
      clear c
      refine mm_aload_n 0 dX8_next_237 rfl rfl (pc' := 238) rfl ?_
      refine mm_aload_n 0 dX8_next_238 rfl rfl (pc' := 239) rfl ?_
      refine mm_getf fG_X8_127 dX8_next_239 rfl rfl (pc' := 242) rfl ?_
      refine mm_aload_n 0 dX8_next_242 rfl rfl (pc' := 243) rfl ?_
      refine mm_getf fG_X8_133 dX8_next_243 rfl rfl (pc' := 246) rfl ?_
      refine mm_isub dX8_next_246 (pc' := 247) rfl ?_
      refine mm_iconst dX8_next_247 ki_5 (pc' := 248) rfl ?_
      refine mm_icmp_ge (tgt := 255) dX8_next_248 (by decide) (pc' := 251) rfl (fun c => ?_) (fun c => ?_)
      · replace h := mm_it h c
        clear c
        refine mm_iconst dX8_next_255 ki_4 (pc' := 256) rfl ?_
        exact mm_sub [] rfl (s_X8_next_J256  h)
      · replace h := mm_if h c
        clear c
        refine mm_iconst dX8_next_251 ki_2 (pc' := 252) rfl ?_
        refine mm_goto (tgt := 256) dX8_next_252 (by decide) ?_
        exact mm_sub [] rfl (s_X8_next_J256  h)
    · replace h := mm_if h c
      clear c
      refine mm_aload_n 0 dX8_next_181 rfl rfl (pc' := 182) rfl ?_
      refine mm_aload_n 0 dX8_next_182 rfl rfl (pc' := 183) rfl ?_
      refine mm_getf fG_X8_127 dX8_next_183 rfl rfl (pc' := 186) rfl ?_
      refine mm_aload_n 0 dX8_next_186 rfl rfl (pc' := 187) rfl ?_
      refine mm_getf fG_X8_133 dX8_next_187 rfl rfl (pc' := 190) rfl ?_
      refine mm_isub dX8_next_190 (pc' := 191) rfl ?_
      refine mm_iconst dX8_next_191 ki_4 (pc' := 192) rfl ?_
      refine mm_icmp_ge (tgt := 217) dX8_next_192 (by decide) (pc' := 195) rfl (fun c => ?_) (fun c => ?_)
      · replace h := mm_it h c
        clear c
        refine mm_aload_n 0 dX8_next_217 rfl rfl (pc' := 218) rfl ?_
        refine mm_getf fG_X8_143 dX8_next_218 rfl rfl (pc' := 221) rfl ?_
        exact s_X8_next_J221 (hr163 := hr163) h
      · replace h := mm_if h c
        clear c
        refine mm_bipush dX8_next_195 kb_10 (pc' := 197) rfl ?_
        refine mm_aload_n 0 dX8_next_197 rfl rfl (pc' := 198) rfl ?_
        refine mm_getf fG_X8_143 dX8_next_198 rfl rfl (pc' := 201) rfl ?_
        refine mm_imul dX8_next_201 (pc' := 202) rfl ?_
        refine mm_aload_n 0 dX8_next_202 rfl rfl (pc' := 203) rfl ?_
        refine mm_aload_n 0 dX8_next_203 rfl rfl (pc' := 204) rfl ?_
        refine mm_getf fG_X8_127 dX8_next_204 rfl rfl (pc' := 207) rfl ?_
        obtain ⟨t207, h207, h⟩ := mm_bd h
        refine mm_call0 (As := [.int q_cursor]) (rest := [.int ((10 : Int32) * q_number), .ref 0]) cV_X8_130 (ok_X8_byteAt h207) ⟨rfl, rfl, Nat.le_of_ble_eq_true rfl, Nat.le_of_ble_eq_true rfl⟩ dX8_next_207 rfl rfl rfl rfl (by rintro _ _ ⟨-, rfl⟩; rfl) (Nat.le_of_ble_eq_true rfl) ⟨Nat.le_of_ble_eq_true rfl, Nat.le_of_ble_eq_true rfl⟩ (pc' := 210) rfl ?_
        rintro rv w ⟨rfl, rfl⟩
        show mm_Wp _ _ _ _ 210 [(0, .ref 0)] [.int t207, .int ((10 : Int32) * q_number), .ref 0] (W_X8 q_textSize q_cursor q_start q_token q_number q_word q_fault q_line q_foundPains q_foundLine q_deadMany q_deadSize q_deadLeast q_deadMost q_st q_before q_kept q_isKept q_refused q_text q_ones q_said q_readTable q_least q_made q_enough q_isWanted q_column q_foundColumn q_walls q_wallMany q_chosen)
        clear h207
        refine mm_iadd dX8_next_210 (pc' := 211) rfl ?_
        refine mm_bipush dX8_next_211 kb_48 (pc' := 213) rfl ?_
        refine mm_isub dX8_next_213 (pc' := 214) rfl ?_
        refine mm_goto (tgt := 221) dX8_next_214 (by decide) ?_
        exact s_X8_next_J221 (hr163 := hr163) h
def X8_next_J131 (fu : Nat) (rec77 : Int32 → Int64 → Option (Int32 × Int32 × Int32 × Int32 × Int64)) (q_textSize : Int32) (q_cursor : Int32) (q_start : Int32) (q_token : Int32) (q_number : Int32) (q_word : Int64) (q_text : Nat → Int32)  (s0 : Int64) : Option (Int32 × Int32 × Int32 × Int32 × Int64) := rec77 (q_cursor + (1 : Int32)) s0
set_option maxHeartbeats 4000000 in
set_option maxRecDepth 100000 in
theorem s_X8_next_J131 {fu : Nat} {q_textSize : Int32} {q_cursor : Int32} {q_start : Int32} {q_token : Int32} {q_number : Int32} {q_word : Int64} {q_fault : Int32} {q_line : Int32} {q_foundPains : Int32} {q_foundLine : Int32} {q_deadMany : Int32} {q_deadSize : Int32} {q_deadLeast : Int32} {q_deadMost : Int32} {q_st : Nat → Int32} {q_before : Nat → Int32} {q_kept : Nat → Int32} {q_isKept : Nat → Int32} {q_refused : Nat → Int32} {q_text : Nat → Int32} {q_ones : Nat → Int32} {q_said : Nat → Int32} {q_readTable : Nat → Int32} {q_least : Nat → Int32} {q_made : Nat → Int32} {q_enough : Nat → Int32} {q_isWanted : Nat → Int32} {q_column : Nat → Int32} {q_foundColumn : Nat → Int32} {q_walls : Nat → Int64} {q_wallMany : Nat → Int32} {q_chosen : Nat → Int32} {r : Int32 × Int32 × Int32 × Int32 × Int64} {rec77 : Int32 → Int64 → Option (Int32 × Int32 × Int32 × Int32 × Int64)} {s0 : Int64} (hr77 : ∀ (z_q_cursor : Int32) (z_q_word : Int64), rec77 z_q_cursor z_q_word = some r → mm_Wp mX8_next (mm_R (P_X8_next q_textSize q_fault q_line q_foundPains q_foundLine q_deadMany q_deadSize q_deadLeast q_deadMost q_st q_before q_kept q_isKept q_refused q_text q_ones q_said q_readTable q_least q_made q_enough q_isWanted q_column q_foundColumn q_walls q_wallMany q_chosen r)) 0 0 77 [(0, .ref 0)] [] (W_X8 q_textSize z_q_cursor q_start q_token q_number z_q_word q_fault q_line q_foundPains q_foundLine q_deadMany q_deadSize q_deadLeast q_deadMost q_st q_before q_kept q_isKept q_refused q_text q_ones q_said q_readTable q_least q_made q_enough q_isWanted q_column q_foundColumn q_walls q_wallMany q_chosen)) (h : X8_next_J131 fu rec77 q_textSize q_cursor q_start q_token q_number q_word q_text s0 = some r) : mm_Wp mX8_next (mm_R (P_X8_next q_textSize q_fault q_line q_foundPains q_foundLine q_deadMany q_deadSize q_deadLeast q_deadMost q_st q_before q_kept q_isKept q_refused q_text q_ones q_said q_readTable q_least q_made q_enough q_isWanted q_column q_foundColumn q_walls q_wallMany q_chosen r)) 0 0 131 [(0, .ref 0)] [.long s0, .ref 0] (W_X8 q_textSize q_cursor q_start q_token q_number q_word q_fault q_line q_foundPains q_foundLine q_deadMany q_deadSize q_deadLeast q_deadMost q_st q_before q_kept q_isKept q_refused q_text q_ones q_said q_readTable q_least q_made q_enough q_isWanted q_column q_foundColumn q_walls q_wallMany q_chosen) := by
  rw [X8_next_J131] at h
  refine mm_putf fP_X8_139 dX8_next_131 rfl (Nat.le_of_ble_eq_true rfl) (fun _ => rfl) (fun _ => rfl) (ws' := (W_X8 q_textSize q_cursor q_start q_token q_number s0 q_fault q_line q_foundPains q_foundLine q_deadMany q_deadSize q_deadLeast q_deadMost q_st q_before q_kept q_isKept q_refused q_text q_ones q_said q_readTable q_least q_made q_enough q_isWanted q_column q_foundColumn q_walls q_wallMany q_chosen)) rfl (pc' := 134) rfl ?_
  refine mm_aload_n 0 dX8_next_134 rfl rfl (pc' := 135) rfl ?_
  refine mm_dup dX8_next_135 rfl (pc' := 136) rfl ?_
  refine mm_getf fG_X8_127 dX8_next_136 rfl rfl (pc' := 139) rfl ?_
  refine mm_iconst dX8_next_139 ki_1 (pc' := 140) rfl ?_
  refine mm_iadd dX8_next_140 (pc' := 141) rfl ?_
  refine mm_putf fP_X8_127 dX8_next_141 rfl (Nat.le_of_ble_eq_true rfl) (fun _ => rfl) (fun _ => rfl) (ws' := (W_X8 q_textSize (q_cursor + (1 : Int32)) q_start q_token q_number s0 q_fault q_line q_foundPains q_foundLine q_deadMany q_deadSize q_deadLeast q_deadMost q_st q_before q_kept q_isKept q_refused q_text q_ones q_said q_readTable q_least q_made q_enough q_isWanted q_column q_foundColumn q_walls q_wallMany q_chosen)) rfl (pc' := 144) rfl ?_
  refine mm_goto (tgt := 77) dX8_next_144 (by decide) ?_
  exact hr77 _ _ h
def X8_next_L77 (fu : Nat)  (q_textSize : Int32) (q_start : Int32) (q_token : Int32) (q_number : Int32) (q_text : Nat → Int32)  : Nat → Int32 → Int64 → Option (Int32 × Int32 × Int32 × Int32 × Int64)
  | 0, _, _ => none
  | n + 1, q_cursor, q_word => (f_X8_byteAt fu q_textSize q_text q_cursor).bind fun t82 => (f_X8_in fu t82 (97 : Int32) (122 : Int32)).bind fun t89 => if t89 = 0 then (some (q_cursor, q_start, q_token, q_number, q_word)) else (if (7 : Int32) ≤ (q_cursor - q_start) then (X8_next_J131 fu (X8_next_L77 fu q_textSize q_start q_token q_number q_text n) q_textSize q_cursor q_start q_token q_number q_word q_text (0 : Int64)) else ((f_X8_byteAt fu q_textSize q_text q_cursor).bind fun t122 => X8_next_J131 fu (X8_next_L77 fu q_textSize q_start q_token q_number q_text n) q_textSize q_cursor q_start q_token q_number q_word q_text ((q_word <<< ((8 : Int32).toInt64 &&& 63)) ||| t122.toInt64)))
set_option maxHeartbeats 4000000 in
set_option maxRecDepth 100000 in
theorem s_X8_next_L77 {fu : Nat} {q_textSize : Int32} {q_start : Int32} {q_token : Int32} {q_number : Int32} {q_fault : Int32} {q_line : Int32} {q_foundPains : Int32} {q_foundLine : Int32} {q_deadMany : Int32} {q_deadSize : Int32} {q_deadLeast : Int32} {q_deadMost : Int32} {q_st : Nat → Int32} {q_before : Nat → Int32} {q_kept : Nat → Int32} {q_isKept : Nat → Int32} {q_refused : Nat → Int32} {q_text : Nat → Int32} {q_ones : Nat → Int32} {q_said : Nat → Int32} {q_readTable : Nat → Int32} {q_least : Nat → Int32} {q_made : Nat → Int32} {q_enough : Nat → Int32} {q_isWanted : Nat → Int32} {q_column : Nat → Int32} {q_foundColumn : Nat → Int32} {q_walls : Nat → Int64} {q_wallMany : Nat → Int32} {q_chosen : Nat → Int32} {r : Int32 × Int32 × Int32 × Int32 × Int64} : ∀ (n : Nat) (q_cursor : Int32) (q_word : Int64), X8_next_L77 fu q_textSize q_start q_token q_number q_text n q_cursor q_word = some r → mm_Wp mX8_next (mm_R (P_X8_next q_textSize q_fault q_line q_foundPains q_foundLine q_deadMany q_deadSize q_deadLeast q_deadMost q_st q_before q_kept q_isKept q_refused q_text q_ones q_said q_readTable q_least q_made q_enough q_isWanted q_column q_foundColumn q_walls q_wallMany q_chosen r)) 0 0 77 [(0, .ref 0)] [] (W_X8 q_textSize q_cursor q_start q_token q_number q_word q_fault q_line q_foundPains q_foundLine q_deadMany q_deadSize q_deadLeast q_deadMost q_st q_before q_kept q_isKept q_refused q_text q_ones q_said q_readTable q_least q_made q_enough q_isWanted q_column q_foundColumn q_walls q_wallMany q_chosen) := by
  intro n
  induction n with
  | zero =>
    intro q_cursor q_word h
    rw [X8_next_L77] at h
    cases h
  | succ n hr77 =>
    intro q_cursor q_word h
    rw [X8_next_L77] at h
    refine mm_aload_n 0 dX8_next_77 rfl rfl (pc' := 78) rfl ?_
    refine mm_aload_n 0 dX8_next_78 rfl rfl (pc' := 79) rfl ?_
    refine mm_getf fG_X8_127 dX8_next_79 rfl rfl (pc' := 82) rfl ?_
    obtain ⟨t82, h82, h⟩ := mm_bd h
    refine mm_call0 (As := [.int q_cursor]) (rest := []) cV_X8_130 (ok_X8_byteAt h82) ⟨rfl, rfl, Nat.le_of_ble_eq_true rfl, Nat.le_of_ble_eq_true rfl⟩ dX8_next_82 rfl rfl rfl rfl (by rintro _ _ ⟨-, rfl⟩; rfl) (Nat.le_of_ble_eq_true rfl) ⟨Nat.le_of_ble_eq_true rfl, Nat.le_of_ble_eq_true rfl⟩ (pc' := 85) rfl ?_
    rintro rv w ⟨rfl, rfl⟩
    show mm_Wp _ _ _ _ 85 [(0, .ref 0)] [.int t82] (W_X8 q_textSize q_cursor q_start q_token q_number q_word q_fault q_line q_foundPains q_foundLine q_deadMany q_deadSize q_deadLeast q_deadMost q_st q_before q_kept q_isKept q_refused q_text q_ones q_said q_readTable q_least q_made q_enough q_isWanted q_column q_foundColumn q_walls q_wallMany q_chosen)
    clear h82
    refine mm_bipush dX8_next_85 kb_97 (pc' := 87) rfl ?_
    refine mm_bipush dX8_next_87 kb_122 (pc' := 89) rfl ?_
    obtain ⟨t89, h89, h⟩ := mm_bd h
    refine mm_callS (As := [.int t82, .int (97 : Int32), .int (122 : Int32)]) (rest := []) (av := [.int t82, .int (97 : Int32), .int (122 : Int32)]) (wc := []) (is := []) cS_X8_70 (ok_X8_in h89) ⟨rfl, rfl, Nat.le_of_ble_eq_true rfl, Nat.le_of_ble_eq_true rfl⟩ dX8_next_89 rfl rfl rfl ⟨rfl, by decide, by decide⟩ (by rintro _ _ ⟨-, rfl⟩; rfl) (Nat.le_of_ble_eq_true rfl) ⟨Nat.le_of_ble_eq_true rfl, Nat.le_of_ble_eq_true rfl⟩ (pc' := 92) rfl ?_
    rintro rv w ⟨rfl, rfl⟩
    show mm_Wp _ _ _ _ 92 [(0, .ref 0)] [.int t89] (W_X8 q_textSize q_cursor q_start q_token q_number q_word q_fault q_line q_foundPains q_foundLine q_deadMany q_deadSize q_deadLeast q_deadMost q_st q_before q_kept q_isKept q_refused q_text q_ones q_said q_readTable q_least q_made q_enough q_isWanted q_column q_foundColumn q_walls q_wallMany q_chosen)
    clear h89
    refine mm_if_eq (tgt := 287) dX8_next_92 (by decide) (pc' := 95) rfl (fun c => ?_) (fun c => ?_)
    · replace h := mm_it h c
      clear c
      have h9 := Option.some.inj h
      subst h9
      exact mm_vret rfl dX8_next_287 ⟨rfl, rfl⟩
    · replace h := mm_if h c
      clear c
      refine mm_aload_n 0 dX8_next_95 rfl rfl (pc' := 96) rfl ?_
      refine mm_aload_n 0 dX8_next_96 rfl rfl (pc' := 97) rfl ?_
      refine mm_getf fG_X8_127 dX8_next_97 rfl rfl (pc' := 100) rfl ?_
      refine mm_aload_n 0 dX8_next_100 rfl rfl (pc' := 101) rfl ?_
      refine mm_getf fG_X8_133 dX8_next_101 rfl rfl (pc' := 104) rfl ?_
      refine mm_isub dX8_next_104 (pc' := 105) rfl ?_
      refine mm_bipush dX8_next_105 kb_7 (pc' := 107) rfl ?_
      refine mm_icmp_ge (tgt := 130) dX8_next_107 (by decide) (pc' := 110) rfl (fun c => ?_) (fun c => ?_)
      · replace h := mm_it h c
        clear c
        refine mm_lconst dX8_next_130 (by decide : _ = (0 : Int64)) (pc' := 131) rfl ?_
        exact s_X8_next_J131 (hr77 := hr77) h
      · replace h := mm_if h c
        clear c
        refine mm_aload_n 0 dX8_next_110 rfl rfl (pc' := 111) rfl ?_
        refine mm_getf fG_X8_139 dX8_next_111 rfl rfl (pc' := 114) rfl ?_
        refine mm_bipush dX8_next_114 kb_8 (pc' := 116) rfl ?_
        refine mm_lshl dX8_next_116 (pc' := 117) rfl ?_
        refine mm_aload_n 0 dX8_next_117 rfl rfl (pc' := 118) rfl ?_
        refine mm_aload_n 0 dX8_next_118 rfl rfl (pc' := 119) rfl ?_
        refine mm_getf fG_X8_127 dX8_next_119 rfl rfl (pc' := 122) rfl ?_
        obtain ⟨t122, h122, h⟩ := mm_bd h
        refine mm_call0 (As := [.int q_cursor]) (rest := [.long (q_word <<< ((8 : Int32).toInt64 &&& 63)), .ref 0]) cV_X8_130 (ok_X8_byteAt h122) ⟨rfl, rfl, Nat.le_of_ble_eq_true rfl, Nat.le_of_ble_eq_true rfl⟩ dX8_next_122 rfl rfl rfl rfl (by rintro _ _ ⟨-, rfl⟩; rfl) (Nat.le_of_ble_eq_true rfl) ⟨Nat.le_of_ble_eq_true rfl, Nat.le_of_ble_eq_true rfl⟩ (pc' := 125) rfl ?_
        rintro rv w ⟨rfl, rfl⟩
        show mm_Wp _ _ _ _ 125 [(0, .ref 0)] [.int t122, .long (q_word <<< ((8 : Int32).toInt64 &&& 63)), .ref 0] (W_X8 q_textSize q_cursor q_start q_token q_number q_word q_fault q_line q_foundPains q_foundLine q_deadMany q_deadSize q_deadLeast q_deadMost q_st q_before q_kept q_isKept q_refused q_text q_ones q_said q_readTable q_least q_made q_enough q_isWanted q_column q_foundColumn q_walls q_wallMany q_chosen)
        clear h122
        refine mm_i2l dX8_next_125 (pc' := 126) rfl ?_
        refine mm_lor dX8_next_126 (pc' := 127) rfl ?_
        refine mm_goto (tgt := 131) dX8_next_127 (by decide) ?_
        exact s_X8_next_J131 (hr77 := hr77) h
def X8_next_L0 (fu : Nat)  (q_textSize : Int32) (q_start : Int32) (q_token : Int32) (q_number : Int32) (q_word : Int64) (q_text : Nat → Int32)  : Nat → Int32 → Option (Int32 × Int32 × Int32 × Int32 × Int64)
  | 0, _ => none
  | n + 1, q_cursor => (f_X8_byteAt fu q_textSize q_text q_cursor).bind fun t5 => if t5 = (32 : Int32) then ((X8_next_L0 fu q_textSize q_start q_token q_number q_word q_text n) (q_cursor + (1 : Int32))) else ((f_X8_byteAt fu q_textSize q_text q_cursor).bind fun t39 => if t39 = (-1 : Int32) then (some (q_cursor, q_cursor, (0 : Int32), q_number, q_word)) else ((f_X8_in fu t39 (97 : Int32) (122 : Int32)).bind fun t61 => if t61 = 0 then ((f_X8_in fu t39 (48 : Int32) (57 : Int32)).bind fun t152 => if t152 = 0 then (if t39 = (59 : Int32) then (X8_next_J274 fu q_textSize q_cursor q_cursor q_token q_number q_word q_text (3 : Int32)) else (X8_next_J274 fu q_textSize q_cursor q_cursor q_token q_number q_word q_text (4 : Int32))) else (X8_next_L163 fu q_textSize q_cursor q_token q_word q_text fu q_cursor (0 : Int32))) else (X8_next_L77 fu q_textSize q_cursor (1 : Int32) q_number q_text fu q_cursor (0 : Int64))))
set_option maxHeartbeats 4000000 in
set_option maxRecDepth 100000 in
theorem s_X8_next_L0 {fu : Nat} {q_textSize : Int32} {q_start : Int32} {q_token : Int32} {q_number : Int32} {q_word : Int64} {q_fault : Int32} {q_line : Int32} {q_foundPains : Int32} {q_foundLine : Int32} {q_deadMany : Int32} {q_deadSize : Int32} {q_deadLeast : Int32} {q_deadMost : Int32} {q_st : Nat → Int32} {q_before : Nat → Int32} {q_kept : Nat → Int32} {q_isKept : Nat → Int32} {q_refused : Nat → Int32} {q_text : Nat → Int32} {q_ones : Nat → Int32} {q_said : Nat → Int32} {q_readTable : Nat → Int32} {q_least : Nat → Int32} {q_made : Nat → Int32} {q_enough : Nat → Int32} {q_isWanted : Nat → Int32} {q_column : Nat → Int32} {q_foundColumn : Nat → Int32} {q_walls : Nat → Int64} {q_wallMany : Nat → Int32} {q_chosen : Nat → Int32} {r : Int32 × Int32 × Int32 × Int32 × Int64} : ∀ (n : Nat) (q_cursor : Int32), X8_next_L0 fu q_textSize q_start q_token q_number q_word q_text n q_cursor = some r → mm_Wp mX8_next (mm_R (P_X8_next q_textSize q_fault q_line q_foundPains q_foundLine q_deadMany q_deadSize q_deadLeast q_deadMost q_st q_before q_kept q_isKept q_refused q_text q_ones q_said q_readTable q_least q_made q_enough q_isWanted q_column q_foundColumn q_walls q_wallMany q_chosen r)) 0 0 0 [(0, .ref 0)] [] (W_X8 q_textSize q_cursor q_start q_token q_number q_word q_fault q_line q_foundPains q_foundLine q_deadMany q_deadSize q_deadLeast q_deadMost q_st q_before q_kept q_isKept q_refused q_text q_ones q_said q_readTable q_least q_made q_enough q_isWanted q_column q_foundColumn q_walls q_wallMany q_chosen) := by
  intro n
  induction n with
  | zero =>
    intro q_cursor h
    rw [X8_next_L0] at h
    cases h
  | succ n hr0 =>
    intro q_cursor h
    rw [X8_next_L0] at h
    refine mm_aload_n 0 dX8_next_0 rfl rfl (pc' := 1) rfl ?_
    refine mm_aload_n 0 dX8_next_1 rfl rfl (pc' := 2) rfl ?_
    refine mm_getf fG_X8_127 dX8_next_2 rfl rfl (pc' := 5) rfl ?_
    obtain ⟨t5, h5, h⟩ := mm_bd h
    refine mm_call0 (As := [.int q_cursor]) (rest := []) cV_X8_130 (ok_X8_byteAt h5) ⟨rfl, rfl, Nat.le_of_ble_eq_true rfl, Nat.le_of_ble_eq_true rfl⟩ dX8_next_5 rfl rfl rfl rfl (by rintro _ _ ⟨-, rfl⟩; rfl) (Nat.le_of_ble_eq_true rfl) ⟨Nat.le_of_ble_eq_true rfl, Nat.le_of_ble_eq_true rfl⟩ (pc' := 8) rfl ?_
    rintro rv w ⟨rfl, rfl⟩
    show mm_Wp _ _ _ _ 8 [(0, .ref 0)] [.int t5] (W_X8 q_textSize q_cursor q_start q_token q_number q_word q_fault q_line q_foundPains q_foundLine q_deadMany q_deadSize q_deadLeast q_deadMost q_st q_before q_kept q_isKept q_refused q_text q_ones q_said q_readTable q_least q_made q_enough q_isWanted q_column q_foundColumn q_walls q_wallMany q_chosen)
    clear h5
    refine mm_bipush dX8_next_8 kb_32 (pc' := 10) rfl ?_
    refine mm_icmp_ne (tgt := 26) dX8_next_10 (by decide) (pc' := 13) rfl (fun c => ?_) (fun c => ?_)
    · replace h := mm_if h c
      clear c
      refine mm_aload_n 0 dX8_next_26 rfl rfl (pc' := 27) rfl ?_
      refine mm_aload_n 0 dX8_next_27 rfl rfl (pc' := 28) rfl ?_
      refine mm_getf fG_X8_127 dX8_next_28 rfl rfl (pc' := 31) rfl ?_
      refine mm_putf fP_X8_133 dX8_next_31 rfl (Nat.le_of_ble_eq_true rfl) (fun _ => rfl) (fun _ => rfl) (ws' := (W_X8 q_textSize q_cursor q_cursor q_token q_number q_word q_fault q_line q_foundPains q_foundLine q_deadMany q_deadSize q_deadLeast q_deadMost q_st q_before q_kept q_isKept q_refused q_text q_ones q_said q_readTable q_least q_made q_enough q_isWanted q_column q_foundColumn q_walls q_wallMany q_chosen)) rfl (pc' := 34) rfl ?_
      refine mm_aload_n 0 dX8_next_34 rfl rfl (pc' := 35) rfl ?_
      refine mm_aload_n 0 dX8_next_35 rfl rfl (pc' := 36) rfl ?_
      refine mm_getf fG_X8_127 dX8_next_36 rfl rfl (pc' := 39) rfl ?_
      obtain ⟨t39, h39, h⟩ := mm_bd h
      refine mm_call0 (As := [.int q_cursor]) (rest := []) cV_X8_130 (ok_X8_byteAt h39) ⟨rfl, rfl, Nat.le_of_ble_eq_true rfl, Nat.le_of_ble_eq_true rfl⟩ dX8_next_39 rfl rfl rfl rfl (by rintro _ _ ⟨-, rfl⟩; rfl) (Nat.le_of_ble_eq_true rfl) ⟨Nat.le_of_ble_eq_true rfl, Nat.le_of_ble_eq_true rfl⟩ (pc' := 42) rfl ?_
      rintro rv w ⟨rfl, rfl⟩
      show mm_Wp _ _ _ _ 42 [(0, .ref 0)] [.int t39] (W_X8 q_textSize q_cursor q_cursor q_token q_number q_word q_fault q_line q_foundPains q_foundLine q_deadMany q_deadSize q_deadLeast q_deadMost q_st q_before q_kept q_isKept q_refused q_text q_ones q_said q_readTable q_least q_made q_enough q_isWanted q_column q_foundColumn q_walls q_wallMany q_chosen)
      clear h39
      refine mm_istore_n dX8_next_42 rfl (by decide) (l' := [(1, .int t39), (0, .ref 0)]) rfl (pc' := 43) rfl ?_
      refine mm_iload_n 0 dX8_next_43 rfl rfl (pc' := 44) rfl ?_
      refine mm_iconst dX8_next_44 ki_m1 (pc' := 45) rfl ?_
      refine mm_icmp_ne (tgt := 56) dX8_next_45 (by decide) (pc' := 48) rfl (fun c => ?_) (fun c => ?_)
      · replace h := mm_if h c
        clear c
        refine mm_iload_n 0 dX8_next_56 rfl rfl (pc' := 57) rfl ?_
        refine mm_bipush dX8_next_57 kb_97 (pc' := 59) rfl ?_
        refine mm_bipush dX8_next_59 kb_122 (pc' := 61) rfl ?_
        obtain ⟨t61, h61, h⟩ := mm_bd h
        refine mm_callS (As := [.int t39, .int (97 : Int32), .int (122 : Int32)]) (rest := []) (av := [.int t39, .int (97 : Int32), .int (122 : Int32)]) (wc := []) (is := []) cS_X8_70 (ok_X8_in h61) ⟨rfl, rfl, Nat.le_of_ble_eq_true rfl, Nat.le_of_ble_eq_true rfl⟩ dX8_next_61 rfl rfl rfl ⟨rfl, by decide, by decide⟩ (by rintro _ _ ⟨-, rfl⟩; rfl) (Nat.le_of_ble_eq_true rfl) ⟨Nat.le_of_ble_eq_true rfl, Nat.le_of_ble_eq_true rfl⟩ (pc' := 64) rfl ?_
        rintro rv w ⟨rfl, rfl⟩
        show mm_Wp _ _ _ _ 64 [(1, .int t39), (0, .ref 0)] [.int t61] (W_X8 q_textSize q_cursor q_cursor q_token q_number q_word q_fault q_line q_foundPains q_foundLine q_deadMany q_deadSize q_deadLeast q_deadMost q_st q_before q_kept q_isKept q_refused q_text q_ones q_said q_readTable q_least q_made q_enough q_isWanted q_column q_foundColumn q_walls q_wallMany q_chosen)
        clear h61
        refine mm_if_eq (tgt := 147) dX8_next_64 (by decide) (pc' := 67) rfl (fun c => ?_) (fun c => ?_)
        · replace h := mm_it h c
          clear c
          refine mm_iload_n 0 dX8_next_147 rfl rfl (pc' := 148) rfl ?_
          refine mm_bipush dX8_next_148 kb_48 (pc' := 150) rfl ?_
          refine mm_bipush dX8_next_150 kb_57 (pc' := 152) rfl ?_
          obtain ⟨t152, h152, h⟩ := mm_bd h
          refine mm_callS (As := [.int t39, .int (48 : Int32), .int (57 : Int32)]) (rest := []) (av := [.int t39, .int (48 : Int32), .int (57 : Int32)]) (wc := []) (is := []) cS_X8_70 (ok_X8_in h152) ⟨rfl, rfl, Nat.le_of_ble_eq_true rfl, Nat.le_of_ble_eq_true rfl⟩ dX8_next_152 rfl rfl rfl ⟨rfl, by decide, by decide⟩ (by rintro _ _ ⟨-, rfl⟩; rfl) (Nat.le_of_ble_eq_true rfl) ⟨Nat.le_of_ble_eq_true rfl, Nat.le_of_ble_eq_true rfl⟩ (pc' := 155) rfl ?_
          rintro rv w ⟨rfl, rfl⟩
          show mm_Wp _ _ _ _ 155 [(1, .int t39), (0, .ref 0)] [.int t152] (W_X8 q_textSize q_cursor q_cursor q_token q_number q_word q_fault q_line q_foundPains q_foundLine q_deadMany q_deadSize q_deadLeast q_deadMost q_st q_before q_kept q_isKept q_refused q_text q_ones q_said q_readTable q_least q_made q_enough q_isWanted q_column q_foundColumn q_walls q_wallMany q_chosen)
          clear h152
          refine mm_if_eq (tgt := 262) dX8_next_155 (by decide) (pc' := 158) rfl (fun c => ?_) (fun c => ?_)
          · replace h := mm_it h c
            clear c
            refine mm_aload_n 1 dX8_next_262 rfl rfl (pc' := 263) rfl ?_
            refine mm_iload_n 0 dX8_next_263 rfl rfl (pc' := 264) rfl ?_
            refine mm_bipush dX8_next_264 kb_59 (pc' := 266) rfl ?_
            refine mm_icmp_ne (tgt := 273) dX8_next_266 (by decide) (pc' := 269) rfl (fun c => ?_) (fun c => ?_)
            · replace h := mm_if h c
              clear c
              refine mm_iconst dX8_next_273 ki_4 (pc' := 274) rfl ?_
              exact mm_sub [1] rfl (s_X8_next_J274  h)
            · replace h := mm_it h c
              clear c
              refine mm_iconst dX8_next_269 ki_3 (pc' := 270) rfl ?_
              refine mm_goto (tgt := 274) dX8_next_270 (by decide) ?_
              exact mm_sub [1] rfl (s_X8_next_J274  h)
          · replace h := mm_if h c
            clear c
            refine mm_aload_n 1 dX8_next_158 rfl rfl (pc' := 159) rfl ?_
            refine mm_iconst dX8_next_159 ki_0 (pc' := 160) rfl ?_
            refine mm_putf fP_X8_143 dX8_next_160 rfl (Nat.le_of_ble_eq_true rfl) (fun _ => rfl) (fun _ => rfl) (ws' := (W_X8 q_textSize q_cursor q_cursor q_token (0 : Int32) q_word q_fault q_line q_foundPains q_foundLine q_deadMany q_deadSize q_deadLeast q_deadMost q_st q_before q_kept q_isKept q_refused q_text q_ones q_said q_readTable q_least q_made q_enough q_isWanted q_column q_foundColumn q_walls q_wallMany q_chosen)) rfl (pc' := 163) rfl ?_
            exact mm_sub [1] rfl (s_X8_next_L163  _ _ _ h)
        · replace h := mm_if h c
          clear c
          refine mm_aload_n 1 dX8_next_67 rfl rfl (pc' := 68) rfl ?_
          refine mm_iconst dX8_next_68 ki_1 (pc' := 69) rfl ?_
          refine mm_putf fP_X8_136 dX8_next_69 rfl (Nat.le_of_ble_eq_true rfl) (fun _ => rfl) (fun _ => rfl) (ws' := (W_X8 q_textSize q_cursor q_cursor (1 : Int32) q_number q_word q_fault q_line q_foundPains q_foundLine q_deadMany q_deadSize q_deadLeast q_deadMost q_st q_before q_kept q_isKept q_refused q_text q_ones q_said q_readTable q_least q_made q_enough q_isWanted q_column q_foundColumn q_walls q_wallMany q_chosen)) rfl (pc' := 72) rfl ?_
          refine mm_aload_n 1 dX8_next_72 rfl rfl (pc' := 73) rfl ?_
          refine mm_lconst dX8_next_73 (by decide : _ = (0 : Int64)) (pc' := 74) rfl ?_
          refine mm_putf fP_X8_139 dX8_next_74 rfl (Nat.le_of_ble_eq_true rfl) (fun _ => rfl) (fun _ => rfl) (ws' := (W_X8 q_textSize q_cursor q_cursor (1 : Int32) q_number (0 : Int64) q_fault q_line q_foundPains q_foundLine q_deadMany q_deadSize q_deadLeast q_deadMost q_st q_before q_kept q_isKept q_refused q_text q_ones q_said q_readTable q_least q_made q_enough q_isWanted q_column q_foundColumn q_walls q_wallMany q_chosen)) rfl (pc' := 77) rfl ?_
          exact mm_sub [1] rfl (s_X8_next_L77  _ _ _ h)
      · replace h := mm_it h c
        clear c
        refine mm_aload_n 1 dX8_next_48 rfl rfl (pc' := 49) rfl ?_
        refine mm_iconst dX8_next_49 ki_0 (pc' := 50) rfl ?_
        refine mm_putf fP_X8_136 dX8_next_50 rfl (Nat.le_of_ble_eq_true rfl) (fun _ => rfl) (fun _ => rfl) (ws' := (W_X8 q_textSize q_cursor q_cursor (0 : Int32) q_number q_word q_fault q_line q_foundPains q_foundLine q_deadMany q_deadSize q_deadLeast q_deadMost q_st q_before q_kept q_isKept q_refused q_text q_ones q_said q_readTable q_least q_made q_enough q_isWanted q_column q_foundColumn q_walls q_wallMany q_chosen)) rfl (pc' := 53) rfl ?_
        refine mm_goto (tgt := 287) dX8_next_53 (by decide) ?_
        have h9 := Option.some.inj h
        subst h9
        exact mm_vret rfl dX8_next_287 ⟨rfl, rfl⟩
    · replace h := mm_it h c
      clear c
      refine mm_aload_n 0 dX8_next_13 rfl rfl (pc' := 14) rfl ?_
      refine mm_dup dX8_next_14 rfl (pc' := 15) rfl ?_
      refine mm_getf fG_X8_127 dX8_next_15 rfl rfl (pc' := 18) rfl ?_
      refine mm_iconst dX8_next_18 ki_1 (pc' := 19) rfl ?_
      refine mm_iadd dX8_next_19 (pc' := 20) rfl ?_
      refine mm_putf fP_X8_127 dX8_next_20 rfl (Nat.le_of_ble_eq_true rfl) (fun _ => rfl) (fun _ => rfl) (ws' := (W_X8 q_textSize (q_cursor + (1 : Int32)) q_start q_token q_number q_word q_fault q_line q_foundPains q_foundLine q_deadMany q_deadSize q_deadLeast q_deadMost q_st q_before q_kept q_isKept q_refused q_text q_ones q_said q_readTable q_least q_made q_enough q_isWanted q_column q_foundColumn q_walls q_wallMany q_chosen)) rfl (pc' := 23) rfl ?_
      refine mm_goto (tgt := 0) dX8_next_23 (by decide) ?_
      exact hr0 _ h
def f_X8_next (fu : Nat) (q_textSize : Int32) (q_cursor : Int32) (q_start : Int32) (q_token : Int32) (q_number : Int32) (q_word : Int64) (q_text : Nat → Int32) : Option (Int32 × Int32 × Int32 × Int32 × Int64) := X8_next_L0 fu q_textSize q_start q_token q_number q_word q_text fu q_cursor
set_option maxHeartbeats 4000000 in
set_option maxRecDepth 100000 in
theorem ok_X8_next {fu : Nat} {q_textSize : Int32} {q_cursor : Int32} {q_start : Int32} {q_token : Int32} {q_number : Int32} {q_word : Int64} {q_fault : Int32} {q_line : Int32} {q_foundPains : Int32} {q_foundLine : Int32} {q_deadMany : Int32} {q_deadSize : Int32} {q_deadLeast : Int32} {q_deadMost : Int32} {q_st : Nat → Int32} {q_before : Nat → Int32} {q_kept : Nat → Int32} {q_isKept : Nat → Int32} {q_refused : Nat → Int32} {q_text : Nat → Int32} {q_ones : Nat → Int32} {q_said : Nat → Int32} {q_readTable : Nat → Int32} {q_least : Nat → Int32} {q_made : Nat → Int32} {q_enough : Nat → Int32} {q_isWanted : Nat → Int32} {q_column : Nat → Int32} {q_foundColumn : Nat → Int32} {q_walls : Nat → Int64} {q_wallMany : Nat → Int32} {q_chosen : Nat → Int32} {r : Int32 × Int32 × Int32 × Int32 × Int64} (h : f_X8_next fu q_textSize q_cursor q_start q_token q_number q_word q_text = some r) : mm_Ok mX8_next [.ref 0] (W_X8 q_textSize q_cursor q_start q_token q_number q_word q_fault q_line q_foundPains q_foundLine q_deadMany q_deadSize q_deadLeast q_deadMost q_st q_before q_kept q_isKept q_refused q_text q_ones q_said q_readTable q_least q_made q_enough q_isWanted q_column q_foundColumn q_walls q_wallMany q_chosen) (P_X8_next q_textSize q_fault q_line q_foundPains q_foundLine q_deadMany q_deadSize q_deadLeast q_deadMost q_st q_before q_kept q_isKept q_refused q_text q_ones q_said q_readTable q_least q_made q_enough q_isWanted q_column q_foundColumn q_walls q_wallMany q_chosen r) := by
  rw [f_X8_next] at h
  refine mm_Ok.of pn_X8 (l := [(0, .ref 0)]) rfl (Nat.le_of_ble_eq_true rfl) ?_
  exact s_X8_next_L0  _ _ h

def P_X8_item (q_textSize : Int32) (q_cursor : Int32) (q_start : Int32) (q_token : Int32) (q_number : Int32) (q_word : Int64) (q_fault : Int32) (q_line : Int32) (q_foundPains : Int32) (q_foundLine : Int32) (q_deadMany : Int32) (q_deadSize : Int32) (q_deadLeast : Int32) (q_deadMost : Int32) (q_st : Nat → Int32) (q_before : Nat → Int32) (q_kept : Nat → Int32) (q_isKept : Nat → Int32) (q_refused : Nat → Int32) (q_text : Nat → Int32) (q_ones : Nat → Int32) (q_said : Nat → Int32) (q_readTable : Nat → Int32) (q_least : Nat → Int32) (q_made : Nat → Int32) (q_enough : Nat → Int32) (q_isWanted : Nat → Int32) (q_column : Nat → Int32) (q_foundColumn : Nat → Int32) (q_walls : Nat → Int64) (q_wallMany : Nat → Int32) (q_chosen : Nat → Int32) (r : Int32) : Option Value → mm_W → Prop := fun rv w => rv = some (.int r) ∧ w = (W_X8 q_textSize q_cursor q_start q_token q_number q_word q_fault q_line q_foundPains q_foundLine q_deadMany q_deadSize q_deadLeast q_deadMost q_st q_before q_kept q_isKept q_refused q_text q_ones q_said q_readTable q_least q_made q_enough q_isWanted q_column q_foundColumn q_walls q_wallMany q_chosen)
def f_X8_item (fu : Nat) (q_token : Int32) (q_word : Int64) : Option (Int32) := if q_token = (1 : Int32) then (if (lg_cmp q_word (2002873452 : Int64)) = 0 then (some ((0 : Int32))) else (if (lg_cmp q_word (127978992397940 : Int64)) = 0 then (some ((1 : Int32))) else (if (lg_cmp q_word (6840691 : Int64)) = 0 then (some ((2 : Int32))) else (if (lg_cmp q_word (119183001281906 : Int64)) = 0 then (some ((3 : Int32))) else (if (lg_cmp q_word (7104884 : Int64)) = 0 then (some ((4 : Int32))) else (if (lg_cmp q_word (495739560811 : Int64)) = 0 then (some ((5 : Int32))) else (some ((-1 : Int32))))))))) else (some ((-1 : Int32)))
set_option maxHeartbeats 4000000 in
set_option maxRecDepth 100000 in
theorem ok_X8_item {fu : Nat} {q_textSize : Int32} {q_cursor : Int32} {q_start : Int32} {q_token : Int32} {q_number : Int32} {q_word : Int64} {q_fault : Int32} {q_line : Int32} {q_foundPains : Int32} {q_foundLine : Int32} {q_deadMany : Int32} {q_deadSize : Int32} {q_deadLeast : Int32} {q_deadMost : Int32} {q_st : Nat → Int32} {q_before : Nat → Int32} {q_kept : Nat → Int32} {q_isKept : Nat → Int32} {q_refused : Nat → Int32} {q_text : Nat → Int32} {q_ones : Nat → Int32} {q_said : Nat → Int32} {q_readTable : Nat → Int32} {q_least : Nat → Int32} {q_made : Nat → Int32} {q_enough : Nat → Int32} {q_isWanted : Nat → Int32} {q_column : Nat → Int32} {q_foundColumn : Nat → Int32} {q_walls : Nat → Int64} {q_wallMany : Nat → Int32} {q_chosen : Nat → Int32} {r : Int32} (h : f_X8_item fu q_token q_word = some r) : mm_Ok mX8_item [.ref 0] (W_X8 q_textSize q_cursor q_start q_token q_number q_word q_fault q_line q_foundPains q_foundLine q_deadMany q_deadSize q_deadLeast q_deadMost q_st q_before q_kept q_isKept q_refused q_text q_ones q_said q_readTable q_least q_made q_enough q_isWanted q_column q_foundColumn q_walls q_wallMany q_chosen) (P_X8_item q_textSize q_cursor q_start q_token q_number q_word q_fault q_line q_foundPains q_foundLine q_deadMany q_deadSize q_deadLeast q_deadMost q_st q_before q_kept q_isKept q_refused q_text q_ones q_said q_readTable q_least q_made q_enough q_isWanted q_column q_foundColumn q_walls q_wallMany q_chosen r) := by
  rw [f_X8_item] at h
  refine mm_Ok.of pn_X8 (l := [(0, .ref 0)]) rfl (Nat.le_of_ble_eq_true rfl) ?_
  refine mm_aload_n 0 dX8_item_0 rfl rfl (pc' := 1) rfl ?_
  refine mm_getf fG_X8_136 dX8_item_1 rfl rfl (pc' := 4) rfl ?_
  refine mm_iconst dX8_item_4 ki_1 (pc' := 5) rfl ?_
  refine mm_icmp_eq (tgt := 12) dX8_item_5 (by decide) (pc' := 8) rfl (fun c => ?_) (fun c => ?_)
  · replace h := mm_it h c
    clear c
    refine mm_aload_n 0 dX8_item_12 rfl rfl (pc' := 13) rfl ?_
    refine mm_getf fG_X8_139 dX8_item_13 rfl rfl (pc' := 16) rfl ?_
    refine mm_ldc2 kC_X8_146 dX8_item_16 (pc' := 19) rfl ?_
    refine mm_lcmp dX8_item_19 (pc' := 20) rfl ?_
    refine mm_if_ne (tgt := 27) dX8_item_20 (by decide) (pc' := 23) rfl (fun c => ?_) (fun c => ?_)
    · replace h := mm_if h c
      clear c
      refine mm_aload_n 0 dX8_item_27 rfl rfl (pc' := 28) rfl ?_
      refine mm_getf fG_X8_139 dX8_item_28 rfl rfl (pc' := 31) rfl ?_
      refine mm_ldc2 kC_X8_148 dX8_item_31 (pc' := 34) rfl ?_
      refine mm_lcmp dX8_item_34 (pc' := 35) rfl ?_
      refine mm_if_ne (tgt := 42) dX8_item_35 (by decide) (pc' := 38) rfl (fun c => ?_) (fun c => ?_)
      · replace h := mm_if h c
        clear c
        refine mm_aload_n 0 dX8_item_42 rfl rfl (pc' := 43) rfl ?_
        refine mm_getf fG_X8_139 dX8_item_43 rfl rfl (pc' := 46) rfl ?_
        refine mm_ldc2 kC_X8_150 dX8_item_46 (pc' := 49) rfl ?_
        refine mm_lcmp dX8_item_49 (pc' := 50) rfl ?_
        refine mm_if_ne (tgt := 57) dX8_item_50 (by decide) (pc' := 53) rfl (fun c => ?_) (fun c => ?_)
        · replace h := mm_if h c
          clear c
          refine mm_aload_n 0 dX8_item_57 rfl rfl (pc' := 58) rfl ?_
          refine mm_getf fG_X8_139 dX8_item_58 rfl rfl (pc' := 61) rfl ?_
          refine mm_ldc2 kC_X8_152 dX8_item_61 (pc' := 64) rfl ?_
          refine mm_lcmp dX8_item_64 (pc' := 65) rfl ?_
          refine mm_if_ne (tgt := 72) dX8_item_65 (by decide) (pc' := 68) rfl (fun c => ?_) (fun c => ?_)
          · replace h := mm_if h c
            clear c
            refine mm_aload_n 0 dX8_item_72 rfl rfl (pc' := 73) rfl ?_
            refine mm_getf fG_X8_139 dX8_item_73 rfl rfl (pc' := 76) rfl ?_
            refine mm_ldc2 kC_X8_154 dX8_item_76 (pc' := 79) rfl ?_
            refine mm_lcmp dX8_item_79 (pc' := 80) rfl ?_
            refine mm_if_ne (tgt := 87) dX8_item_80 (by decide) (pc' := 83) rfl (fun c => ?_) (fun c => ?_)
            · replace h := mm_if h c
              clear c
              refine mm_aload_n 0 dX8_item_87 rfl rfl (pc' := 88) rfl ?_
              refine mm_getf fG_X8_139 dX8_item_88 rfl rfl (pc' := 91) rfl ?_
              refine mm_ldc2 kC_X8_156 dX8_item_91 (pc' := 94) rfl ?_
              refine mm_lcmp dX8_item_94 (pc' := 95) rfl ?_
              refine mm_if_ne (tgt := 102) dX8_item_95 (by decide) (pc' := 98) rfl (fun c => ?_) (fun c => ?_)
              · replace h := mm_if h c
                clear c
                refine mm_iconst dX8_item_102 ki_m1 (pc' := 103) rfl ?_
                have h9 := Option.some.inj h
                subst h9
                exact mm_iret rfl dX8_item_103 ⟨rfl, rfl⟩
              · replace h := mm_it h c
                clear c
                refine mm_iconst dX8_item_98 ki_5 (pc' := 99) rfl ?_
                refine mm_goto (tgt := 103) dX8_item_99 (by decide) ?_
                have h9 := Option.some.inj h
                subst h9
                exact mm_iret rfl dX8_item_103 ⟨rfl, rfl⟩
            · replace h := mm_it h c
              clear c
              refine mm_iconst dX8_item_83 ki_4 (pc' := 84) rfl ?_
              refine mm_goto (tgt := 103) dX8_item_84 (by decide) ?_
              have h9 := Option.some.inj h
              subst h9
              exact mm_iret rfl dX8_item_103 ⟨rfl, rfl⟩
          · replace h := mm_it h c
            clear c
            refine mm_iconst dX8_item_68 ki_3 (pc' := 69) rfl ?_
            refine mm_goto (tgt := 103) dX8_item_69 (by decide) ?_
            have h9 := Option.some.inj h
            subst h9
            exact mm_iret rfl dX8_item_103 ⟨rfl, rfl⟩
        · replace h := mm_it h c
          clear c
          refine mm_iconst dX8_item_53 ki_2 (pc' := 54) rfl ?_
          refine mm_goto (tgt := 103) dX8_item_54 (by decide) ?_
          have h9 := Option.some.inj h
          subst h9
          exact mm_iret rfl dX8_item_103 ⟨rfl, rfl⟩
      · replace h := mm_it h c
        clear c
        refine mm_iconst dX8_item_38 ki_1 (pc' := 39) rfl ?_
        refine mm_goto (tgt := 103) dX8_item_39 (by decide) ?_
        have h9 := Option.some.inj h
        subst h9
        exact mm_iret rfl dX8_item_103 ⟨rfl, rfl⟩
    · replace h := mm_it h c
      clear c
      refine mm_iconst dX8_item_23 ki_0 (pc' := 24) rfl ?_
      refine mm_goto (tgt := 103) dX8_item_24 (by decide) ?_
      have h9 := Option.some.inj h
      subst h9
      exact mm_iret rfl dX8_item_103 ⟨rfl, rfl⟩
  · replace h := mm_if h c
    clear c
    refine mm_iconst dX8_item_8 ki_m1 (pc' := 9) rfl ?_
    refine mm_goto (tgt := 103) dX8_item_9 (by decide) ?_
    have h9 := Option.some.inj h
    subst h9
    exact mm_iret rfl dX8_item_103 ⟨rfl, rfl⟩

def P_X8_numbersOf  (r : Int32) : Option Value → mm_W → Prop := fun rv w => rv = some (.int r) ∧ w = []
def X8_numbersOf_J18 (fu : Nat)     : Option (Int32) := some ((1 : Int32))
set_option maxHeartbeats 4000000 in
set_option maxRecDepth 100000 in
theorem s_X8_numbersOf_J18 {fu : Nat} {r : Int32} (h : X8_numbersOf_J18 fu = some r) : mm_Wp mX8_numbersOf (mm_R (P_X8_numbersOf r)) 0 0 18 [] [] [] := by
  rw [X8_numbersOf_J18] at h
  refine mm_iconst dX8_numbersOf_18 ki_1 (pc' := 19) rfl ?_
  refine mm_goto (tgt := 23) dX8_numbersOf_19 (by decide) ?_
  have h9 := Option.some.inj h
  subst h9
  exact mm_iret rfl dX8_numbersOf_23 ⟨rfl, rfl⟩
def f_X8_numbersOf (fu : Nat) (v0 : Int32) : Option (Int32) := if v0 = 0 then (some ((2 : Int32))) else (if v0 = (3 : Int32) then (X8_numbersOf_J18 fu) else (if v0 = (5 : Int32) then (X8_numbersOf_J18 fu) else (some ((3 : Int32)))))
set_option maxHeartbeats 4000000 in
set_option maxRecDepth 100000 in
theorem ok_X8_numbersOf {fu : Nat} {r : Int32} {v0 : Int32} (h : f_X8_numbersOf fu v0 = some r) : mm_Ok mX8_numbersOf [.int v0] [] (P_X8_numbersOf r) := by
  rw [f_X8_numbersOf] at h
  refine mm_Ok.of pn_X8 (l := [(0, .int v0)]) rfl (Nat.le_of_ble_eq_true rfl) ?_
  refine mm_iload_n 0 dX8_numbersOf_0 rfl rfl (pc' := 1) rfl ?_
  refine mm_if_ne (tgt := 8) dX8_numbersOf_1 (by decide) (pc' := 4) rfl (fun c => ?_) (fun c => ?_)
  · replace h := mm_if h c
    clear c
    refine mm_iload_n 0 dX8_numbersOf_8 rfl rfl (pc' := 9) rfl ?_
    refine mm_iconst dX8_numbersOf_9 ki_3 (pc' := 10) rfl ?_
    refine mm_icmp_eq (tgt := 18) dX8_numbersOf_10 (by decide) (pc' := 13) rfl (fun c => ?_) (fun c => ?_)
    · replace h := mm_it h c
      clear c
      exact mm_sub [] rfl (s_X8_numbersOf_J18  h)
    · replace h := mm_if h c
      clear c
      refine mm_iload_n 0 dX8_numbersOf_13 rfl rfl (pc' := 14) rfl ?_
      refine mm_iconst dX8_numbersOf_14 ki_5 (pc' := 15) rfl ?_
      refine mm_icmp_ne (tgt := 22) dX8_numbersOf_15 (by decide) (pc' := 18) rfl (fun c => ?_) (fun c => ?_)
      · replace h := mm_if h c
        clear c
        refine mm_iconst dX8_numbersOf_22 ki_3 (pc' := 23) rfl ?_
        have h9 := Option.some.inj h
        subst h9
        exact mm_iret rfl dX8_numbersOf_23 ⟨rfl, rfl⟩
      · replace h := mm_it h c
        clear c
        exact mm_sub [] rfl (s_X8_numbersOf_J18  h)
  · replace h := mm_it h c
    clear c
    refine mm_iconst dX8_numbersOf_4 ki_2 (pc' := 5) rfl ?_
    refine mm_goto (tgt := 23) dX8_numbersOf_5 (by decide) ?_
    have h9 := Option.some.inj h
    subst h9
    exact mm_iret rfl dX8_numbersOf_23 ⟨rfl, rfl⟩

def P_X8_readItem (q_textSize : Int32) (q_line : Int32) (q_foundPains : Int32) (q_foundLine : Int32) (q_deadMany : Int32) (q_deadSize : Int32) (q_deadLeast : Int32) (q_deadMost : Int32) (q_st : Nat → Int32) (q_before : Nat → Int32) (q_kept : Nat → Int32) (q_isKept : Nat → Int32) (q_refused : Nat → Int32) (q_text : Nat → Int32) (q_ones : Nat → Int32) (q_readTable : Nat → Int32) (q_least : Nat → Int32) (q_made : Nat → Int32) (q_enough : Nat → Int32) (q_isWanted : Nat → Int32) (q_column : Nat → Int32) (q_foundColumn : Nat → Int32) (q_walls : Nat → Int64) (q_wallMany : Nat → Int32) (q_chosen : Nat → Int32) (r : Int32 × Int32 × Int32 × Int32 × Int32 × Int64 × Int32 × (Nat → Int32)) : Option Value → mm_W → Prop := fun rv w => rv = some (.int r.1) ∧ w = (W_X8 q_textSize r.2.1 r.2.2.1 r.2.2.2.1 r.2.2.2.2.1 r.2.2.2.2.2.1 r.2.2.2.2.2.2.1 q_line q_foundPains q_foundLine q_deadMany q_deadSize q_deadLeast q_deadMost q_st q_before q_kept q_isKept q_refused q_text q_ones r.2.2.2.2.2.2.2 q_readTable q_least q_made q_enough q_isWanted q_column q_foundColumn q_walls q_wallMany q_chosen)
def X8_readItem_J112 (fu : Nat)  (q_textSize : Int32) (q_cursor : Int32) (q_start : Int32) (q_token : Int32) (q_number : Int32) (q_word : Int64) (q_fault : Int32) (q_text : Nat → Int32) (q_said : Nat → Int32) (v1 : Int32)  : Option (Int32 × Int32 × Int32 × Int32 × Int32 × Int64 × Int32 × (Nat → Int32)) := (f_X8_next fu q_textSize q_cursor q_start q_token q_number q_word q_text).bind fun t113 => some (v1, t113.1, t113.2.1, t113.2.2.1, t113.2.2.2.1, t113.2.2.2.2, q_fault, q_said)
set_option maxHeartbeats 4000000 in
set_option maxRecDepth 100000 in
theorem s_X8_readItem_J112 {fu : Nat} {q_textSize : Int32} {q_cursor : Int32} {q_start : Int32} {q_token : Int32} {q_number : Int32} {q_word : Int64} {q_fault : Int32} {q_line : Int32} {q_foundPains : Int32} {q_foundLine : Int32} {q_deadMany : Int32} {q_deadSize : Int32} {q_deadLeast : Int32} {q_deadMost : Int32} {q_st : Nat → Int32} {q_before : Nat → Int32} {q_kept : Nat → Int32} {q_isKept : Nat → Int32} {q_refused : Nat → Int32} {q_text : Nat → Int32} {q_ones : Nat → Int32} {q_said : Nat → Int32} {q_readTable : Nat → Int32} {q_least : Nat → Int32} {q_made : Nat → Int32} {q_enough : Nat → Int32} {q_isWanted : Nat → Int32} {q_column : Nat → Int32} {q_foundColumn : Nat → Int32} {q_walls : Nat → Int64} {q_wallMany : Nat → Int32} {q_chosen : Nat → Int32} {r : Int32 × Int32 × Int32 × Int32 × Int32 × Int64 × Int32 × (Nat → Int32)} {v1 : Int32} (h : X8_readItem_J112 fu q_textSize q_cursor q_start q_token q_number q_word q_fault q_text q_said v1 = some r) : mm_Wp mX8_readItem (mm_R (P_X8_readItem q_textSize q_line q_foundPains q_foundLine q_deadMany q_deadSize q_deadLeast q_deadMost q_st q_before q_kept q_isKept q_refused q_text q_ones q_readTable q_least q_made q_enough q_isWanted q_column q_foundColumn q_walls q_wallMany q_chosen r)) 0 0 112 [(0, .ref 0), (1, .int v1)] [] (W_X8 q_textSize q_cursor q_start q_token q_number q_word q_fault q_line q_foundPains q_foundLine q_deadMany q_deadSize q_deadLeast q_deadMost q_st q_before q_kept q_isKept q_refused q_text q_ones q_said q_readTable q_least q_made q_enough q_isWanted q_column q_foundColumn q_walls q_wallMany q_chosen) := by
  rw [X8_readItem_J112] at h
  refine mm_aload_n 0 dX8_readItem_112 rfl rfl (pc' := 113) rfl ?_
  obtain ⟨t113, h113, h⟩ := mm_bd h
  refine mm_call0 (As := []) (rest := []) cV_X8_168 (ok_X8_next h113) ⟨rfl, rfl, Nat.le_of_ble_eq_true rfl, Nat.le_of_ble_eq_true rfl⟩ dX8_readItem_113 rfl rfl rfl rfl (by rintro _ _ ⟨-, rfl⟩; rfl) (Nat.le_of_ble_eq_true rfl) ⟨Nat.le_of_ble_eq_true rfl, Nat.le_of_ble_eq_true rfl⟩ (pc' := 116) rfl ?_
  rintro rv w ⟨rfl, rfl⟩
  show mm_Wp _ _ _ _ 116 [(0, .ref 0), (1, .int v1)] [] (W_X8 q_textSize t113.1 t113.2.1 t113.2.2.1 t113.2.2.2.1 t113.2.2.2.2 q_fault q_line q_foundPains q_foundLine q_deadMany q_deadSize q_deadLeast q_deadMost q_st q_before q_kept q_isKept q_refused q_text q_ones q_said q_readTable q_least q_made q_enough q_isWanted q_column q_foundColumn q_walls q_wallMany q_chosen)
  clear h113
  refine mm_iload_n 1 dX8_readItem_116 rfl rfl (pc' := 117) rfl ?_
  have h9 := Option.some.inj h
  subst h9
  exact mm_iret rfl dX8_readItem_117 ⟨rfl, rfl⟩
def X8_readItem_J109 (fu : Nat)  (q_textSize : Int32) (q_cursor : Int32) (q_start : Int32) (q_token : Int32) (q_number : Int32) (q_word : Int64) (q_fault : Int32) (q_text : Nat → Int32) (q_said : Nat → Int32) (v1 : Int32) (s0 : Int32) : Option (Int32 × Int32 × Int32 × Int32 × Int32 × Int64 × Int32 × (Nat → Int32)) := X8_readItem_J112 fu q_textSize q_cursor q_start q_token q_number q_word s0 q_text q_said v1
set_option maxHeartbeats 4000000 in
set_option maxRecDepth 100000 in
theorem s_X8_readItem_J109 {fu : Nat} {q_textSize : Int32} {q_cursor : Int32} {q_start : Int32} {q_token : Int32} {q_number : Int32} {q_word : Int64} {q_fault : Int32} {q_line : Int32} {q_foundPains : Int32} {q_foundLine : Int32} {q_deadMany : Int32} {q_deadSize : Int32} {q_deadLeast : Int32} {q_deadMost : Int32} {q_st : Nat → Int32} {q_before : Nat → Int32} {q_kept : Nat → Int32} {q_isKept : Nat → Int32} {q_refused : Nat → Int32} {q_text : Nat → Int32} {q_ones : Nat → Int32} {q_said : Nat → Int32} {q_readTable : Nat → Int32} {q_least : Nat → Int32} {q_made : Nat → Int32} {q_enough : Nat → Int32} {q_isWanted : Nat → Int32} {q_column : Nat → Int32} {q_foundColumn : Nat → Int32} {q_walls : Nat → Int64} {q_wallMany : Nat → Int32} {q_chosen : Nat → Int32} {r : Int32 × Int32 × Int32 × Int32 × Int32 × Int64 × Int32 × (Nat → Int32)} {v1 : Int32} {s0 : Int32} (h : X8_readItem_J109 fu q_textSize q_cursor q_start q_token q_number q_word q_fault q_text q_said v1 s0 = some r) : mm_Wp mX8_readItem (mm_R (P_X8_readItem q_textSize q_line q_foundPains q_foundLine q_deadMany q_deadSize q_deadLeast q_deadMost q_st q_before q_kept q_isKept q_refused q_text q_ones q_readTable q_least q_made q_enough q_isWanted q_column q_foundColumn q_walls q_wallMany q_chosen r)) 0 0 109 [(0, .ref 0), (1, .int v1)] [.int s0, .ref 0] (W_X8 q_textSize q_cursor q_start q_token q_number q_word q_fault q_line q_foundPains q_foundLine q_deadMany q_deadSize q_deadLeast q_deadMost q_st q_before q_kept q_isKept q_refused q_text q_ones q_said q_readTable q_least q_made q_enough q_isWanted q_column q_foundColumn q_walls q_wallMany q_chosen) := by
  rw [X8_readItem_J109] at h
  refine mm_putf fP_X8_162 dX8_readItem_109 rfl (Nat.le_of_ble_eq_true rfl) (fun _ => rfl) (fun _ => rfl) (ws' := (W_X8 q_textSize q_cursor q_start q_token q_number q_word s0 q_line q_foundPains q_foundLine q_deadMany q_deadSize q_deadLeast q_deadMost q_st q_before q_kept q_isKept q_refused q_text q_ones q_said q_readTable q_least q_made q_enough q_isWanted q_column q_foundColumn q_walls q_wallMany q_chosen)) rfl (pc' := 112) rfl ?_
  exact s_X8_readItem_J112  h
def X8_readItem_J80 (fu : Nat)  (q_textSize : Int32) (q_cursor : Int32) (q_start : Int32) (q_token : Int32) (q_number : Int32) (q_word : Int64) (q_fault : Int32) (q_text : Nat → Int32) (q_said : Nat → Int32) (v1 : Int32)  : Option (Int32 × Int32 × Int32 × Int32 × Int32 × Int64 × Int32 × (Nat → Int32)) := if q_fault = (-1 : Int32) then ((f_X8_next fu q_textSize q_cursor q_start q_token q_number q_word q_text).bind fun t89 => if t89.2.2.1 = (3 : Int32) then (X8_readItem_J109 fu q_textSize t89.1 t89.2.1 t89.2.2.1 t89.2.2.2.1 t89.2.2.2.2 q_fault q_text q_said v1 (-1 : Int32)) else (X8_readItem_J109 fu q_textSize t89.1 t89.2.1 t89.2.2.1 t89.2.2.2.1 t89.2.2.2.2 q_fault q_text q_said v1 t89.2.1)) else (X8_readItem_J112 fu q_textSize q_cursor q_start q_token q_number q_word q_fault q_text q_said v1)
set_option maxHeartbeats 4000000 in
set_option maxRecDepth 100000 in
theorem s_X8_readItem_J80 {fu : Nat} {q_textSize : Int32} {q_cursor : Int32} {q_start : Int32} {q_token : Int32} {q_number : Int32} {q_word : Int64} {q_fault : Int32} {q_line : Int32} {q_foundPains : Int32} {q_foundLine : Int32} {q_deadMany : Int32} {q_deadSize : Int32} {q_deadLeast : Int32} {q_deadMost : Int32} {q_st : Nat → Int32} {q_before : Nat → Int32} {q_kept : Nat → Int32} {q_isKept : Nat → Int32} {q_refused : Nat → Int32} {q_text : Nat → Int32} {q_ones : Nat → Int32} {q_said : Nat → Int32} {q_readTable : Nat → Int32} {q_least : Nat → Int32} {q_made : Nat → Int32} {q_enough : Nat → Int32} {q_isWanted : Nat → Int32} {q_column : Nat → Int32} {q_foundColumn : Nat → Int32} {q_walls : Nat → Int64} {q_wallMany : Nat → Int32} {q_chosen : Nat → Int32} {r : Int32 × Int32 × Int32 × Int32 × Int32 × Int64 × Int32 × (Nat → Int32)} {v1 : Int32} (h : X8_readItem_J80 fu q_textSize q_cursor q_start q_token q_number q_word q_fault q_text q_said v1 = some r) : mm_Wp mX8_readItem (mm_R (P_X8_readItem q_textSize q_line q_foundPains q_foundLine q_deadMany q_deadSize q_deadLeast q_deadMost q_st q_before q_kept q_isKept q_refused q_text q_ones q_readTable q_least q_made q_enough q_isWanted q_column q_foundColumn q_walls q_wallMany q_chosen r)) 0 0 80 [(0, .ref 0), (1, .int v1)] [] (W_X8 q_textSize q_cursor q_start q_token q_number q_word q_fault q_line q_foundPains q_foundLine q_deadMany q_deadSize q_deadLeast q_deadMost q_st q_before q_kept q_isKept q_refused q_text q_ones q_said q_readTable q_least q_made q_enough q_isWanted q_column q_foundColumn q_walls q_wallMany q_chosen) := by
  rw [X8_readItem_J80] at h
  refine mm_aload_n 0 dX8_readItem_80 rfl rfl (pc' := 81) rfl ?_
  refine mm_getf fG_X8_162 dX8_readItem_81 rfl rfl (pc' := 84) rfl ?_
  refine mm_iconst dX8_readItem_84 ki_m1 (pc' := 85) rfl ?_
  refine mm_icmp_ne (tgt := 112) dX8_readItem_85 (by decide) (pc' := 88) rfl (fun c => ?_) (fun c => ?_)
  · replace h := mm_if h c
    clear c
    exact s_X8_readItem_J112  h
  · replace h := mm_it h c
    clear c
    refine mm_aload_n 0 dX8_readItem_88 rfl rfl (pc' := 89) rfl ?_
    obtain ⟨t89, h89, h⟩ := mm_bd h
    refine mm_call0 (As := []) (rest := []) cV_X8_168 (ok_X8_next h89) ⟨rfl, rfl, Nat.le_of_ble_eq_true rfl, Nat.le_of_ble_eq_true rfl⟩ dX8_readItem_89 rfl rfl rfl rfl (by rintro _ _ ⟨-, rfl⟩; rfl) (Nat.le_of_ble_eq_true rfl) ⟨Nat.le_of_ble_eq_true rfl, Nat.le_of_ble_eq_true rfl⟩ (pc' := 92) rfl ?_
    rintro rv w ⟨rfl, rfl⟩
    show mm_Wp _ _ _ _ 92 [(0, .ref 0), (1, .int v1)] [] (W_X8 q_textSize t89.1 t89.2.1 t89.2.2.1 t89.2.2.2.1 t89.2.2.2.2 q_fault q_line q_foundPains q_foundLine q_deadMany q_deadSize q_deadLeast q_deadMost q_st q_before q_kept q_isKept q_refused q_text q_ones q_said q_readTable q_least q_made q_enough q_isWanted q_column q_foundColumn q_walls q_wallMany q_chosen)
    clear h89
    refine mm_aload_n 0 dX8_readItem_92 rfl rfl (pc' := 93) rfl ?_
    refine mm_aload_n 0 dX8_readItem_93 rfl rfl (pc' := 94) rfl ?_
    refine mm_getf fG_X8_136 dX8_readItem_94 rfl rfl (pc' := 97) rfl ?_
    refine mm_iconst dX8_readItem_97 ki_3 (pc' := 98) rfl ?_
    refine mm_icmp_ne (tgt := 105) dX8_readItem_98 (by decide) (pc' := 101) rfl (fun c => ?_) (fun c => ?_)
    · replace h := mm_if h c
      clear c
      refine mm_aload_n 0 dX8_readItem_105 rfl rfl (pc' := 106) rfl ?_
      refine mm_getf fG_X8_133 dX8_readItem_106 rfl rfl (pc' := 109) rfl ?_
      exact s_X8_readItem_J109  h
    · replace h := mm_it h c
      clear c
      refine mm_iconst dX8_readItem_101 ki_m1 (pc' := 102) rfl ?_
      refine mm_goto (tgt := 109) dX8_readItem_102 (by decide) ?_
      exact s_X8_readItem_J109  h
def X8_readItem_J71 (fu : Nat) (rec24 : Int32 → Int32 → Int32 → Int32 → Int64 → Int32 → (Nat → Int32) → Int32 → Option (Int32 × Int32 × Int32 × Int32 × Int32 × Int64 × Int32 × (Nat → Int32))) (q_textSize : Int32) (q_cursor : Int32) (q_start : Int32) (q_token : Int32) (q_number : Int32) (q_word : Int64) (q_fault : Int32) (q_text : Nat → Int32) (q_said : Nat → Int32) (v1 : Int32) (v2 : Int32) (s0 : Int32) : Option (Int32 × Int32 × Int32 × Int32 × Int32 × Int64 × Int32 × (Nat → Int32)) := rec24 q_cursor q_start q_token q_number q_word s0 q_said (v2 + (1 : Int32))
set_option maxHeartbeats 4000000 in
set_option maxRecDepth 100000 in
theorem s_X8_readItem_J71 {fu : Nat} {q_textSize : Int32} {q_cursor : Int32} {q_start : Int32} {q_token : Int32} {q_number : Int32} {q_word : Int64} {q_fault : Int32} {q_line : Int32} {q_foundPains : Int32} {q_foundLine : Int32} {q_deadMany : Int32} {q_deadSize : Int32} {q_deadLeast : Int32} {q_deadMost : Int32} {q_st : Nat → Int32} {q_before : Nat → Int32} {q_kept : Nat → Int32} {q_isKept : Nat → Int32} {q_refused : Nat → Int32} {q_text : Nat → Int32} {q_ones : Nat → Int32} {q_said : Nat → Int32} {q_readTable : Nat → Int32} {q_least : Nat → Int32} {q_made : Nat → Int32} {q_enough : Nat → Int32} {q_isWanted : Nat → Int32} {q_column : Nat → Int32} {q_foundColumn : Nat → Int32} {q_walls : Nat → Int64} {q_wallMany : Nat → Int32} {q_chosen : Nat → Int32} {r : Int32 × Int32 × Int32 × Int32 × Int32 × Int64 × Int32 × (Nat → Int32)} {rec24 : Int32 → Int32 → Int32 → Int32 → Int64 → Int32 → (Nat → Int32) → Int32 → Option (Int32 × Int32 × Int32 × Int32 × Int32 × Int64 × Int32 × (Nat → Int32))} {v1 : Int32} {v2 : Int32} {s0 : Int32} (hr24 : ∀ (z_q_cursor : Int32) (z_q_start : Int32) (z_q_token : Int32) (z_q_number : Int32) (z_q_word : Int64) (z_q_fault : Int32) (z_q_said : Nat → Int32) (y2 : Int32), rec24 z_q_cursor z_q_start z_q_token z_q_number z_q_word z_q_fault z_q_said y2 = some r → mm_Wp mX8_readItem (mm_R (P_X8_readItem q_textSize q_line q_foundPains q_foundLine q_deadMany q_deadSize q_deadLeast q_deadMost q_st q_before q_kept q_isKept q_refused q_text q_ones q_readTable q_least q_made q_enough q_isWanted q_column q_foundColumn q_walls q_wallMany q_chosen r)) 0 0 24 [(0, .ref 0), (1, .int v1), (2, .int y2)] [] (W_X8 q_textSize z_q_cursor z_q_start z_q_token z_q_number z_q_word z_q_fault q_line q_foundPains q_foundLine q_deadMany q_deadSize q_deadLeast q_deadMost q_st q_before q_kept q_isKept q_refused q_text q_ones z_q_said q_readTable q_least q_made q_enough q_isWanted q_column q_foundColumn q_walls q_wallMany q_chosen)) (h : X8_readItem_J71 fu rec24 q_textSize q_cursor q_start q_token q_number q_word q_fault q_text q_said v1 v2 s0 = some r) : mm_Wp mX8_readItem (mm_R (P_X8_readItem q_textSize q_line q_foundPains q_foundLine q_deadMany q_deadSize q_deadLeast q_deadMost q_st q_before q_kept q_isKept q_refused q_text q_ones q_readTable q_least q_made q_enough q_isWanted q_column q_foundColumn q_walls q_wallMany q_chosen r)) 0 0 71 [(0, .ref 0), (1, .int v1), (2, .int v2)] [.int s0, .ref 0] (W_X8 q_textSize q_cursor q_start q_token q_number q_word q_fault q_line q_foundPains q_foundLine q_deadMany q_deadSize q_deadLeast q_deadMost q_st q_before q_kept q_isKept q_refused q_text q_ones q_said q_readTable q_least q_made q_enough q_isWanted q_column q_foundColumn q_walls q_wallMany q_chosen) := by
  rw [X8_readItem_J71] at h
  refine mm_putf fP_X8_162 dX8_readItem_71 rfl (Nat.le_of_ble_eq_true rfl) (fun _ => rfl) (fun _ => rfl) (ws' := (W_X8 q_textSize q_cursor q_start q_token q_number q_word s0 q_line q_foundPains q_foundLine q_deadMany q_deadSize q_deadLeast q_deadMost q_st q_before q_kept q_isKept q_refused q_text q_ones q_said q_readTable q_least q_made q_enough q_isWanted q_column q_foundColumn q_walls q_wallMany q_chosen)) rfl (pc' := 74) rfl ?_
  refine mm_iinc 2 dX8_readItem_74 rfl ki_1 (by decide) (l' := [(2, .int (v2 + (1 : Int32))), (0, .ref 0), (1, .int v1)]) rfl (pc' := 77) rfl ?_
  refine mm_goto (tgt := 24) dX8_readItem_77 (by decide) ?_
  exact mm_sub [1, 2, 0] rfl (hr24 _ _ _ _ _ _ _ _ h)
def X8_readItem_L24 (fu : Nat)  (q_textSize : Int32) (q_text : Nat → Int32) (v1 : Int32) : Nat → Int32 → Int32 → Int32 → Int32 → Int64 → Int32 → (Nat → Int32) → Int32 → Option (Int32 × Int32 × Int32 × Int32 × Int32 × Int64 × Int32 × (Nat → Int32))
  | 0, _, _, _, _, _, _, _, _ => none
  | n + 1, q_cursor, q_start, q_token, q_number, q_word, q_fault, q_said, v2 => (f_X8_numbersOf fu v1).bind fun t26 => if t26 ≤ v2 then (X8_readItem_J80 fu q_textSize q_cursor q_start q_token q_number q_word q_fault q_text q_said v1) else (if q_fault = (-1 : Int32) then ((f_X8_next fu q_textSize q_cursor q_start q_token q_number q_word q_text).bind fun t41 => mm_ck 3 v2 (if t41.2.2.1 = (2 : Int32) then (X8_readItem_J71 fu (X8_readItem_L24 fu q_textSize q_text v1 n) q_textSize t41.1 t41.2.1 t41.2.2.1 t41.2.2.2.1 t41.2.2.2.2 q_fault q_text (upd q_said v2.toNatClampNeg t41.2.2.2.1) v1 v2 (-1 : Int32)) else (X8_readItem_J71 fu (X8_readItem_L24 fu q_textSize q_text v1 n) q_textSize t41.1 t41.2.1 t41.2.2.1 t41.2.2.2.1 t41.2.2.2.2 q_fault q_text (upd q_said v2.toNatClampNeg t41.2.2.2.1) v1 v2 t41.2.1))) else (X8_readItem_J80 fu q_textSize q_cursor q_start q_token q_number q_word q_fault q_text q_said v1))
set_option maxHeartbeats 4000000 in
set_option maxRecDepth 100000 in
theorem s_X8_readItem_L24 {fu : Nat} {q_textSize : Int32} {q_line : Int32} {q_foundPains : Int32} {q_foundLine : Int32} {q_deadMany : Int32} {q_deadSize : Int32} {q_deadLeast : Int32} {q_deadMost : Int32} {q_st : Nat → Int32} {q_before : Nat → Int32} {q_kept : Nat → Int32} {q_isKept : Nat → Int32} {q_refused : Nat → Int32} {q_text : Nat → Int32} {q_ones : Nat → Int32} {q_readTable : Nat → Int32} {q_least : Nat → Int32} {q_made : Nat → Int32} {q_enough : Nat → Int32} {q_isWanted : Nat → Int32} {q_column : Nat → Int32} {q_foundColumn : Nat → Int32} {q_walls : Nat → Int64} {q_wallMany : Nat → Int32} {q_chosen : Nat → Int32} {r : Int32 × Int32 × Int32 × Int32 × Int32 × Int64 × Int32 × (Nat → Int32)} {v1 : Int32} : ∀ (n : Nat) (q_cursor : Int32) (q_start : Int32) (q_token : Int32) (q_number : Int32) (q_word : Int64) (q_fault : Int32) (q_said : Nat → Int32) (v2 : Int32), X8_readItem_L24 fu q_textSize q_text v1 n q_cursor q_start q_token q_number q_word q_fault q_said v2 = some r → mm_Wp mX8_readItem (mm_R (P_X8_readItem q_textSize q_line q_foundPains q_foundLine q_deadMany q_deadSize q_deadLeast q_deadMost q_st q_before q_kept q_isKept q_refused q_text q_ones q_readTable q_least q_made q_enough q_isWanted q_column q_foundColumn q_walls q_wallMany q_chosen r)) 0 0 24 [(0, .ref 0), (1, .int v1), (2, .int v2)] [] (W_X8 q_textSize q_cursor q_start q_token q_number q_word q_fault q_line q_foundPains q_foundLine q_deadMany q_deadSize q_deadLeast q_deadMost q_st q_before q_kept q_isKept q_refused q_text q_ones q_said q_readTable q_least q_made q_enough q_isWanted q_column q_foundColumn q_walls q_wallMany q_chosen) := by
  intro n
  induction n with
  | zero =>
    intro q_cursor q_start q_token q_number q_word q_fault q_said v2 h
    rw [X8_readItem_L24] at h
    cases h
  | succ n hr24 =>
    intro q_cursor q_start q_token q_number q_word q_fault q_said v2 h
    rw [X8_readItem_L24] at h
    refine mm_iload_n 2 dX8_readItem_24 rfl rfl (pc' := 25) rfl ?_
    refine mm_iload_n 1 dX8_readItem_25 rfl rfl (pc' := 26) rfl ?_
    obtain ⟨t26, h26, h⟩ := mm_bd h
    refine mm_callS (As := [.int v1]) (rest := [.int v2]) (av := [.int v1]) (wc := []) (is := []) cS_X8_165 (ok_X8_numbersOf h26) ⟨rfl, rfl, Nat.le_of_ble_eq_true rfl, Nat.le_of_ble_eq_true rfl⟩ dX8_readItem_26 rfl rfl rfl ⟨rfl, by decide, by decide⟩ (by rintro _ _ ⟨-, rfl⟩; rfl) (Nat.le_of_ble_eq_true rfl) ⟨Nat.le_of_ble_eq_true rfl, Nat.le_of_ble_eq_true rfl⟩ (pc' := 29) rfl ?_
    rintro rv w ⟨rfl, rfl⟩
    show mm_Wp _ _ _ _ 29 [(0, .ref 0), (1, .int v1), (2, .int v2)] [.int t26, .int v2] (W_X8 q_textSize q_cursor q_start q_token q_number q_word q_fault q_line q_foundPains q_foundLine q_deadMany q_deadSize q_deadLeast q_deadMost q_st q_before q_kept q_isKept q_refused q_text q_ones q_said q_readTable q_least q_made q_enough q_isWanted q_column q_foundColumn q_walls q_wallMany q_chosen)
    clear h26
    refine mm_icmp_ge (tgt := 80) dX8_readItem_29 (by decide) (pc' := 32) rfl (fun c => ?_) (fun c => ?_)
    · replace h := mm_it h c
      clear c
      exact mm_sub [0, 1] rfl (s_X8_readItem_J80  h)
    · replace h := mm_if h c
      clear c
      refine mm_aload_n 0 dX8_readItem_32 rfl rfl (pc' := 33) rfl ?_
      refine mm_getf fG_X8_162 dX8_readItem_33 rfl rfl (pc' := 36) rfl ?_
      refine mm_iconst dX8_readItem_36 ki_m1 (pc' := 37) rfl ?_
      refine mm_icmp_ne (tgt := 80) dX8_readItem_37 (by decide) (pc' := 40) rfl (fun c => ?_) (fun c => ?_)
      · replace h := mm_if h c
        clear c
        exact mm_sub [0, 1] rfl (s_X8_readItem_J80  h)
      · replace h := mm_it h c
        clear c
        refine mm_aload_n 0 dX8_readItem_40 rfl rfl (pc' := 41) rfl ?_
        obtain ⟨t41, h41, h⟩ := mm_bd h
        refine mm_call0 (As := []) (rest := []) cV_X8_168 (ok_X8_next h41) ⟨rfl, rfl, Nat.le_of_ble_eq_true rfl, Nat.le_of_ble_eq_true rfl⟩ dX8_readItem_41 rfl rfl rfl rfl (by rintro _ _ ⟨-, rfl⟩; rfl) (Nat.le_of_ble_eq_true rfl) ⟨Nat.le_of_ble_eq_true rfl, Nat.le_of_ble_eq_true rfl⟩ (pc' := 44) rfl ?_
        rintro rv w ⟨rfl, rfl⟩
        show mm_Wp _ _ _ _ 44 [(0, .ref 0), (1, .int v1), (2, .int v2)] [] (W_X8 q_textSize t41.1 t41.2.1 t41.2.2.1 t41.2.2.2.1 t41.2.2.2.2 q_fault q_line q_foundPains q_foundLine q_deadMany q_deadSize q_deadLeast q_deadMost q_st q_before q_kept q_isKept q_refused q_text q_ones q_said q_readTable q_least q_made q_enough q_isWanted q_column q_foundColumn q_walls q_wallMany q_chosen)
        clear h41
        refine mm_aload_n 0 dX8_readItem_44 rfl rfl (pc' := 45) rfl ?_
        refine mm_getf fG_X8_32 dX8_readItem_45 rfl rfl (pc' := 48) rfl ?_
        refine mm_iload_n 2 dX8_readItem_48 rfl rfl (pc' := 49) rfl ?_
        refine mm_aload_n 0 dX8_readItem_49 rfl rfl (pc' := 50) rfl ?_
        refine mm_getf fG_X8_143 dX8_readItem_50 rfl rfl (pc' := 53) rfl ?_
        obtain ⟨c53, h⟩ := mm_ck_of h
        refine mm_iast dX8_readItem_53 rfl c53 rfl (ws' := (W_X8 q_textSize t41.1 t41.2.1 t41.2.2.1 t41.2.2.2.1 t41.2.2.2.2 q_fault q_line q_foundPains q_foundLine q_deadMany q_deadSize q_deadLeast q_deadMost q_st q_before q_kept q_isKept q_refused q_text q_ones (upd q_said v2.toNatClampNeg t41.2.2.2.1) q_readTable q_least q_made q_enough q_isWanted q_column q_foundColumn q_walls q_wallMany q_chosen)) rfl (pc' := 54) rfl ?_
        clear c53
        refine mm_aload_n 0 dX8_readItem_54 rfl rfl (pc' := 55) rfl ?_
        refine mm_aload_n 0 dX8_readItem_55 rfl rfl (pc' := 56) rfl ?_
        refine mm_getf fG_X8_136 dX8_readItem_56 rfl rfl (pc' := 59) rfl ?_
        refine mm_iconst dX8_readItem_59 ki_2 (pc' := 60) rfl ?_
        refine mm_icmp_ne (tgt := 67) dX8_readItem_60 (by decide) (pc' := 63) rfl (fun c => ?_) (fun c => ?_)
        · replace h := mm_if h c
          clear c
          refine mm_aload_n 0 dX8_readItem_67 rfl rfl (pc' := 68) rfl ?_
          refine mm_getf fG_X8_133 dX8_readItem_68 rfl rfl (pc' := 71) rfl ?_
          exact s_X8_readItem_J71 (hr24 := hr24) h
        · replace h := mm_it h c
          clear c
          refine mm_iconst dX8_readItem_63 ki_m1 (pc' := 64) rfl ?_
          refine mm_goto (tgt := 71) dX8_readItem_64 (by decide) ?_
          exact s_X8_readItem_J71 (hr24 := hr24) h
def X8_readItem_J19 (fu : Nat)  (q_textSize : Int32) (q_cursor : Int32) (q_start : Int32) (q_token : Int32) (q_number : Int32) (q_word : Int64) (q_fault : Int32) (q_text : Nat → Int32) (q_said : Nat → Int32) (v1 : Int32) (s0 : Int32) : Option (Int32 × Int32 × Int32 × Int32 × Int32 × Int64 × Int32 × (Nat → Int32)) := X8_readItem_L24 fu q_textSize q_text v1 fu q_cursor q_start q_token q_number q_word s0 q_said (0 : Int32)
set_option maxHeartbeats 4000000 in
set_option maxRecDepth 100000 in
theorem s_X8_readItem_J19 {fu : Nat} {q_textSize : Int32} {q_cursor : Int32} {q_start : Int32} {q_token : Int32} {q_number : Int32} {q_word : Int64} {q_fault : Int32} {q_line : Int32} {q_foundPains : Int32} {q_foundLine : Int32} {q_deadMany : Int32} {q_deadSize : Int32} {q_deadLeast : Int32} {q_deadMost : Int32} {q_st : Nat → Int32} {q_before : Nat → Int32} {q_kept : Nat → Int32} {q_isKept : Nat → Int32} {q_refused : Nat → Int32} {q_text : Nat → Int32} {q_ones : Nat → Int32} {q_said : Nat → Int32} {q_readTable : Nat → Int32} {q_least : Nat → Int32} {q_made : Nat → Int32} {q_enough : Nat → Int32} {q_isWanted : Nat → Int32} {q_column : Nat → Int32} {q_foundColumn : Nat → Int32} {q_walls : Nat → Int64} {q_wallMany : Nat → Int32} {q_chosen : Nat → Int32} {r : Int32 × Int32 × Int32 × Int32 × Int32 × Int64 × Int32 × (Nat → Int32)} {v1 : Int32} {s0 : Int32} (h : X8_readItem_J19 fu q_textSize q_cursor q_start q_token q_number q_word q_fault q_text q_said v1 s0 = some r) : mm_Wp mX8_readItem (mm_R (P_X8_readItem q_textSize q_line q_foundPains q_foundLine q_deadMany q_deadSize q_deadLeast q_deadMost q_st q_before q_kept q_isKept q_refused q_text q_ones q_readTable q_least q_made q_enough q_isWanted q_column q_foundColumn q_walls q_wallMany q_chosen r)) 0 0 19 [(0, .ref 0), (1, .int v1)] [.int s0, .ref 0] (W_X8 q_textSize q_cursor q_start q_token q_number q_word q_fault q_line q_foundPains q_foundLine q_deadMany q_deadSize q_deadLeast q_deadMost q_st q_before q_kept q_isKept q_refused q_text q_ones q_said q_readTable q_least q_made q_enough q_isWanted q_column q_foundColumn q_walls q_wallMany q_chosen) := by
  rw [X8_readItem_J19] at h
  refine mm_putf fP_X8_162 dX8_readItem_19 rfl (Nat.le_of_ble_eq_true rfl) (fun _ => rfl) (fun _ => rfl) (ws' := (W_X8 q_textSize q_cursor q_start q_token q_number q_word s0 q_line q_foundPains q_foundLine q_deadMany q_deadSize q_deadLeast q_deadMost q_st q_before q_kept q_isKept q_refused q_text q_ones q_said q_readTable q_least q_made q_enough q_isWanted q_column q_foundColumn q_walls q_wallMany q_chosen)) rfl (pc' := 22) rfl ?_
  refine mm_iconst dX8_readItem_22 ki_0 (pc' := 23) rfl ?_
  refine mm_istore_n dX8_readItem_23 rfl (by decide) (l' := [(2, .int (0 : Int32)), (0, .ref 0), (1, .int v1)]) rfl (pc' := 24) rfl ?_
  exact mm_sub [1, 2, 0] rfl (s_X8_readItem_L24  _ _ _ _ _ _ _ _ _ h)
def f_X8_readItem (fu : Nat) (q_textSize : Int32) (q_cursor : Int32) (q_start : Int32) (q_token : Int32) (q_number : Int32) (q_word : Int64) (q_fault : Int32) (q_text : Nat → Int32) (q_said : Nat → Int32) : Option (Int32 × Int32 × Int32 × Int32 × Int32 × Int64 × Int32 × (Nat → Int32)) := (f_X8_item fu q_token q_word).bind fun t1 => if t1 = (-1 : Int32) then (X8_readItem_J19 fu q_textSize q_cursor q_start q_token q_number q_word q_fault q_text q_said t1 q_start) else (X8_readItem_J19 fu q_textSize q_cursor q_start q_token q_number q_word q_fault q_text q_said t1 (-1 : Int32))
set_option maxHeartbeats 4000000 in
set_option maxRecDepth 100000 in
theorem ok_X8_readItem {fu : Nat} {q_textSize : Int32} {q_cursor : Int32} {q_start : Int32} {q_token : Int32} {q_number : Int32} {q_word : Int64} {q_fault : Int32} {q_line : Int32} {q_foundPains : Int32} {q_foundLine : Int32} {q_deadMany : Int32} {q_deadSize : Int32} {q_deadLeast : Int32} {q_deadMost : Int32} {q_st : Nat → Int32} {q_before : Nat → Int32} {q_kept : Nat → Int32} {q_isKept : Nat → Int32} {q_refused : Nat → Int32} {q_text : Nat → Int32} {q_ones : Nat → Int32} {q_said : Nat → Int32} {q_readTable : Nat → Int32} {q_least : Nat → Int32} {q_made : Nat → Int32} {q_enough : Nat → Int32} {q_isWanted : Nat → Int32} {q_column : Nat → Int32} {q_foundColumn : Nat → Int32} {q_walls : Nat → Int64} {q_wallMany : Nat → Int32} {q_chosen : Nat → Int32} {r : Int32 × Int32 × Int32 × Int32 × Int32 × Int64 × Int32 × (Nat → Int32)} (h : f_X8_readItem fu q_textSize q_cursor q_start q_token q_number q_word q_fault q_text q_said = some r) : mm_Ok mX8_readItem [.ref 0] (W_X8 q_textSize q_cursor q_start q_token q_number q_word q_fault q_line q_foundPains q_foundLine q_deadMany q_deadSize q_deadLeast q_deadMost q_st q_before q_kept q_isKept q_refused q_text q_ones q_said q_readTable q_least q_made q_enough q_isWanted q_column q_foundColumn q_walls q_wallMany q_chosen) (P_X8_readItem q_textSize q_line q_foundPains q_foundLine q_deadMany q_deadSize q_deadLeast q_deadMost q_st q_before q_kept q_isKept q_refused q_text q_ones q_readTable q_least q_made q_enough q_isWanted q_column q_foundColumn q_walls q_wallMany q_chosen r) := by
  rw [f_X8_readItem] at h
  refine mm_Ok.of pn_X8 (l := [(0, .ref 0)]) rfl (Nat.le_of_ble_eq_true rfl) ?_
  refine mm_aload_n 0 dX8_readItem_0 rfl rfl (pc' := 1) rfl ?_
  obtain ⟨t1, h1, h⟩ := mm_bd h
  refine mm_call0 (As := []) (rest := []) cV_X8_158 (ok_X8_item h1) ⟨rfl, rfl, Nat.le_of_ble_eq_true rfl, Nat.le_of_ble_eq_true rfl⟩ dX8_readItem_1 rfl rfl rfl rfl (by rintro _ _ ⟨-, rfl⟩; rfl) (Nat.le_of_ble_eq_true rfl) ⟨Nat.le_of_ble_eq_true rfl, Nat.le_of_ble_eq_true rfl⟩ (pc' := 4) rfl ?_
  rintro rv w ⟨rfl, rfl⟩
  show mm_Wp _ _ _ _ 4 [(0, .ref 0)] [.int t1] (W_X8 q_textSize q_cursor q_start q_token q_number q_word q_fault q_line q_foundPains q_foundLine q_deadMany q_deadSize q_deadLeast q_deadMost q_st q_before q_kept q_isKept q_refused q_text q_ones q_said q_readTable q_least q_made q_enough q_isWanted q_column q_foundColumn q_walls q_wallMany q_chosen)
  clear h1
  refine mm_istore_n dX8_readItem_4 rfl (by decide) (l' := [(1, .int t1), (0, .ref 0)]) rfl (pc' := 5) rfl ?_
  refine mm_aload_n 1 dX8_readItem_5 rfl rfl (pc' := 6) rfl ?_
  refine mm_iload_n 0 dX8_readItem_6 rfl rfl (pc' := 7) rfl ?_
  refine mm_iconst dX8_readItem_7 ki_m1 (pc' := 8) rfl ?_
  refine mm_icmp_ne (tgt := 18) dX8_readItem_8 (by decide) (pc' := 11) rfl (fun c => ?_) (fun c => ?_)
  · replace h := mm_if h c
    clear c
    refine mm_iconst dX8_readItem_18 ki_m1 (pc' := 19) rfl ?_
    exact mm_sub [1, 0] rfl (s_X8_readItem_J19  h)
  · replace h := mm_it h c
    clear c
    refine mm_aload_n 1 dX8_readItem_11 rfl rfl (pc' := 12) rfl ?_
    refine mm_getf fG_X8_133 dX8_readItem_12 rfl rfl (pc' := 15) rfl ?_
    refine mm_goto (tgt := 19) dX8_readItem_15 (by decide) ?_
    exact mm_sub [1, 0] rfl (s_X8_readItem_J19  h)

def P_X8_findFault (q_textSize : Int32) (q_line : Int32) (q_foundPains : Int32) (q_foundLine : Int32) (q_deadMany : Int32) (q_deadSize : Int32) (q_deadLeast : Int32) (q_deadMost : Int32) (q_st : Nat → Int32) (q_before : Nat → Int32) (q_kept : Nat → Int32) (q_isKept : Nat → Int32) (q_refused : Nat → Int32) (q_text : Nat → Int32) (q_ones : Nat → Int32) (q_readTable : Nat → Int32) (q_least : Nat → Int32) (q_made : Nat → Int32) (q_enough : Nat → Int32) (q_isWanted : Nat → Int32) (q_column : Nat → Int32) (q_foundColumn : Nat → Int32) (q_walls : Nat → Int64) (q_wallMany : Nat → Int32) (q_chosen : Nat → Int32) (r : Int32 × Int32 × Int32 × Int32 × Int32 × Int64 × Int32 × (Nat → Int32)) : Option Value → mm_W → Prop := fun rv w => rv = some (.int r.1) ∧ w = (W_X8 q_textSize r.2.1 r.2.2.1 r.2.2.2.1 r.2.2.2.2.1 r.2.2.2.2.2.1 r.2.2.2.2.2.2.1 q_line q_foundPains q_foundLine q_deadMany q_deadSize q_deadLeast q_deadMost q_st q_before q_kept q_isKept q_refused q_text q_ones r.2.2.2.2.2.2.2 q_readTable q_least q_made q_enough q_isWanted q_column q_foundColumn q_walls q_wallMany q_chosen)
def X8_findFault_J36 (fu : Nat)  (q_textSize : Int32) (q_cursor : Int32) (q_start : Int32) (q_token : Int32) (q_number : Int32) (q_word : Int64) (q_fault : Int32) (q_text : Nat → Int32) (q_said : Nat → Int32) (v1 : Int32)  : Option (Int32 × Int32 × Int32 × Int32 × Int32 × Int64 × Int32 × (Nat → Int32)) := some (v1, q_cursor, q_start, q_token, q_number, q_word, q_fault, q_said)
set_option maxHeartbeats 4000000 in
set_option maxRecDepth 100000 in
theorem s_X8_findFault_J36 {fu : Nat} {q_textSize : Int32} {q_cursor : Int32} {q_start : Int32} {q_token : Int32} {q_number : Int32} {q_word : Int64} {q_fault : Int32} {q_line : Int32} {q_foundPains : Int32} {q_foundLine : Int32} {q_deadMany : Int32} {q_deadSize : Int32} {q_deadLeast : Int32} {q_deadMost : Int32} {q_st : Nat → Int32} {q_before : Nat → Int32} {q_kept : Nat → Int32} {q_isKept : Nat → Int32} {q_refused : Nat → Int32} {q_text : Nat → Int32} {q_ones : Nat → Int32} {q_said : Nat → Int32} {q_readTable : Nat → Int32} {q_least : Nat → Int32} {q_made : Nat → Int32} {q_enough : Nat → Int32} {q_isWanted : Nat → Int32} {q_column : Nat → Int32} {q_foundColumn : Nat → Int32} {q_walls : Nat → Int64} {q_wallMany : Nat → Int32} {q_chosen : Nat → Int32} {r : Int32 × Int32 × Int32 × Int32 × Int32 × Int64 × Int32 × (Nat → Int32)} {v1 : Int32} (h : X8_findFault_J36 fu q_textSize q_cursor q_start q_token q_number q_word q_fault q_text q_said v1 = some r) : mm_Wp mX8_findFault (mm_R (P_X8_findFault q_textSize q_line q_foundPains q_foundLine q_deadMany q_deadSize q_deadLeast q_deadMost q_st q_before q_kept q_isKept q_refused q_text q_ones q_readTable q_least q_made q_enough q_isWanted q_column q_foundColumn q_walls q_wallMany q_chosen r)) 0 0 36 [(1, .int v1)] [] (W_X8 q_textSize q_cursor q_start q_token q_number q_word q_fault q_line q_foundPains q_foundLine q_deadMany q_deadSize q_deadLeast q_deadMost q_st q_before q_kept q_isKept q_refused q_text q_ones q_said q_readTable q_least q_made q_enough q_isWanted q_column q_foundColumn q_walls q_wallMany q_chosen) := by
  rw [X8_findFault_J36] at h
  refine mm_iload_n 0 dX8_findFault_36 rfl rfl (pc' := 37) rfl ?_
  have h9 := Option.some.inj h
  subst h9
  exact mm_iret rfl dX8_findFault_37 ⟨rfl, rfl⟩
def X8_findFault_L11 (fu : Nat)  (q_textSize : Int32) (q_text : Nat → Int32)  : Nat → Int32 → Int32 → Int32 → Int32 → Int64 → Int32 → (Nat → Int32) → Int32 → Option (Int32 × Int32 × Int32 × Int32 × Int32 × Int64 × Int32 × (Nat → Int32))
  | 0, _, _, _, _, _, _, _, _ => none
  | n + 1, q_cursor, q_start, q_token, q_number, q_word, q_fault, q_said, v1 => if q_token = 0 then (X8_findFault_J36 fu q_textSize q_cursor q_start q_token q_number q_word q_fault q_text q_said v1) else (if v1 = (-1 : Int32) then ((f_X8_readItem fu q_textSize q_cursor q_start q_token q_number q_word q_fault q_text q_said).bind fun t24 => (X8_findFault_L11 fu q_textSize q_text n) t24.2.1 t24.2.2.1 t24.2.2.2.1 t24.2.2.2.2.1 t24.2.2.2.2.2.1 t24.2.2.2.2.2.2.1 t24.2.2.2.2.2.2.2 t24.2.2.2.2.2.2.1) else (X8_findFault_J36 fu q_textSize q_cursor q_start q_token q_number q_word q_fault q_text q_said v1))
set_option maxHeartbeats 4000000 in
set_option maxRecDepth 100000 in
theorem s_X8_findFault_L11 {fu : Nat} {q_textSize : Int32} {q_line : Int32} {q_foundPains : Int32} {q_foundLine : Int32} {q_deadMany : Int32} {q_deadSize : Int32} {q_deadLeast : Int32} {q_deadMost : Int32} {q_st : Nat → Int32} {q_before : Nat → Int32} {q_kept : Nat → Int32} {q_isKept : Nat → Int32} {q_refused : Nat → Int32} {q_text : Nat → Int32} {q_ones : Nat → Int32} {q_readTable : Nat → Int32} {q_least : Nat → Int32} {q_made : Nat → Int32} {q_enough : Nat → Int32} {q_isWanted : Nat → Int32} {q_column : Nat → Int32} {q_foundColumn : Nat → Int32} {q_walls : Nat → Int64} {q_wallMany : Nat → Int32} {q_chosen : Nat → Int32} {r : Int32 × Int32 × Int32 × Int32 × Int32 × Int64 × Int32 × (Nat → Int32)} : ∀ (n : Nat) (q_cursor : Int32) (q_start : Int32) (q_token : Int32) (q_number : Int32) (q_word : Int64) (q_fault : Int32) (q_said : Nat → Int32) (v1 : Int32), X8_findFault_L11 fu q_textSize q_text n q_cursor q_start q_token q_number q_word q_fault q_said v1 = some r → mm_Wp mX8_findFault (mm_R (P_X8_findFault q_textSize q_line q_foundPains q_foundLine q_deadMany q_deadSize q_deadLeast q_deadMost q_st q_before q_kept q_isKept q_refused q_text q_ones q_readTable q_least q_made q_enough q_isWanted q_column q_foundColumn q_walls q_wallMany q_chosen r)) 0 0 11 [(0, .ref 0), (1, .int v1)] [] (W_X8 q_textSize q_cursor q_start q_token q_number q_word q_fault q_line q_foundPains q_foundLine q_deadMany q_deadSize q_deadLeast q_deadMost q_st q_before q_kept q_isKept q_refused q_text q_ones q_said q_readTable q_least q_made q_enough q_isWanted q_column q_foundColumn q_walls q_wallMany q_chosen) := by
  intro n
  induction n with
  | zero =>
    intro q_cursor q_start q_token q_number q_word q_fault q_said v1 h
    rw [X8_findFault_L11] at h
    cases h
  | succ n hr11 =>
    intro q_cursor q_start q_token q_number q_word q_fault q_said v1 h
    rw [X8_findFault_L11] at h
    refine mm_aload_n 0 dX8_findFault_11 rfl rfl (pc' := 12) rfl ?_
    refine mm_getf fG_X8_136 dX8_findFault_12 rfl rfl (pc' := 15) rfl ?_
    refine mm_if_eq (tgt := 36) dX8_findFault_15 (by decide) (pc' := 18) rfl (fun c => ?_) (fun c => ?_)
    · replace h := mm_it h c
      clear c
      exact mm_sub [1] rfl (s_X8_findFault_J36  h)
    · replace h := mm_if h c
      clear c
      refine mm_iload_n 1 dX8_findFault_18 rfl rfl (pc' := 19) rfl ?_
      refine mm_iconst dX8_findFault_19 ki_m1 (pc' := 20) rfl ?_
      refine mm_icmp_ne (tgt := 36) dX8_findFault_20 (by decide) (pc' := 23) rfl (fun c => ?_) (fun c => ?_)
      · replace h := mm_if h c
        clear c
        exact mm_sub [1] rfl (s_X8_findFault_J36  h)
      · replace h := mm_it h c
        clear c
        refine mm_aload_n 0 dX8_findFault_23 rfl rfl (pc' := 24) rfl ?_
        obtain ⟨t24, h24, h⟩ := mm_bd h
        refine mm_call0 (As := []) (rest := []) cV_X8_171 (ok_X8_readItem h24) ⟨rfl, rfl, Nat.le_of_ble_eq_true rfl, Nat.le_of_ble_eq_true rfl⟩ dX8_findFault_24 rfl rfl rfl rfl (by rintro _ _ ⟨-, rfl⟩; rfl) (Nat.le_of_ble_eq_true rfl) ⟨Nat.le_of_ble_eq_true rfl, Nat.le_of_ble_eq_true rfl⟩ (pc' := 27) rfl ?_
        rintro rv w ⟨rfl, rfl⟩
        show mm_Wp _ _ _ _ 27 [(0, .ref 0), (1, .int v1)] [.int t24.1] (W_X8 q_textSize t24.2.1 t24.2.2.1 t24.2.2.2.1 t24.2.2.2.2.1 t24.2.2.2.2.2.1 t24.2.2.2.2.2.2.1 q_line q_foundPains q_foundLine q_deadMany q_deadSize q_deadLeast q_deadMost q_st q_before q_kept q_isKept q_refused q_text q_ones t24.2.2.2.2.2.2.2 q_readTable q_least q_made q_enough q_isWanted q_column q_foundColumn q_walls q_wallMany q_chosen)
        clear h24
        refine mm_pop dX8_findFault_27 rfl (pc' := 28) rfl ?_
        refine mm_aload_n 0 dX8_findFault_28 rfl rfl (pc' := 29) rfl ?_
        refine mm_getf fG_X8_162 dX8_findFault_29 rfl rfl (pc' := 32) rfl ?_
        refine mm_istore_n dX8_findFault_32 rfl (by decide) (l' := [(1, .int t24.2.2.2.2.2.2.1), (0, .ref 0)]) rfl (pc' := 33) rfl ?_
        refine mm_goto (tgt := 11) dX8_findFault_33 (by decide) ?_
        exact mm_sub [1, 0] rfl (hr11 _ _ _ _ _ _ _ _ h)
def f_X8_findFault (fu : Nat) (q_textSize : Int32) (q_cursor : Int32) (q_start : Int32) (q_token : Int32) (q_number : Int32) (q_word : Int64) (q_fault : Int32) (q_text : Nat → Int32) (q_said : Nat → Int32) : Option (Int32 × Int32 × Int32 × Int32 × Int32 × Int64 × Int32 × (Nat → Int32)) := (f_X8_next fu q_textSize (0 : Int32) q_start q_token q_number q_word q_text).bind fun t8 => X8_findFault_L11 fu q_textSize q_text fu t8.1 t8.2.1 t8.2.2.1 t8.2.2.2.1 t8.2.2.2.2 q_fault q_said (-1 : Int32)
set_option maxHeartbeats 4000000 in
set_option maxRecDepth 100000 in
theorem ok_X8_findFault {fu : Nat} {q_textSize : Int32} {q_cursor : Int32} {q_start : Int32} {q_token : Int32} {q_number : Int32} {q_word : Int64} {q_fault : Int32} {q_line : Int32} {q_foundPains : Int32} {q_foundLine : Int32} {q_deadMany : Int32} {q_deadSize : Int32} {q_deadLeast : Int32} {q_deadMost : Int32} {q_st : Nat → Int32} {q_before : Nat → Int32} {q_kept : Nat → Int32} {q_isKept : Nat → Int32} {q_refused : Nat → Int32} {q_text : Nat → Int32} {q_ones : Nat → Int32} {q_said : Nat → Int32} {q_readTable : Nat → Int32} {q_least : Nat → Int32} {q_made : Nat → Int32} {q_enough : Nat → Int32} {q_isWanted : Nat → Int32} {q_column : Nat → Int32} {q_foundColumn : Nat → Int32} {q_walls : Nat → Int64} {q_wallMany : Nat → Int32} {q_chosen : Nat → Int32} {r : Int32 × Int32 × Int32 × Int32 × Int32 × Int64 × Int32 × (Nat → Int32)} (h : f_X8_findFault fu q_textSize q_cursor q_start q_token q_number q_word q_fault q_text q_said = some r) : mm_Ok mX8_findFault [.ref 0] (W_X8 q_textSize q_cursor q_start q_token q_number q_word q_fault q_line q_foundPains q_foundLine q_deadMany q_deadSize q_deadLeast q_deadMost q_st q_before q_kept q_isKept q_refused q_text q_ones q_said q_readTable q_least q_made q_enough q_isWanted q_column q_foundColumn q_walls q_wallMany q_chosen) (P_X8_findFault q_textSize q_line q_foundPains q_foundLine q_deadMany q_deadSize q_deadLeast q_deadMost q_st q_before q_kept q_isKept q_refused q_text q_ones q_readTable q_least q_made q_enough q_isWanted q_column q_foundColumn q_walls q_wallMany q_chosen r) := by
  rw [f_X8_findFault] at h
  refine mm_Ok.of pn_X8 (l := [(0, .ref 0)]) rfl (Nat.le_of_ble_eq_true rfl) ?_
  refine mm_iconst dX8_findFault_0 ki_m1 (pc' := 1) rfl ?_
  refine mm_istore_n dX8_findFault_1 rfl (by decide) (l' := [(1, .int (-1 : Int32)), (0, .ref 0)]) rfl (pc' := 2) rfl ?_
  refine mm_aload_n 1 dX8_findFault_2 rfl rfl (pc' := 3) rfl ?_
  refine mm_iconst dX8_findFault_3 ki_0 (pc' := 4) rfl ?_
  refine mm_putf fP_X8_127 dX8_findFault_4 rfl (Nat.le_of_ble_eq_true rfl) (fun _ => rfl) (fun _ => rfl) (ws' := (W_X8 q_textSize (0 : Int32) q_start q_token q_number q_word q_fault q_line q_foundPains q_foundLine q_deadMany q_deadSize q_deadLeast q_deadMost q_st q_before q_kept q_isKept q_refused q_text q_ones q_said q_readTable q_least q_made q_enough q_isWanted q_column q_foundColumn q_walls q_wallMany q_chosen)) rfl (pc' := 7) rfl ?_
  refine mm_aload_n 1 dX8_findFault_7 rfl rfl (pc' := 8) rfl ?_
  obtain ⟨t8, h8, h⟩ := mm_bd h
  refine mm_call0 (As := []) (rest := []) cV_X8_168 (ok_X8_next h8) ⟨rfl, rfl, Nat.le_of_ble_eq_true rfl, Nat.le_of_ble_eq_true rfl⟩ dX8_findFault_8 rfl rfl rfl rfl (by rintro _ _ ⟨-, rfl⟩; rfl) (Nat.le_of_ble_eq_true rfl) ⟨Nat.le_of_ble_eq_true rfl, Nat.le_of_ble_eq_true rfl⟩ (pc' := 11) rfl ?_
  rintro rv w ⟨rfl, rfl⟩
  show mm_Wp _ _ _ _ 11 [(1, .int (-1 : Int32)), (0, .ref 0)] [] (W_X8 q_textSize t8.1 t8.2.1 t8.2.2.1 t8.2.2.2.1 t8.2.2.2.2 q_fault q_line q_foundPains q_foundLine q_deadMany q_deadSize q_deadLeast q_deadMost q_st q_before q_kept q_isKept q_refused q_text q_ones q_said q_readTable q_least q_made q_enough q_isWanted q_column q_foundColumn q_walls q_wallMany q_chosen)
  clear h8
  exact mm_sub [1, 0] rfl (s_X8_findFault_L11  _ _ _ _ _ _ _ _ _ h)

def P_X8_isDone (q_textSize : Int32) (q_cursor : Int32) (q_start : Int32) (q_token : Int32) (q_number : Int32) (q_word : Int64) (q_fault : Int32) (q_line : Int32) (q_foundPains : Int32) (q_foundLine : Int32) (q_deadMany : Int32) (q_deadSize : Int32) (q_deadLeast : Int32) (q_deadMost : Int32) (q_before : Nat → Int32) (q_kept : Nat → Int32) (q_isKept : Nat → Int32) (q_refused : Nat → Int32) (q_text : Nat → Int32) (q_ones : Nat → Int32) (q_said : Nat → Int32) (q_readTable : Nat → Int32) (q_least : Nat → Int32) (q_made : Nat → Int32) (q_enough : Nat → Int32) (q_isWanted : Nat → Int32) (q_column : Nat → Int32) (q_foundColumn : Nat → Int32) (q_walls : Nat → Int64) (q_wallMany : Nat → Int32) (q_chosen : Nat → Int32) (r : Int32 × (Nat → Int32)) : Option Value → mm_W → Prop := fun rv w => rv = some (.int r.1) ∧ w = (W_X8 q_textSize q_cursor q_start q_token q_number q_word q_fault q_line q_foundPains q_foundLine q_deadMany q_deadSize q_deadLeast q_deadMost r.2 q_before q_kept q_isKept q_refused q_text q_ones q_said q_readTable q_least q_made q_enough q_isWanted q_column q_foundColumn q_walls q_wallMany q_chosen)
def X8_isDone_J148 (fu : Nat)  (q_st : Nat → Int32) (q_said : Nat → Int32)   : Option (Int32 × (Nat → Int32)) := some ((0 : Int32), q_st)
set_option maxHeartbeats 4000000 in
set_option maxRecDepth 100000 in
theorem s_X8_isDone_J148 {fu : Nat} {q_textSize : Int32} {q_cursor : Int32} {q_start : Int32} {q_token : Int32} {q_number : Int32} {q_word : Int64} {q_fault : Int32} {q_line : Int32} {q_foundPains : Int32} {q_foundLine : Int32} {q_deadMany : Int32} {q_deadSize : Int32} {q_deadLeast : Int32} {q_deadMost : Int32} {q_st : Nat → Int32} {q_before : Nat → Int32} {q_kept : Nat → Int32} {q_isKept : Nat → Int32} {q_refused : Nat → Int32} {q_text : Nat → Int32} {q_ones : Nat → Int32} {q_said : Nat → Int32} {q_readTable : Nat → Int32} {q_least : Nat → Int32} {q_made : Nat → Int32} {q_enough : Nat → Int32} {q_isWanted : Nat → Int32} {q_column : Nat → Int32} {q_foundColumn : Nat → Int32} {q_walls : Nat → Int64} {q_wallMany : Nat → Int32} {q_chosen : Nat → Int32} {r : Int32 × (Nat → Int32)} (h : X8_isDone_J148 fu q_st q_said = some r) : mm_Wp mX8_isDone (mm_R (P_X8_isDone q_textSize q_cursor q_start q_token q_number q_word q_fault q_line q_foundPains q_foundLine q_deadMany q_deadSize q_deadLeast q_deadMost q_before q_kept q_isKept q_refused q_text q_ones q_said q_readTable q_least q_made q_enough q_isWanted q_column q_foundColumn q_walls q_wallMany q_chosen r)) 0 0 148 [] [] (W_X8 q_textSize q_cursor q_start q_token q_number q_word q_fault q_line q_foundPains q_foundLine q_deadMany q_deadSize q_deadLeast q_deadMost q_st q_before q_kept q_isKept q_refused q_text q_ones q_said q_readTable q_least q_made q_enough q_isWanted q_column q_foundColumn q_walls q_wallMany q_chosen) := by
  rw [X8_isDone_J148] at h
  refine mm_iconst dX8_isDone_148 ki_0 (pc' := 149) rfl ?_
  have h9 := Option.some.inj h
  subst h9
  exact mm_zret rfl (by decide) dX8_isDone_149 ⟨rfl, rfl⟩
def X8_isDone_J192 (fu : Nat)  (q_st : Nat → Int32) (q_said : Nat → Int32)   : Option (Int32 × (Nat → Int32)) := some ((0 : Int32), q_st)
set_option maxHeartbeats 4000000 in
set_option maxRecDepth 100000 in
theorem s_X8_isDone_J192 {fu : Nat} {q_textSize : Int32} {q_cursor : Int32} {q_start : Int32} {q_token : Int32} {q_number : Int32} {q_word : Int64} {q_fault : Int32} {q_line : Int32} {q_foundPains : Int32} {q_foundLine : Int32} {q_deadMany : Int32} {q_deadSize : Int32} {q_deadLeast : Int32} {q_deadMost : Int32} {q_st : Nat → Int32} {q_before : Nat → Int32} {q_kept : Nat → Int32} {q_isKept : Nat → Int32} {q_refused : Nat → Int32} {q_text : Nat → Int32} {q_ones : Nat → Int32} {q_said : Nat → Int32} {q_readTable : Nat → Int32} {q_least : Nat → Int32} {q_made : Nat → Int32} {q_enough : Nat → Int32} {q_isWanted : Nat → Int32} {q_column : Nat → Int32} {q_foundColumn : Nat → Int32} {q_walls : Nat → Int64} {q_wallMany : Nat → Int32} {q_chosen : Nat → Int32} {r : Int32 × (Nat → Int32)} (h : X8_isDone_J192 fu q_st q_said = some r) : mm_Wp mX8_isDone (mm_R (P_X8_isDone q_textSize q_cursor q_start q_token q_number q_word q_fault q_line q_foundPains q_foundLine q_deadMany q_deadSize q_deadLeast q_deadMost q_before q_kept q_isKept q_refused q_text q_ones q_said q_readTable q_least q_made q_enough q_isWanted q_column q_foundColumn q_walls q_wallMany q_chosen r)) 0 0 192 [] [] (W_X8 q_textSize q_cursor q_start q_token q_number q_word q_fault q_line q_foundPains q_foundLine q_deadMany q_deadSize q_deadLeast q_deadMost q_st q_before q_kept q_isKept q_refused q_text q_ones q_said q_readTable q_least q_made q_enough q_isWanted q_column q_foundColumn q_walls q_wallMany q_chosen) := by
  rw [X8_isDone_J192] at h
  refine mm_iconst dX8_isDone_192 ki_0 (pc' := 193) rfl ?_
  have h9 := Option.some.inj h
  subst h9
  exact mm_zret rfl (by decide) dX8_isDone_193 ⟨rfl, rfl⟩
def f_X8_isDone (fu : Nat) (q_st : Nat → Int32) (q_said : Nat → Int32) (v1 : Int32) : Option (Int32 × (Nat → Int32)) := (f_X8_isPlace fu q_st (q_said 1) (q_said 2)).bind fun t13 => mm_let (((12 : Int32) * (q_said 2)) + (q_said 1)) fun y33 => if v1 = (0 : Int32) then ((f_X8_putWall fu q_st (q_said 0) (q_said 1)).bind fun t81 => if t81.1 ≤ 0 then (some ((0 : Int32), t81.2)) else (some ((1 : Int32), t81.2))) else (if v1 = (1 : Int32) then ((f_X8_putMan fu q_st (q_said 0) (q_said 1) (q_said 2)).bind fun t112 => if t112.1 < 0 then (some ((0 : Int32), t112.2)) else (some ((1 : Int32), t112.2))) else (if v1 = (2 : Int32) then (if t13 = 0 then (X8_isDone_J148 fu q_st q_said) else ((f_X8_putOwner fu q_st y33 (q_said 0)).bind fun t136 => if t136.1 = (-10 : Int32) then (X8_isDone_J148 fu t136.2 q_said) else (some ((1 : Int32), t136.2)))) else (if v1 = (3 : Int32) then ((f_X8_putLetter fu q_st (q_said 0)).bind fun t157 => if t157.1 < 0 then (some ((0 : Int32), t157.2)) else (some ((1 : Int32), t157.2))) else (if v1 = (4 : Int32) then (if t13 = 0 then (X8_isDone_J192 fu q_st q_said) else ((f_X8_putLight fu q_st (q_said 0) y33 (1 : Int32)).bind fun t182 => if t182.1 ≤ 0 then (X8_isDone_J192 fu t182.2 q_said) else (some ((1 : Int32), t182.2)))) else ((f_X8_putSlack fu q_st (q_said 0)).bind fun t201 => if t201.1 < 0 then (some ((0 : Int32), t201.2)) else (some ((1 : Int32), t201.2)))))))
set_option maxHeartbeats 4000000 in
set_option maxRecDepth 100000 in
theorem ok_X8_isDone {fu : Nat} {q_textSize : Int32} {q_cursor : Int32} {q_start : Int32} {q_token : Int32} {q_number : Int32} {q_word : Int64} {q_fault : Int32} {q_line : Int32} {q_foundPains : Int32} {q_foundLine : Int32} {q_deadMany : Int32} {q_deadSize : Int32} {q_deadLeast : Int32} {q_deadMost : Int32} {q_st : Nat → Int32} {q_before : Nat → Int32} {q_kept : Nat → Int32} {q_isKept : Nat → Int32} {q_refused : Nat → Int32} {q_text : Nat → Int32} {q_ones : Nat → Int32} {q_said : Nat → Int32} {q_readTable : Nat → Int32} {q_least : Nat → Int32} {q_made : Nat → Int32} {q_enough : Nat → Int32} {q_isWanted : Nat → Int32} {q_column : Nat → Int32} {q_foundColumn : Nat → Int32} {q_walls : Nat → Int64} {q_wallMany : Nat → Int32} {q_chosen : Nat → Int32} {r : Int32 × (Nat → Int32)} {v1 : Int32} (h : f_X8_isDone fu q_st q_said v1 = some r) : mm_Ok mX8_isDone [.ref 0, .int v1] (W_X8 q_textSize q_cursor q_start q_token q_number q_word q_fault q_line q_foundPains q_foundLine q_deadMany q_deadSize q_deadLeast q_deadMost q_st q_before q_kept q_isKept q_refused q_text q_ones q_said q_readTable q_least q_made q_enough q_isWanted q_column q_foundColumn q_walls q_wallMany q_chosen) (P_X8_isDone q_textSize q_cursor q_start q_token q_number q_word q_fault q_line q_foundPains q_foundLine q_deadMany q_deadSize q_deadLeast q_deadMost q_before q_kept q_isKept q_refused q_text q_ones q_said q_readTable q_least q_made q_enough q_isWanted q_column q_foundColumn q_walls q_wallMany q_chosen r) := by
  rw [f_X8_isDone] at h
  refine mm_Ok.of pn_X8 (l := [(0, .ref 0), (1, .int v1)]) rfl (Nat.le_of_ble_eq_true rfl) ?_
  refine mm_aload_n 0 dX8_isDone_0 rfl rfl (pc' := 1) rfl ?_
  refine mm_aload_n 0 dX8_isDone_1 rfl rfl (pc' := 2) rfl ?_
  refine mm_getf fG_X8_32 dX8_isDone_2 rfl rfl (pc' := 5) rfl ?_
  refine mm_iconst dX8_isDone_5 ki_1 (pc' := 6) rfl ?_
  refine mm_iald dX8_isDone_6 rfl ki_1_3 (congrArg _ kt_1) (pc' := 7) rfl ?_
  refine mm_aload_n 0 dX8_isDone_7 rfl rfl (pc' := 8) rfl ?_
  refine mm_getf fG_X8_32 dX8_isDone_8 rfl rfl (pc' := 11) rfl ?_
  refine mm_iconst dX8_isDone_11 ki_2 (pc' := 12) rfl ?_
  refine mm_iald dX8_isDone_12 rfl ki_2_3 (congrArg _ kt_2) (pc' := 13) rfl ?_
  obtain ⟨t13, h13, h⟩ := mm_bd h
  refine mm_call0 (As := [.int (q_said 1), .int (q_said 2)]) (rest := []) cV_X8_74 (ok_X8_isPlace h13) ⟨rfl, rfl, Nat.le_of_ble_eq_true rfl, Nat.le_of_ble_eq_true rfl⟩ dX8_isDone_13 rfl rfl rfl rfl (by rintro _ _ ⟨-, rfl⟩; rfl) (Nat.le_of_ble_eq_true rfl) ⟨Nat.le_of_ble_eq_true rfl, Nat.le_of_ble_eq_true rfl⟩ (pc' := 16) rfl ?_
  rintro rv w ⟨rfl, rfl⟩
  show mm_Wp _ _ _ _ 16 [(0, .ref 0), (1, .int v1)] [.int t13] (W_X8 q_textSize q_cursor q_start q_token q_number q_word q_fault q_line q_foundPains q_foundLine q_deadMany q_deadSize q_deadLeast q_deadMost q_st q_before q_kept q_isKept q_refused q_text q_ones q_said q_readTable q_least q_made q_enough q_isWanted q_column q_foundColumn q_walls q_wallMany q_chosen)
  clear h13
  refine mm_istore_n dX8_isDone_16 rfl (by decide) (l' := [(2, .int t13), (0, .ref 0), (1, .int v1)]) rfl (pc' := 17) rfl ?_
  refine mm_bipush dX8_isDone_17 kb_12 (pc' := 19) rfl ?_
  refine mm_aload_n 1 dX8_isDone_19 rfl rfl (pc' := 20) rfl ?_
  refine mm_getf fG_X8_32 dX8_isDone_20 rfl rfl (pc' := 23) rfl ?_
  refine mm_iconst dX8_isDone_23 ki_2 (pc' := 24) rfl ?_
  refine mm_iald dX8_isDone_24 rfl ki_2_3 (congrArg _ kt_2) (pc' := 25) rfl ?_
  refine mm_imul dX8_isDone_25 (pc' := 26) rfl ?_
  refine mm_aload_n 1 dX8_isDone_26 rfl rfl (pc' := 27) rfl ?_
  refine mm_getf fG_X8_32 dX8_isDone_27 rfl rfl (pc' := 30) rfl ?_
  refine mm_iconst dX8_isDone_30 ki_1 (pc' := 31) rfl ?_
  refine mm_iald dX8_isDone_31 rfl ki_1_3 (congrArg _ kt_1) (pc' := 32) rfl ?_
  refine mm_iadd dX8_isDone_32 (pc' := 33) rfl ?_
  refine mm_topi (fun y33 e => ?_)
  replace h := mm_let_of h y33 e
  clear e
  refine mm_istore_n dX8_isDone_33 rfl (by decide) (l' := [(3, .int y33), (2, .int t13), (0, .ref 0), (1, .int v1)]) rfl (pc' := 34) rfl ?_
  refine mm_iload_n 3 dX8_isDone_34 rfl rfl (pc' := 35) rfl ?_
  by_cases c0 : v1 = (0 : Int32)
  · replace h := mm_it h c0
    refine mm_tswIn (off := 33) (tgt := 68) (0 : Int32) c0 dX8_isDone_35 (by decide) (by decide) (by decide) (by decide) ?_
    clear c0
    refine mm_aload_n 2 dX8_isDone_68 rfl rfl (pc' := 69) rfl ?_
    refine mm_aload_n 2 dX8_isDone_69 rfl rfl (pc' := 70) rfl ?_
    refine mm_getf fG_X8_32 dX8_isDone_70 rfl rfl (pc' := 73) rfl ?_
    refine mm_iconst dX8_isDone_73 ki_0 (pc' := 74) rfl ?_
    refine mm_iald dX8_isDone_74 rfl ki_0_3 (congrArg _ kt_0) (pc' := 75) rfl ?_
    refine mm_aload_n 2 dX8_isDone_75 rfl rfl (pc' := 76) rfl ?_
    refine mm_getf fG_X8_32 dX8_isDone_76 rfl rfl (pc' := 79) rfl ?_
    refine mm_iconst dX8_isDone_79 ki_1 (pc' := 80) rfl ?_
    refine mm_iald dX8_isDone_80 rfl ki_1_3 (congrArg _ kt_1) (pc' := 81) rfl ?_
    obtain ⟨t81, h81, h⟩ := mm_bd h
    refine mm_call0 (As := [.int (q_said 0), .int (q_said 1)]) (rest := []) cV_X8_88 (ok_X8_putWall h81) ⟨rfl, rfl, Nat.le_of_ble_eq_true rfl, Nat.le_of_ble_eq_true rfl⟩ dX8_isDone_81 rfl rfl rfl rfl (by rintro _ _ ⟨-, rfl⟩; rfl) (Nat.le_of_ble_eq_true rfl) ⟨Nat.le_of_ble_eq_true rfl, Nat.le_of_ble_eq_true rfl⟩ (pc' := 84) rfl ?_
    rintro rv w ⟨rfl, rfl⟩
    show mm_Wp _ _ _ _ 84 [(3, .int y33), (2, .int t13), (0, .ref 0), (1, .int v1)] [.int t81.1] (W_X8 q_textSize q_cursor q_start q_token q_number q_word q_fault q_line q_foundPains q_foundLine q_deadMany q_deadSize q_deadLeast q_deadMost t81.2 q_before q_kept q_isKept q_refused q_text q_ones q_said q_readTable q_least q_made q_enough q_isWanted q_column q_foundColumn q_walls q_wallMany q_chosen)
    clear h81
    refine mm_if_le (tgt := 91) dX8_isDone_84 (by decide) (pc' := 87) rfl (fun c => ?_) (fun c => ?_)
    · replace h := mm_it h c
      clear c
      refine mm_iconst dX8_isDone_91 ki_0 (pc' := 92) rfl ?_
      have h9 := Option.some.inj h
      subst h9
      exact mm_zret rfl (by decide) dX8_isDone_92 ⟨rfl, rfl⟩
    · replace h := mm_if h c
      clear c
      refine mm_iconst dX8_isDone_87 ki_1 (pc' := 88) rfl ?_
      refine mm_goto (tgt := 92) dX8_isDone_88 (by decide) ?_
      have h9 := Option.some.inj h
      subst h9
      exact mm_zret rfl (by decide) dX8_isDone_92 ⟨rfl, rfl⟩
  replace h := mm_if h c0
  by_cases c1 : v1 = (1 : Int32)
  · replace h := mm_it h c1
    refine mm_tswIn (off := 58) (tgt := 93) (1 : Int32) c1 dX8_isDone_35 (by decide) (by decide) (by decide) (by decide) ?_
    clear c0 c1
    refine mm_aload_n 2 dX8_isDone_93 rfl rfl (pc' := 94) rfl ?_
    refine mm_aload_n 2 dX8_isDone_94 rfl rfl (pc' := 95) rfl ?_
    refine mm_getf fG_X8_32 dX8_isDone_95 rfl rfl (pc' := 98) rfl ?_
    refine mm_iconst dX8_isDone_98 ki_0 (pc' := 99) rfl ?_
    refine mm_iald dX8_isDone_99 rfl ki_0_3 (congrArg _ kt_0) (pc' := 100) rfl ?_
    refine mm_aload_n 2 dX8_isDone_100 rfl rfl (pc' := 101) rfl ?_
    refine mm_getf fG_X8_32 dX8_isDone_101 rfl rfl (pc' := 104) rfl ?_
    refine mm_iconst dX8_isDone_104 ki_1 (pc' := 105) rfl ?_
    refine mm_iald dX8_isDone_105 rfl ki_1_3 (congrArg _ kt_1) (pc' := 106) rfl ?_
    refine mm_aload_n 2 dX8_isDone_106 rfl rfl (pc' := 107) rfl ?_
    refine mm_getf fG_X8_32 dX8_isDone_107 rfl rfl (pc' := 110) rfl ?_
    refine mm_iconst dX8_isDone_110 ki_2 (pc' := 111) rfl ?_
    refine mm_iald dX8_isDone_111 rfl ki_2_3 (congrArg _ kt_2) (pc' := 112) rfl ?_
    obtain ⟨t112, h112, h⟩ := mm_bd h
    refine mm_call0 (As := [.int (q_said 0), .int (q_said 1), .int (q_said 2)]) (rest := []) cV_X8_96 (ok_X8_putMan h112) ⟨rfl, rfl, Nat.le_of_ble_eq_true rfl, Nat.le_of_ble_eq_true rfl⟩ dX8_isDone_112 rfl rfl rfl rfl (by rintro _ _ ⟨-, rfl⟩; rfl) (Nat.le_of_ble_eq_true rfl) ⟨Nat.le_of_ble_eq_true rfl, Nat.le_of_ble_eq_true rfl⟩ (pc' := 115) rfl ?_
    rintro rv w ⟨rfl, rfl⟩
    show mm_Wp _ _ _ _ 115 [(3, .int y33), (2, .int t13), (0, .ref 0), (1, .int v1)] [.int t112.1] (W_X8 q_textSize q_cursor q_start q_token q_number q_word q_fault q_line q_foundPains q_foundLine q_deadMany q_deadSize q_deadLeast q_deadMost t112.2 q_before q_kept q_isKept q_refused q_text q_ones q_said q_readTable q_least q_made q_enough q_isWanted q_column q_foundColumn q_walls q_wallMany q_chosen)
    clear h112
    refine mm_if_lt (tgt := 122) dX8_isDone_115 (by decide) (pc' := 118) rfl (fun c => ?_) (fun c => ?_)
    · replace h := mm_it h c
      clear c
      refine mm_iconst dX8_isDone_122 ki_0 (pc' := 123) rfl ?_
      have h9 := Option.some.inj h
      subst h9
      exact mm_zret rfl (by decide) dX8_isDone_123 ⟨rfl, rfl⟩
    · replace h := mm_if h c
      clear c
      refine mm_iconst dX8_isDone_118 ki_1 (pc' := 119) rfl ?_
      refine mm_goto (tgt := 123) dX8_isDone_119 (by decide) ?_
      have h9 := Option.some.inj h
      subst h9
      exact mm_zret rfl (by decide) dX8_isDone_123 ⟨rfl, rfl⟩
  replace h := mm_if h c1
  by_cases c2 : v1 = (2 : Int32)
  · replace h := mm_it h c2
    refine mm_tswIn (off := 89) (tgt := 124) (2 : Int32) c2 dX8_isDone_35 (by decide) (by decide) (by decide) (by decide) ?_
    clear c0 c1 c2
    refine mm_iload_n 1 dX8_isDone_124 rfl rfl (pc' := 125) rfl ?_
    refine mm_if_eq (tgt := 148) dX8_isDone_125 (by decide) (pc' := 128) rfl (fun c => ?_) (fun c => ?_)
    · replace h := mm_it h c
      clear c
      exact mm_sub [] rfl (s_X8_isDone_J148  h)
    · replace h := mm_if h c
      clear c
      refine mm_aload_n 2 dX8_isDone_128 rfl rfl (pc' := 129) rfl ?_
      refine mm_iload_n 0 dX8_isDone_129 rfl rfl (pc' := 130) rfl ?_
      refine mm_aload_n 2 dX8_isDone_130 rfl rfl (pc' := 131) rfl ?_
      refine mm_getf fG_X8_32 dX8_isDone_131 rfl rfl (pc' := 134) rfl ?_
      refine mm_iconst dX8_isDone_134 ki_0 (pc' := 135) rfl ?_
      refine mm_iald dX8_isDone_135 rfl ki_0_3 (congrArg _ kt_0) (pc' := 136) rfl ?_
      obtain ⟨t136, h136, h⟩ := mm_bd h
      refine mm_call0 (As := [.int y33, .int (q_said 0)]) (rest := []) cV_X8_103 (ok_X8_putOwner h136) ⟨rfl, rfl, Nat.le_of_ble_eq_true rfl, Nat.le_of_ble_eq_true rfl⟩ dX8_isDone_136 rfl rfl rfl rfl (by rintro _ _ ⟨-, rfl⟩; rfl) (Nat.le_of_ble_eq_true rfl) ⟨Nat.le_of_ble_eq_true rfl, Nat.le_of_ble_eq_true rfl⟩ (pc' := 139) rfl ?_
      rintro rv w ⟨rfl, rfl⟩
      show mm_Wp _ _ _ _ 139 [(3, .int y33), (2, .int t13), (0, .ref 0), (1, .int v1)] [.int t136.1] (W_X8 q_textSize q_cursor q_start q_token q_number q_word q_fault q_line q_foundPains q_foundLine q_deadMany q_deadSize q_deadLeast q_deadMost t136.2 q_before q_kept q_isKept q_refused q_text q_ones q_said q_readTable q_least q_made q_enough q_isWanted q_column q_foundColumn q_walls q_wallMany q_chosen)
      clear h136
      refine mm_bipush dX8_isDone_139 kb_m10 (pc' := 141) rfl ?_
      refine mm_icmp_eq (tgt := 148) dX8_isDone_141 (by decide) (pc' := 144) rfl (fun c => ?_) (fun c => ?_)
      · replace h := mm_it h c
        clear c
        exact mm_sub [] rfl (s_X8_isDone_J148  h)
      · replace h := mm_if h c
        clear c
        refine mm_iconst dX8_isDone_144 ki_1 (pc' := 145) rfl ?_
        refine mm_goto (tgt := 149) dX8_isDone_145 (by decide) ?_
        have h9 := Option.some.inj h
        subst h9
        exact mm_zret rfl (by decide) dX8_isDone_149 ⟨rfl, rfl⟩
  replace h := mm_if h c2
  by_cases c3 : v1 = (3 : Int32)
  · replace h := mm_it h c3
    refine mm_tswIn (off := 115) (tgt := 150) (3 : Int32) c3 dX8_isDone_35 (by decide) (by decide) (by decide) (by decide) ?_
    clear c0 c1 c2 c3
    refine mm_aload_n 2 dX8_isDone_150 rfl rfl (pc' := 151) rfl ?_
    refine mm_aload_n 2 dX8_isDone_151 rfl rfl (pc' := 152) rfl ?_
    refine mm_getf fG_X8_32 dX8_isDone_152 rfl rfl (pc' := 155) rfl ?_
    refine mm_iconst dX8_isDone_155 ki_0 (pc' := 156) rfl ?_
    refine mm_iald dX8_isDone_156 rfl ki_0_3 (congrArg _ kt_0) (pc' := 157) rfl ?_
    obtain ⟨t157, h157, h⟩ := mm_bd h
    refine mm_call0 (As := [.int (q_said 0)]) (rest := []) cV_X8_106 (ok_X8_putLetter h157) ⟨rfl, rfl, Nat.le_of_ble_eq_true rfl, Nat.le_of_ble_eq_true rfl⟩ dX8_isDone_157 rfl rfl rfl rfl (by rintro _ _ ⟨-, rfl⟩; rfl) (Nat.le_of_ble_eq_true rfl) ⟨Nat.le_of_ble_eq_true rfl, Nat.le_of_ble_eq_true rfl⟩ (pc' := 160) rfl ?_
    rintro rv w ⟨rfl, rfl⟩
    show mm_Wp _ _ _ _ 160 [(3, .int y33), (2, .int t13), (0, .ref 0), (1, .int v1)] [.int t157.1] (W_X8 q_textSize q_cursor q_start q_token q_number q_word q_fault q_line q_foundPains q_foundLine q_deadMany q_deadSize q_deadLeast q_deadMost t157.2 q_before q_kept q_isKept q_refused q_text q_ones q_said q_readTable q_least q_made q_enough q_isWanted q_column q_foundColumn q_walls q_wallMany q_chosen)
    clear h157
    refine mm_if_lt (tgt := 167) dX8_isDone_160 (by decide) (pc' := 163) rfl (fun c => ?_) (fun c => ?_)
    · replace h := mm_it h c
      clear c
      refine mm_iconst dX8_isDone_167 ki_0 (pc' := 168) rfl ?_
      have h9 := Option.some.inj h
      subst h9
      exact mm_zret rfl (by decide) dX8_isDone_168 ⟨rfl, rfl⟩
    · replace h := mm_if h c
      clear c
      refine mm_iconst dX8_isDone_163 ki_1 (pc' := 164) rfl ?_
      refine mm_goto (tgt := 168) dX8_isDone_164 (by decide) ?_
      have h9 := Option.some.inj h
      subst h9
      exact mm_zret rfl (by decide) dX8_isDone_168 ⟨rfl, rfl⟩
  replace h := mm_if h c3
  by_cases c4 : v1 = (4 : Int32)
  · replace h := mm_it h c4
    refine mm_tswIn (off := 134) (tgt := 169) (4 : Int32) c4 dX8_isDone_35 (by decide) (by decide) (by decide) (by decide) ?_
    clear c0 c1 c2 c3 c4
    refine mm_iload_n 1 dX8_isDone_169 rfl rfl (pc' := 170) rfl ?_
    refine mm_if_eq (tgt := 192) dX8_isDone_170 (by decide) (pc' := 173) rfl (fun c => ?_) (fun c => ?_)
    · replace h := mm_it h c
      clear c
      exact mm_sub [] rfl (s_X8_isDone_J192  h)
    · replace h := mm_if h c
      clear c
      refine mm_aload_n 2 dX8_isDone_173 rfl rfl (pc' := 174) rfl ?_
      refine mm_aload_n 2 dX8_isDone_174 rfl rfl (pc' := 175) rfl ?_
      refine mm_getf fG_X8_32 dX8_isDone_175 rfl rfl (pc' := 178) rfl ?_
      refine mm_iconst dX8_isDone_178 ki_0 (pc' := 179) rfl ?_
      refine mm_iald dX8_isDone_179 rfl ki_0_3 (congrArg _ kt_0) (pc' := 180) rfl ?_
      refine mm_iload_n 0 dX8_isDone_180 rfl rfl (pc' := 181) rfl ?_
      refine mm_iconst dX8_isDone_181 ki_1 (pc' := 182) rfl ?_
      obtain ⟨t182, h182, h⟩ := mm_bd h
      refine mm_call0 (As := [.int (q_said 0), .int y33, .int (1 : Int32)]) (rest := []) cV_X8_109 (ok_X8_putLight h182) ⟨rfl, rfl, Nat.le_of_ble_eq_true rfl, Nat.le_of_ble_eq_true rfl⟩ dX8_isDone_182 rfl rfl rfl rfl (by rintro _ _ ⟨-, rfl⟩; rfl) (Nat.le_of_ble_eq_true rfl) ⟨Nat.le_of_ble_eq_true rfl, Nat.le_of_ble_eq_true rfl⟩ (pc' := 185) rfl ?_
      rintro rv w ⟨rfl, rfl⟩
      show mm_Wp _ _ _ _ 185 [(3, .int y33), (2, .int t13), (0, .ref 0), (1, .int v1)] [.int t182.1] (W_X8 q_textSize q_cursor q_start q_token q_number q_word q_fault q_line q_foundPains q_foundLine q_deadMany q_deadSize q_deadLeast q_deadMost t182.2 q_before q_kept q_isKept q_refused q_text q_ones q_said q_readTable q_least q_made q_enough q_isWanted q_column q_foundColumn q_walls q_wallMany q_chosen)
      clear h182
      refine mm_if_le (tgt := 192) dX8_isDone_185 (by decide) (pc' := 188) rfl (fun c => ?_) (fun c => ?_)
      · replace h := mm_it h c
        clear c
        exact mm_sub [] rfl (s_X8_isDone_J192  h)
      · replace h := mm_if h c
        clear c
        refine mm_iconst dX8_isDone_188 ki_1 (pc' := 189) rfl ?_
        refine mm_goto (tgt := 193) dX8_isDone_189 (by decide) ?_
        have h9 := Option.some.inj h
        subst h9
        exact mm_zret rfl (by decide) dX8_isDone_193 ⟨rfl, rfl⟩
  replace h := mm_if h c4
  refine mm_tswOut (tgt := 194) 0 5 [0, 1, 2, 3, 4] (by decide +kernel) (mm_fa c0 (mm_fa c1 (mm_fa c2 (mm_fa c3 (mm_fa c4 mm_f0))))) dX8_isDone_35 rfl rfl (by decide) ?_
  clear c0 c1 c2 c3 c4
  refine mm_aload_n 2 dX8_isDone_194 rfl rfl (pc' := 195) rfl ?_
  refine mm_aload_n 2 dX8_isDone_195 rfl rfl (pc' := 196) rfl ?_
  refine mm_getf fG_X8_32 dX8_isDone_196 rfl rfl (pc' := 199) rfl ?_
  refine mm_iconst dX8_isDone_199 ki_0 (pc' := 200) rfl ?_
  refine mm_iald dX8_isDone_200 rfl ki_0_3 (congrArg _ kt_0) (pc' := 201) rfl ?_
  obtain ⟨t201, h201, h⟩ := mm_bd h
  refine mm_call0 (As := [.int (q_said 0)]) (rest := []) cV_X8_112 (ok_X8_putSlack h201) ⟨rfl, rfl, Nat.le_of_ble_eq_true rfl, Nat.le_of_ble_eq_true rfl⟩ dX8_isDone_201 rfl rfl rfl rfl (by rintro _ _ ⟨-, rfl⟩; rfl) (Nat.le_of_ble_eq_true rfl) ⟨Nat.le_of_ble_eq_true rfl, Nat.le_of_ble_eq_true rfl⟩ (pc' := 204) rfl ?_
  rintro rv w ⟨rfl, rfl⟩
  show mm_Wp _ _ _ _ 204 [(3, .int y33), (2, .int t13), (0, .ref 0), (1, .int v1)] [.int t201.1] (W_X8 q_textSize q_cursor q_start q_token q_number q_word q_fault q_line q_foundPains q_foundLine q_deadMany q_deadSize q_deadLeast q_deadMost t201.2 q_before q_kept q_isKept q_refused q_text q_ones q_said q_readTable q_least q_made q_enough q_isWanted q_column q_foundColumn q_walls q_wallMany q_chosen)
  clear h201
  refine mm_if_lt (tgt := 211) dX8_isDone_204 (by decide) (pc' := 207) rfl (fun c => ?_) (fun c => ?_)
  · replace h := mm_it h c
    clear c
    refine mm_iconst dX8_isDone_211 ki_0 (pc' := 212) rfl ?_
    have h9 := Option.some.inj h
    subst h9
    exact mm_zret rfl (by decide) dX8_isDone_212 ⟨rfl, rfl⟩
  · replace h := mm_if h c
    clear c
    refine mm_iconst dX8_isDone_207 ki_1 (pc' := 208) rfl ?_
    refine mm_goto (tgt := 212) dX8_isDone_208 (by decide) ?_
    have h9 := Option.some.inj h
    subst h9
    exact mm_zret rfl (by decide) dX8_isDone_212 ⟨rfl, rfl⟩

def P_X8_read (q_textSize : Int32) (q_line : Int32) (q_foundPains : Int32) (q_foundLine : Int32) (q_deadMany : Int32) (q_deadSize : Int32) (q_deadLeast : Int32) (q_deadMost : Int32) (q_kept : Nat → Int32) (q_isKept : Nat → Int32) (q_refused : Nat → Int32) (q_text : Nat → Int32) (q_ones : Nat → Int32) (q_readTable : Nat → Int32) (q_least : Nat → Int32) (q_made : Nat → Int32) (q_enough : Nat → Int32) (q_isWanted : Nat → Int32) (q_column : Nat → Int32) (q_foundColumn : Nat → Int32) (q_walls : Nat → Int64) (q_wallMany : Nat → Int32) (q_chosen : Nat → Int32) (r : Int32 × Int32 × Int32 × Int32 × Int32 × Int64 × Int32 × (Nat → Int32) × (Nat → Int32) × (Nat → Int32)) : Option Value → mm_W → Prop := fun rv w => rv = some (.int r.1) ∧ w = (W_X8 q_textSize r.2.1 r.2.2.1 r.2.2.2.1 r.2.2.2.2.1 r.2.2.2.2.2.1 r.2.2.2.2.2.2.1 q_line q_foundPains q_foundLine q_deadMany q_deadSize q_deadLeast q_deadMost r.2.2.2.2.2.2.2.1 r.2.2.2.2.2.2.2.2.1 q_kept q_isKept q_refused q_text q_ones r.2.2.2.2.2.2.2.2.2 q_readTable q_least q_made q_enough q_isWanted q_column q_foundColumn q_walls q_wallMany q_chosen)
def X8_read_J132 (fu : Nat)  (q_textSize : Int32) (q_cursor : Int32) (q_start : Int32) (q_token : Int32) (q_number : Int32) (q_word : Int64) (q_fault : Int32) (q_st : Nat → Int32) (q_before : Nat → Int32) (q_text : Nat → Int32) (q_said : Nat → Int32) (v2 : Int32) (v3 : Int32)  : Option (Int32 × Int32 × Int32 × Int32 × Int32 × Int64 × Int32 × (Nat → Int32) × (Nat → Int32) × (Nat → Int32)) := if v3 = 0 then (some (((-1000 : Int32) - v2), q_cursor, q_start, q_token, q_number, q_word, q_fault, q_st, q_before, q_said)) else (some (v2, q_cursor, q_start, q_token, q_number, q_word, q_fault, q_st, q_before, q_said))
set_option maxHeartbeats 4000000 in
set_option maxRecDepth 100000 in
theorem s_X8_read_J132 {fu : Nat} {q_textSize : Int32} {q_cursor : Int32} {q_start : Int32} {q_token : Int32} {q_number : Int32} {q_word : Int64} {q_fault : Int32} {q_line : Int32} {q_foundPains : Int32} {q_foundLine : Int32} {q_deadMany : Int32} {q_deadSize : Int32} {q_deadLeast : Int32} {q_deadMost : Int32} {q_st : Nat → Int32} {q_before : Nat → Int32} {q_kept : Nat → Int32} {q_isKept : Nat → Int32} {q_refused : Nat → Int32} {q_text : Nat → Int32} {q_ones : Nat → Int32} {q_said : Nat → Int32} {q_readTable : Nat → Int32} {q_least : Nat → Int32} {q_made : Nat → Int32} {q_enough : Nat → Int32} {q_isWanted : Nat → Int32} {q_column : Nat → Int32} {q_foundColumn : Nat → Int32} {q_walls : Nat → Int64} {q_wallMany : Nat → Int32} {q_chosen : Nat → Int32} {r : Int32 × Int32 × Int32 × Int32 × Int32 × Int64 × Int32 × (Nat → Int32) × (Nat → Int32) × (Nat → Int32)} {v2 : Int32} {v3 : Int32} (h : X8_read_J132 fu q_textSize q_cursor q_start q_token q_number q_word q_fault q_st q_before q_text q_said v2 v3 = some r) : mm_Wp mX8_read (mm_R (P_X8_read q_textSize q_line q_foundPains q_foundLine q_deadMany q_deadSize q_deadLeast q_deadMost q_kept q_isKept q_refused q_text q_ones q_readTable q_least q_made q_enough q_isWanted q_column q_foundColumn q_walls q_wallMany q_chosen r)) 0 0 132 [(2, .int v2), (3, .int v3)] [] (W_X8 q_textSize q_cursor q_start q_token q_number q_word q_fault q_line q_foundPains q_foundLine q_deadMany q_deadSize q_deadLeast q_deadMost q_st q_before q_kept q_isKept q_refused q_text q_ones q_said q_readTable q_least q_made q_enough q_isWanted q_column q_foundColumn q_walls q_wallMany q_chosen) := by
  rw [X8_read_J132] at h
  refine mm_iload_n 1 dX8_read_132 rfl rfl (pc' := 133) rfl ?_
  refine mm_if_eq (tgt := 140) dX8_read_133 (by decide) (pc' := 136) rfl (fun c => ?_) (fun c => ?_)
  · replace h := mm_it h c
    clear c
    refine mm_sipush dX8_read_140 ks_m1000 (pc' := 143) rfl ?_
    refine mm_iload_n 0 dX8_read_143 rfl rfl (pc' := 144) rfl ?_
    refine mm_isub dX8_read_144 (pc' := 145) rfl ?_
    have h9 := Option.some.inj h
    subst h9
    exact mm_iret rfl dX8_read_145 ⟨rfl, rfl⟩
  · replace h := mm_if h c
    clear c
    refine mm_iload_n 0 dX8_read_136 rfl rfl (pc' := 137) rfl ?_
    refine mm_goto (tgt := 145) dX8_read_137 (by decide) ?_
    have h9 := Option.some.inj h
    subst h9
    exact mm_iret rfl dX8_read_145 ⟨rfl, rfl⟩
def X8_read_L100 (fu : Nat)  (q_textSize : Int32) (q_cursor : Int32) (q_start : Int32) (q_token : Int32) (q_number : Int32) (q_word : Int64) (q_fault : Int32) (q_before : Nat → Int32) (q_text : Nat → Int32) (q_said : Nat → Int32) (v2 : Int32) (v3 : Int32) : Nat → (Nat → Int32) → Int32 → Option (Int32 × Int32 × Int32 × Int32 × Int32 × Int64 × Int32 × (Nat → Int32) × (Nat → Int32) × (Nat → Int32))
  | 0, _, _ => none
  | n + 1, q_st, v4 => if (354 : Int32) ≤ v4 then (X8_read_J132 fu q_textSize q_cursor q_start q_token q_number q_word q_fault q_st q_before q_text q_said v2 v3) else (if v3 = 0 then (mm_rd q_before 354 v4 fun x124 => mm_ck 354 v4 ((X8_read_L100 fu q_textSize q_cursor q_start q_token q_number q_word q_fault q_before q_text q_said v2 v3 n) (upd q_st v4.toNatClampNeg x124) (v4 + (1 : Int32)))) else (X8_read_J132 fu q_textSize q_cursor q_start q_token q_number q_word q_fault q_st q_before q_text q_said v2 v3))
set_option maxHeartbeats 4000000 in
set_option maxRecDepth 100000 in
theorem s_X8_read_L100 {fu : Nat} {q_textSize : Int32} {q_cursor : Int32} {q_start : Int32} {q_token : Int32} {q_number : Int32} {q_word : Int64} {q_fault : Int32} {q_line : Int32} {q_foundPains : Int32} {q_foundLine : Int32} {q_deadMany : Int32} {q_deadSize : Int32} {q_deadLeast : Int32} {q_deadMost : Int32} {q_before : Nat → Int32} {q_kept : Nat → Int32} {q_isKept : Nat → Int32} {q_refused : Nat → Int32} {q_text : Nat → Int32} {q_ones : Nat → Int32} {q_said : Nat → Int32} {q_readTable : Nat → Int32} {q_least : Nat → Int32} {q_made : Nat → Int32} {q_enough : Nat → Int32} {q_isWanted : Nat → Int32} {q_column : Nat → Int32} {q_foundColumn : Nat → Int32} {q_walls : Nat → Int64} {q_wallMany : Nat → Int32} {q_chosen : Nat → Int32} {r : Int32 × Int32 × Int32 × Int32 × Int32 × Int64 × Int32 × (Nat → Int32) × (Nat → Int32) × (Nat → Int32)} {v2 : Int32} {v3 : Int32} : ∀ (n : Nat) (q_st : Nat → Int32) (v4 : Int32), X8_read_L100 fu q_textSize q_cursor q_start q_token q_number q_word q_fault q_before q_text q_said v2 v3 n q_st v4 = some r → mm_Wp mX8_read (mm_R (P_X8_read q_textSize q_line q_foundPains q_foundLine q_deadMany q_deadSize q_deadLeast q_deadMost q_kept q_isKept q_refused q_text q_ones q_readTable q_least q_made q_enough q_isWanted q_column q_foundColumn q_walls q_wallMany q_chosen r)) 0 0 100 [(0, .ref 0), (2, .int v2), (3, .int v3), (4, .int v4)] [] (W_X8 q_textSize q_cursor q_start q_token q_number q_word q_fault q_line q_foundPains q_foundLine q_deadMany q_deadSize q_deadLeast q_deadMost q_st q_before q_kept q_isKept q_refused q_text q_ones q_said q_readTable q_least q_made q_enough q_isWanted q_column q_foundColumn q_walls q_wallMany q_chosen) := by
  intro n
  induction n with
  | zero =>
    intro q_st v4 h
    rw [X8_read_L100] at h
    cases h
  | succ n hr100 =>
    intro q_st v4 h
    rw [X8_read_L100] at h
    refine mm_iload 3 dX8_read_100 rfl (pc' := 102) rfl ?_
    refine mm_sipush dX8_read_102 ks_354 (pc' := 105) rfl ?_
    refine mm_icmp_ge (tgt := 132) dX8_read_105 (by decide) (pc' := 108) rfl (fun c => ?_) (fun c => ?_)
    · replace h := mm_it h c
      clear c
      exact mm_sub [1, 2] rfl (s_X8_read_J132  h)
    · replace h := mm_if h c
      clear c
      refine mm_iload_n 2 dX8_read_108 rfl rfl (pc' := 109) rfl ?_
      refine mm_if_ne (tgt := 132) dX8_read_109 (by decide) (pc' := 112) rfl (fun c => ?_) (fun c => ?_)
      · replace h := mm_if h c
        clear c
        exact mm_sub [1, 2] rfl (s_X8_read_J132  h)
      · replace h := mm_it h c
        clear c
        refine mm_aload_n 0 dX8_read_112 rfl rfl (pc' := 113) rfl ?_
        refine mm_getf fG_X8_7 dX8_read_113 rfl rfl (pc' := 116) rfl ?_
        refine mm_iload 3 dX8_read_116 rfl (pc' := 118) rfl ?_
        refine mm_aload_n 0 dX8_read_118 rfl rfl (pc' := 119) rfl ?_
        refine mm_getf fG_X8_13 dX8_read_119 rfl rfl (pc' := 122) rfl ?_
        refine mm_iload 3 dX8_read_122 rfl (pc' := 124) rfl ?_
        obtain ⟨x124, c124, e124, h⟩ := mm_rd_of h
        refine mm_iald dX8_read_124 rfl c124 e124 (pc' := 125) rfl ?_
        clear c124 e124
        obtain ⟨c125, h⟩ := mm_ck_of h
        refine mm_iast dX8_read_125 rfl c125 rfl (ws' := (W_X8 q_textSize q_cursor q_start q_token q_number q_word q_fault q_line q_foundPains q_foundLine q_deadMany q_deadSize q_deadLeast q_deadMost (upd q_st v4.toNatClampNeg x124) q_before q_kept q_isKept q_refused q_text q_ones q_said q_readTable q_least q_made q_enough q_isWanted q_column q_foundColumn q_walls q_wallMany q_chosen)) rfl (pc' := 126) rfl ?_
        clear c125
        refine mm_iinc 3 dX8_read_126 rfl ki_1 (by decide) (l' := [(4, .int (v4 + (1 : Int32))), (0, .ref 0), (2, .int v2), (3, .int v3)]) rfl (pc' := 129) rfl ?_
        refine mm_goto (tgt := 100) dX8_read_129 (by decide) ?_
        exact mm_sub [1, 2, 3, 0] rfl (hr100 _ _ h)
def X8_read_J97 (fu : Nat)  (q_textSize : Int32) (q_cursor : Int32) (q_start : Int32) (q_token : Int32) (q_number : Int32) (q_word : Int64) (q_fault : Int32) (q_st : Nat → Int32) (q_before : Nat → Int32) (q_text : Nat → Int32) (q_said : Nat → Int32) (v2 : Int32) (v3 : Int32)  : Option (Int32 × Int32 × Int32 × Int32 × Int32 × Int64 × Int32 × (Nat → Int32) × (Nat → Int32) × (Nat → Int32)) := X8_read_L100 fu q_textSize q_cursor q_start q_token q_number q_word q_fault q_before q_text q_said v2 v3 fu q_st (0 : Int32)
set_option maxHeartbeats 4000000 in
set_option maxRecDepth 100000 in
theorem s_X8_read_J97 {fu : Nat} {q_textSize : Int32} {q_cursor : Int32} {q_start : Int32} {q_token : Int32} {q_number : Int32} {q_word : Int64} {q_fault : Int32} {q_line : Int32} {q_foundPains : Int32} {q_foundLine : Int32} {q_deadMany : Int32} {q_deadSize : Int32} {q_deadLeast : Int32} {q_deadMost : Int32} {q_st : Nat → Int32} {q_before : Nat → Int32} {q_kept : Nat → Int32} {q_isKept : Nat → Int32} {q_refused : Nat → Int32} {q_text : Nat → Int32} {q_ones : Nat → Int32} {q_said : Nat → Int32} {q_readTable : Nat → Int32} {q_least : Nat → Int32} {q_made : Nat → Int32} {q_enough : Nat → Int32} {q_isWanted : Nat → Int32} {q_column : Nat → Int32} {q_foundColumn : Nat → Int32} {q_walls : Nat → Int64} {q_wallMany : Nat → Int32} {q_chosen : Nat → Int32} {r : Int32 × Int32 × Int32 × Int32 × Int32 × Int64 × Int32 × (Nat → Int32) × (Nat → Int32) × (Nat → Int32)} {v2 : Int32} {v3 : Int32} (h : X8_read_J97 fu q_textSize q_cursor q_start q_token q_number q_word q_fault q_st q_before q_text q_said v2 v3 = some r) : mm_Wp mX8_read (mm_R (P_X8_read q_textSize q_line q_foundPains q_foundLine q_deadMany q_deadSize q_deadLeast q_deadMost q_kept q_isKept q_refused q_text q_ones q_readTable q_least q_made q_enough q_isWanted q_column q_foundColumn q_walls q_wallMany q_chosen r)) 0 0 97 [(0, .ref 0), (2, .int v2), (3, .int v3)] [] (W_X8 q_textSize q_cursor q_start q_token q_number q_word q_fault q_line q_foundPains q_foundLine q_deadMany q_deadSize q_deadLeast q_deadMost q_st q_before q_kept q_isKept q_refused q_text q_ones q_said q_readTable q_least q_made q_enough q_isWanted q_column q_foundColumn q_walls q_wallMany q_chosen) := by
  rw [X8_read_J97] at h
  refine mm_iconst dX8_read_97 ki_0 (pc' := 98) rfl ?_
  refine mm_istore dX8_read_98 (by decide) (l' := [(4, .int (0 : Int32)), (0, .ref 0), (2, .int v2), (3, .int v3)]) rfl (pc' := 100) rfl ?_
  exact mm_sub [1, 2, 3, 0] rfl (s_X8_read_L100  _ _ _ h)
def X8_read_J92 (fu : Nat) (rec62 : Int32 → Int32 → Int32 → Int32 → Int64 → Int32 → (Nat → Int32) → (Nat → Int32) → Int32 → Int32 → Option (Int32 × Int32 × Int32 × Int32 × Int32 × Int64 × Int32 × (Nat → Int32) × (Nat → Int32) × (Nat → Int32))) (q_textSize : Int32) (q_cursor : Int32) (q_start : Int32) (q_token : Int32) (q_number : Int32) (q_word : Int64) (q_fault : Int32) (q_st : Nat → Int32) (q_before : Nat → Int32) (q_text : Nat → Int32) (q_said : Nat → Int32) (v3 : Int32) (s0 : Int32) (s1 : Int32) : Option (Int32 × Int32 × Int32 × Int32 × Int32 × Int64 × Int32 × (Nat → Int32) × (Nat → Int32) × (Nat → Int32)) := rec62 q_cursor q_start q_token q_number q_word q_fault q_st q_said (s1 + s0) v3
set_option maxHeartbeats 4000000 in
set_option maxRecDepth 100000 in
theorem s_X8_read_J92 {fu : Nat} {q_textSize : Int32} {q_cursor : Int32} {q_start : Int32} {q_token : Int32} {q_number : Int32} {q_word : Int64} {q_fault : Int32} {q_line : Int32} {q_foundPains : Int32} {q_foundLine : Int32} {q_deadMany : Int32} {q_deadSize : Int32} {q_deadLeast : Int32} {q_deadMost : Int32} {q_st : Nat → Int32} {q_before : Nat → Int32} {q_kept : Nat → Int32} {q_isKept : Nat → Int32} {q_refused : Nat → Int32} {q_text : Nat → Int32} {q_ones : Nat → Int32} {q_said : Nat → Int32} {q_readTable : Nat → Int32} {q_least : Nat → Int32} {q_made : Nat → Int32} {q_enough : Nat → Int32} {q_isWanted : Nat → Int32} {q_column : Nat → Int32} {q_foundColumn : Nat → Int32} {q_walls : Nat → Int64} {q_wallMany : Nat → Int32} {q_chosen : Nat → Int32} {r : Int32 × Int32 × Int32 × Int32 × Int32 × Int64 × Int32 × (Nat → Int32) × (Nat → Int32) × (Nat → Int32)} {rec62 : Int32 → Int32 → Int32 → Int32 → Int64 → Int32 → (Nat → Int32) → (Nat → Int32) → Int32 → Int32 → Option (Int32 × Int32 × Int32 × Int32 × Int32 × Int64 × Int32 × (Nat → Int32) × (Nat → Int32) × (Nat → Int32))} {v3 : Int32} {s0 : Int32} {s1 : Int32} (hr62 : ∀ (z_q_cursor : Int32) (z_q_start : Int32) (z_q_token : Int32) (z_q_number : Int32) (z_q_word : Int64) (z_q_fault : Int32) (z_q_st : Nat → Int32) (z_q_said : Nat → Int32) (y2 : Int32) (y3 : Int32), rec62 z_q_cursor z_q_start z_q_token z_q_number z_q_word z_q_fault z_q_st z_q_said y2 y3 = some r → mm_Wp mX8_read (mm_R (P_X8_read q_textSize q_line q_foundPains q_foundLine q_deadMany q_deadSize q_deadLeast q_deadMost q_kept q_isKept q_refused q_text q_ones q_readTable q_least q_made q_enough q_isWanted q_column q_foundColumn q_walls q_wallMany q_chosen r)) 0 0 62 [(0, .ref 0), (2, .int y2), (3, .int y3)] [] (W_X8 q_textSize z_q_cursor z_q_start z_q_token z_q_number z_q_word z_q_fault q_line q_foundPains q_foundLine q_deadMany q_deadSize q_deadLeast q_deadMost z_q_st q_before q_kept q_isKept q_refused q_text q_ones z_q_said q_readTable q_least q_made q_enough q_isWanted q_column q_foundColumn q_walls q_wallMany q_chosen)) (h : X8_read_J92 fu rec62 q_textSize q_cursor q_start q_token q_number q_word q_fault q_st q_before q_text q_said v3 s0 s1 = some r) : mm_Wp mX8_read (mm_R (P_X8_read q_textSize q_line q_foundPains q_foundLine q_deadMany q_deadSize q_deadLeast q_deadMost q_kept q_isKept q_refused q_text q_ones q_readTable q_least q_made q_enough q_isWanted q_column q_foundColumn q_walls q_wallMany q_chosen r)) 0 0 92 [(0, .ref 0), (3, .int v3)] [.int s0, .int s1] (W_X8 q_textSize q_cursor q_start q_token q_number q_word q_fault q_line q_foundPains q_foundLine q_deadMany q_deadSize q_deadLeast q_deadMost q_st q_before q_kept q_isKept q_refused q_text q_ones q_said q_readTable q_least q_made q_enough q_isWanted q_column q_foundColumn q_walls q_wallMany q_chosen) := by
  rw [X8_read_J92] at h
  refine mm_iadd dX8_read_92 (pc' := 93) rfl ?_
  refine mm_istore_n dX8_read_93 rfl (by decide) (l' := [(2, .int (s1 + s0)), (0, .ref 0), (3, .int v3)]) rfl (pc' := 94) rfl ?_
  refine mm_goto (tgt := 62) dX8_read_94 (by decide) ?_
  exact mm_sub [1, 0, 2] rfl (hr62 _ _ _ _ _ _ _ _ _ _ h)
def X8_read_L62 (fu : Nat)  (q_textSize : Int32) (q_before : Nat → Int32) (q_text : Nat → Int32)  : Nat → Int32 → Int32 → Int32 → Int32 → Int64 → Int32 → (Nat → Int32) → (Nat → Int32) → Int32 → Int32 → Option (Int32 × Int32 × Int32 × Int32 × Int32 × Int64 × Int32 × (Nat → Int32) × (Nat → Int32) × (Nat → Int32))
  | 0, _, _, _, _, _, _, _, _, _, _ => none
  | n + 1, q_cursor, q_start, q_token, q_number, q_word, q_fault, q_st, q_said, v2, v3 => if q_token = 0 then (X8_read_J97 fu q_textSize q_cursor q_start q_token q_number q_word q_fault q_st q_before q_text q_said v2 v3) else (if v3 = 0 then (X8_read_J97 fu q_textSize q_cursor q_start q_token q_number q_word q_fault q_st q_before q_text q_said v2 v3) else ((f_X8_readItem fu q_textSize q_cursor q_start q_token q_number q_word q_fault q_text q_said).bind fun t75 => (f_X8_isDone fu q_st t75.2.2.2.2.2.2.2 t75.1).bind fun t78 => if t78.1 = 0 then (X8_read_J92 fu (X8_read_L62 fu q_textSize q_before q_text n) q_textSize t75.2.1 t75.2.2.1 t75.2.2.2.1 t75.2.2.2.2.1 t75.2.2.2.2.2.1 t75.2.2.2.2.2.2.1 t78.2 q_before q_text t75.2.2.2.2.2.2.2 t78.1 (0 : Int32) v2) else (X8_read_J92 fu (X8_read_L62 fu q_textSize q_before q_text n) q_textSize t75.2.1 t75.2.2.1 t75.2.2.2.1 t75.2.2.2.2.1 t75.2.2.2.2.2.1 t75.2.2.2.2.2.2.1 t78.2 q_before q_text t75.2.2.2.2.2.2.2 t78.1 (1 : Int32) v2)))
set_option maxHeartbeats 4000000 in
set_option maxRecDepth 100000 in
theorem s_X8_read_L62 {fu : Nat} {q_textSize : Int32} {q_line : Int32} {q_foundPains : Int32} {q_foundLine : Int32} {q_deadMany : Int32} {q_deadSize : Int32} {q_deadLeast : Int32} {q_deadMost : Int32} {q_before : Nat → Int32} {q_kept : Nat → Int32} {q_isKept : Nat → Int32} {q_refused : Nat → Int32} {q_text : Nat → Int32} {q_ones : Nat → Int32} {q_readTable : Nat → Int32} {q_least : Nat → Int32} {q_made : Nat → Int32} {q_enough : Nat → Int32} {q_isWanted : Nat → Int32} {q_column : Nat → Int32} {q_foundColumn : Nat → Int32} {q_walls : Nat → Int64} {q_wallMany : Nat → Int32} {q_chosen : Nat → Int32} {r : Int32 × Int32 × Int32 × Int32 × Int32 × Int64 × Int32 × (Nat → Int32) × (Nat → Int32) × (Nat → Int32)} : ∀ (n : Nat) (q_cursor : Int32) (q_start : Int32) (q_token : Int32) (q_number : Int32) (q_word : Int64) (q_fault : Int32) (q_st : Nat → Int32) (q_said : Nat → Int32) (v2 : Int32) (v3 : Int32), X8_read_L62 fu q_textSize q_before q_text n q_cursor q_start q_token q_number q_word q_fault q_st q_said v2 v3 = some r → mm_Wp mX8_read (mm_R (P_X8_read q_textSize q_line q_foundPains q_foundLine q_deadMany q_deadSize q_deadLeast q_deadMost q_kept q_isKept q_refused q_text q_ones q_readTable q_least q_made q_enough q_isWanted q_column q_foundColumn q_walls q_wallMany q_chosen r)) 0 0 62 [(0, .ref 0), (2, .int v2), (3, .int v3)] [] (W_X8 q_textSize q_cursor q_start q_token q_number q_word q_fault q_line q_foundPains q_foundLine q_deadMany q_deadSize q_deadLeast q_deadMost q_st q_before q_kept q_isKept q_refused q_text q_ones q_said q_readTable q_least q_made q_enough q_isWanted q_column q_foundColumn q_walls q_wallMany q_chosen) := by
  intro n
  induction n with
  | zero =>
    intro q_cursor q_start q_token q_number q_word q_fault q_st q_said v2 v3 h
    rw [X8_read_L62] at h
    cases h
  | succ n hr62 =>
    intro q_cursor q_start q_token q_number q_word q_fault q_st q_said v2 v3 h
    rw [X8_read_L62] at h
    refine mm_aload_n 0 dX8_read_62 rfl rfl (pc' := 63) rfl ?_
    refine mm_getf fG_X8_136 dX8_read_63 rfl rfl (pc' := 66) rfl ?_
    refine mm_if_eq (tgt := 97) dX8_read_66 (by decide) (pc' := 69) rfl (fun c => ?_) (fun c => ?_)
    · replace h := mm_it h c
      clear c
      exact s_X8_read_J97  h
    · replace h := mm_if h c
      clear c
      refine mm_iload_n 2 dX8_read_69 rfl rfl (pc' := 70) rfl ?_
      refine mm_if_eq (tgt := 97) dX8_read_70 (by decide) (pc' := 73) rfl (fun c => ?_) (fun c => ?_)
      · replace h := mm_it h c
        clear c
        exact s_X8_read_J97  h
      · replace h := mm_if h c
        clear c
        refine mm_aload_n 0 dX8_read_73 rfl rfl (pc' := 74) rfl ?_
        refine mm_aload_n 0 dX8_read_74 rfl rfl (pc' := 75) rfl ?_
        obtain ⟨t75, h75, h⟩ := mm_bd h
        refine mm_call0 (As := []) (rest := [.ref 0]) cV_X8_171 (ok_X8_readItem h75) ⟨rfl, rfl, Nat.le_of_ble_eq_true rfl, Nat.le_of_ble_eq_true rfl⟩ dX8_read_75 rfl rfl rfl rfl (by rintro _ _ ⟨-, rfl⟩; rfl) (Nat.le_of_ble_eq_true rfl) ⟨Nat.le_of_ble_eq_true rfl, Nat.le_of_ble_eq_true rfl⟩ (pc' := 78) rfl ?_
        rintro rv w ⟨rfl, rfl⟩
        show mm_Wp _ _ _ _ 78 [(0, .ref 0), (2, .int v2), (3, .int v3)] [.int t75.1, .ref 0] (W_X8 q_textSize t75.2.1 t75.2.2.1 t75.2.2.2.1 t75.2.2.2.2.1 t75.2.2.2.2.2.1 t75.2.2.2.2.2.2.1 q_line q_foundPains q_foundLine q_deadMany q_deadSize q_deadLeast q_deadMost q_st q_before q_kept q_isKept q_refused q_text q_ones t75.2.2.2.2.2.2.2 q_readTable q_least q_made q_enough q_isWanted q_column q_foundColumn q_walls q_wallMany q_chosen)
        clear h75
        obtain ⟨t78, h78, h⟩ := mm_bd h
        refine mm_call0 (As := [.int t75.1]) (rest := []) cV_X8_177 (ok_X8_isDone h78) ⟨rfl, rfl, Nat.le_of_ble_eq_true rfl, Nat.le_of_ble_eq_true rfl⟩ dX8_read_78 rfl rfl rfl rfl (by rintro _ _ ⟨-, rfl⟩; rfl) (Nat.le_of_ble_eq_true rfl) ⟨Nat.le_of_ble_eq_true rfl, Nat.le_of_ble_eq_true rfl⟩ (pc' := 81) rfl ?_
        rintro rv w ⟨rfl, rfl⟩
        show mm_Wp _ _ _ _ 81 [(0, .ref 0), (2, .int v2), (3, .int v3)] [.int t78.1] (W_X8 q_textSize t75.2.1 t75.2.2.1 t75.2.2.2.1 t75.2.2.2.2.1 t75.2.2.2.2.2.1 t75.2.2.2.2.2.2.1 q_line q_foundPains q_foundLine q_deadMany q_deadSize q_deadLeast q_deadMost t78.2 q_before q_kept q_isKept q_refused q_text q_ones t75.2.2.2.2.2.2.2 q_readTable q_least q_made q_enough q_isWanted q_column q_foundColumn q_walls q_wallMany q_chosen)
        clear h78
        refine mm_istore_n dX8_read_81 rfl (by decide) (l' := [(3, .int t78.1), (0, .ref 0), (2, .int v2)]) rfl (pc' := 82) rfl ?_
        refine mm_iload_n 2 dX8_read_82 rfl rfl (pc' := 83) rfl ?_
        refine mm_iload_n 0 dX8_read_83 rfl rfl (pc' := 84) rfl ?_
        refine mm_if_eq (tgt := 91) dX8_read_84 (by decide) (pc' := 87) rfl (fun c => ?_) (fun c => ?_)
        · replace h := mm_it h c
          clear c
          refine mm_iconst dX8_read_91 ki_0 (pc' := 92) rfl ?_
          exact mm_sub [1, 0] rfl (s_X8_read_J92 (hr62 := hr62) h)
        · replace h := mm_if h c
          clear c
          refine mm_iconst dX8_read_87 ki_1 (pc' := 88) rfl ?_
          refine mm_goto (tgt := 92) dX8_read_88 (by decide) ?_
          exact mm_sub [1, 0] rfl (s_X8_read_J92 (hr62 := hr62) h)
def X8_read_L17 (fu : Nat)  (q_textSize : Int32) (q_cursor : Int32) (q_start : Int32) (q_token : Int32) (q_number : Int32) (q_word : Int64) (q_fault : Int32) (q_st : Nat → Int32) (q_text : Nat → Int32) (q_said : Nat → Int32)  : Nat → (Nat → Int32) → Int32 → Option (Int32 × Int32 × Int32 × Int32 × Int32 × Int64 × Int32 × (Nat → Int32) × (Nat → Int32) × (Nat → Int32))
  | 0, _, _ => none
  | n + 1, q_before, v2 => if (354 : Int32) ≤ v2 then ((f_X8_anew fu q_st (12 : Int32) (5 : Int32)).bind fun t46 => (f_X8_next fu q_textSize (0 : Int32) q_start q_token q_number q_word q_text).bind fun t59 => X8_read_L62 fu q_textSize q_before q_text fu t59.1 t59.2.1 t59.2.2.1 t59.2.2.2.1 t59.2.2.2.2 q_fault t46 q_said (0 : Int32) (1 : Int32)) else (mm_rd q_st 354 v2 fun x34 => mm_ck 354 v2 ((X8_read_L17 fu q_textSize q_cursor q_start q_token q_number q_word q_fault q_st q_text q_said n) (upd q_before v2.toNatClampNeg x34) (v2 + (1 : Int32))))
set_option maxHeartbeats 4000000 in
set_option maxRecDepth 100000 in
theorem s_X8_read_L17 {fu : Nat} {q_textSize : Int32} {q_cursor : Int32} {q_start : Int32} {q_token : Int32} {q_number : Int32} {q_word : Int64} {q_fault : Int32} {q_line : Int32} {q_foundPains : Int32} {q_foundLine : Int32} {q_deadMany : Int32} {q_deadSize : Int32} {q_deadLeast : Int32} {q_deadMost : Int32} {q_st : Nat → Int32} {q_kept : Nat → Int32} {q_isKept : Nat → Int32} {q_refused : Nat → Int32} {q_text : Nat → Int32} {q_ones : Nat → Int32} {q_said : Nat → Int32} {q_readTable : Nat → Int32} {q_least : Nat → Int32} {q_made : Nat → Int32} {q_enough : Nat → Int32} {q_isWanted : Nat → Int32} {q_column : Nat → Int32} {q_foundColumn : Nat → Int32} {q_walls : Nat → Int64} {q_wallMany : Nat → Int32} {q_chosen : Nat → Int32} {r : Int32 × Int32 × Int32 × Int32 × Int32 × Int64 × Int32 × (Nat → Int32) × (Nat → Int32) × (Nat → Int32)} : ∀ (n : Nat) (q_before : Nat → Int32) (v2 : Int32), X8_read_L17 fu q_textSize q_cursor q_start q_token q_number q_word q_fault q_st q_text q_said n q_before v2 = some r → mm_Wp mX8_read (mm_R (P_X8_read q_textSize q_line q_foundPains q_foundLine q_deadMany q_deadSize q_deadLeast q_deadMost q_kept q_isKept q_refused q_text q_ones q_readTable q_least q_made q_enough q_isWanted q_column q_foundColumn q_walls q_wallMany q_chosen r)) 0 0 17 [(0, .ref 0), (2, .int v2)] [] (W_X8 q_textSize q_cursor q_start q_token q_number q_word q_fault q_line q_foundPains q_foundLine q_deadMany q_deadSize q_deadLeast q_deadMost q_st q_before q_kept q_isKept q_refused q_text q_ones q_said q_readTable q_least q_made q_enough q_isWanted q_column q_foundColumn q_walls q_wallMany q_chosen) := by
  intro n
  induction n with
  | zero =>
    intro q_before v2 h
    rw [X8_read_L17] at h
    cases h
  | succ n hr17 =>
    intro q_before v2 h
    rw [X8_read_L17] at h
    refine mm_iload_n 1 dX8_read_17 rfl rfl (pc' := 18) rfl ?_
    refine mm_sipush dX8_read_18 ks_354 (pc' := 21) rfl ?_
    refine mm_icmp_ge (tgt := 42) dX8_read_21 (by decide) (pc' := 24) rfl (fun c => ?_) (fun c => ?_)
    · replace h := mm_it h c
      clear c
      refine mm_aload_n 0 dX8_read_42 rfl rfl (pc' := 43) rfl ?_
      refine mm_bipush dX8_read_43 kb_12 (pc' := 45) rfl ?_
      refine mm_iconst dX8_read_45 ki_5 (pc' := 46) rfl ?_
      obtain ⟨t46, h46, h⟩ := mm_bd h
      refine mm_call0 (As := [.int (12 : Int32), .int (5 : Int32)]) (rest := []) cV_X8_66 (ok_X8_anew h46) ⟨rfl, rfl, Nat.le_of_ble_eq_true rfl, Nat.le_of_ble_eq_true rfl⟩ dX8_read_46 rfl rfl rfl rfl (by rintro _ _ ⟨-, rfl⟩; rfl) (Nat.le_of_ble_eq_true rfl) ⟨Nat.le_of_ble_eq_true rfl, Nat.le_of_ble_eq_true rfl⟩ (pc' := 49) rfl ?_
      rintro rv w ⟨rfl, rfl⟩
      show mm_Wp _ _ _ _ 49 [(0, .ref 0), (2, .int v2)] [] (W_X8 q_textSize q_cursor q_start q_token q_number q_word q_fault q_line q_foundPains q_foundLine q_deadMany q_deadSize q_deadLeast q_deadMost t46 q_before q_kept q_isKept q_refused q_text q_ones q_said q_readTable q_least q_made q_enough q_isWanted q_column q_foundColumn q_walls q_wallMany q_chosen)
      clear h46
      refine mm_iconst dX8_read_49 ki_0 (pc' := 50) rfl ?_
      refine mm_istore_n dX8_read_50 rfl (by decide) (l' := [(2, .int (0 : Int32)), (0, .ref 0)]) rfl (pc' := 51) rfl ?_
      refine mm_iconst dX8_read_51 ki_1 (pc' := 52) rfl ?_
      refine mm_istore_n dX8_read_52 rfl (by decide) (l' := [(3, .int (1 : Int32)), (2, .int (0 : Int32)), (0, .ref 0)]) rfl (pc' := 53) rfl ?_
      refine mm_aload_n 2 dX8_read_53 rfl rfl (pc' := 54) rfl ?_
      refine mm_iconst dX8_read_54 ki_0 (pc' := 55) rfl ?_
      refine mm_putf fP_X8_127 dX8_read_55 rfl (Nat.le_of_ble_eq_true rfl) (fun _ => rfl) (fun _ => rfl) (ws' := (W_X8 q_textSize (0 : Int32) q_start q_token q_number q_word q_fault q_line q_foundPains q_foundLine q_deadMany q_deadSize q_deadLeast q_deadMost t46 q_before q_kept q_isKept q_refused q_text q_ones q_said q_readTable q_least q_made q_enough q_isWanted q_column q_foundColumn q_walls q_wallMany q_chosen)) rfl (pc' := 58) rfl ?_
      refine mm_aload_n 2 dX8_read_58 rfl rfl (pc' := 59) rfl ?_
      obtain ⟨t59, h59, h⟩ := mm_bd h
      refine mm_call0 (As := []) (rest := []) cV_X8_168 (ok_X8_next h59) ⟨rfl, rfl, Nat.le_of_ble_eq_true rfl, Nat.le_of_ble_eq_true rfl⟩ dX8_read_59 rfl rfl rfl rfl (by rintro _ _ ⟨-, rfl⟩; rfl) (Nat.le_of_ble_eq_true rfl) ⟨Nat.le_of_ble_eq_true rfl, Nat.le_of_ble_eq_true rfl⟩ (pc' := 62) rfl ?_
      rintro rv w ⟨rfl, rfl⟩
      show mm_Wp _ _ _ _ 62 [(3, .int (1 : Int32)), (2, .int (0 : Int32)), (0, .ref 0)] [] (W_X8 q_textSize t59.1 t59.2.1 t59.2.2.1 t59.2.2.2.1 t59.2.2.2.2 q_fault q_line q_foundPains q_foundLine q_deadMany q_deadSize q_deadLeast q_deadMost t46 q_before q_kept q_isKept q_refused q_text q_ones q_said q_readTable q_least q_made q_enough q_isWanted q_column q_foundColumn q_walls q_wallMany q_chosen)
      clear h59
      exact mm_sub [2, 1, 0] rfl (s_X8_read_L62  _ _ _ _ _ _ _ _ _ _ _ h)
    · replace h := mm_if h c
      clear c
      refine mm_aload_n 0 dX8_read_24 rfl rfl (pc' := 25) rfl ?_
      refine mm_getf fG_X8_13 dX8_read_25 rfl rfl (pc' := 28) rfl ?_
      refine mm_iload_n 1 dX8_read_28 rfl rfl (pc' := 29) rfl ?_
      refine mm_aload_n 0 dX8_read_29 rfl rfl (pc' := 30) rfl ?_
      refine mm_getf fG_X8_7 dX8_read_30 rfl rfl (pc' := 33) rfl ?_
      refine mm_iload_n 1 dX8_read_33 rfl rfl (pc' := 34) rfl ?_
      obtain ⟨x34, c34, e34, h⟩ := mm_rd_of h
      refine mm_iald dX8_read_34 rfl c34 e34 (pc' := 35) rfl ?_
      clear c34 e34
      obtain ⟨c35, h⟩ := mm_ck_of h
      refine mm_iast dX8_read_35 rfl c35 rfl (ws' := (W_X8 q_textSize q_cursor q_start q_token q_number q_word q_fault q_line q_foundPains q_foundLine q_deadMany q_deadSize q_deadLeast q_deadMost q_st (upd q_before v2.toNatClampNeg x34) q_kept q_isKept q_refused q_text q_ones q_said q_readTable q_least q_made q_enough q_isWanted q_column q_foundColumn q_walls q_wallMany q_chosen)) rfl (pc' := 36) rfl ?_
      clear c35
      refine mm_iinc 1 dX8_read_36 rfl ki_1 (by decide) (l' := [(2, .int (v2 + (1 : Int32))), (0, .ref 0)]) rfl (pc' := 39) rfl ?_
      refine mm_goto (tgt := 17) dX8_read_39 (by decide) ?_
      exact mm_sub [1, 0] rfl (hr17 _ _ h)
def f_X8_read (fu : Nat) (q_textSize : Int32) (q_cursor : Int32) (q_start : Int32) (q_token : Int32) (q_number : Int32) (q_word : Int64) (q_fault : Int32) (q_st : Nat → Int32) (q_before : Nat → Int32) (q_text : Nat → Int32) (q_said : Nat → Int32) : Option (Int32 × Int32 × Int32 × Int32 × Int32 × Int64 × Int32 × (Nat → Int32) × (Nat → Int32) × (Nat → Int32)) := (f_X8_findFault fu q_textSize q_cursor q_start q_token q_number q_word q_fault q_text q_said).bind fun t1 => if t1.1 = (-1 : Int32) then (X8_read_L17 fu q_textSize t1.2.1 t1.2.2.1 t1.2.2.2.1 t1.2.2.2.2.1 t1.2.2.2.2.2.1 t1.2.2.2.2.2.2.1 q_st q_text t1.2.2.2.2.2.2.2 fu q_before (0 : Int32)) else (some (((-10 : Int32) - t1.1), t1.2.1, t1.2.2.1, t1.2.2.2.1, t1.2.2.2.2.1, t1.2.2.2.2.2.1, t1.2.2.2.2.2.2.1, q_st, q_before, t1.2.2.2.2.2.2.2))
set_option maxHeartbeats 4000000 in
set_option maxRecDepth 100000 in
theorem ok_X8_read {fu : Nat} {q_textSize : Int32} {q_cursor : Int32} {q_start : Int32} {q_token : Int32} {q_number : Int32} {q_word : Int64} {q_fault : Int32} {q_line : Int32} {q_foundPains : Int32} {q_foundLine : Int32} {q_deadMany : Int32} {q_deadSize : Int32} {q_deadLeast : Int32} {q_deadMost : Int32} {q_st : Nat → Int32} {q_before : Nat → Int32} {q_kept : Nat → Int32} {q_isKept : Nat → Int32} {q_refused : Nat → Int32} {q_text : Nat → Int32} {q_ones : Nat → Int32} {q_said : Nat → Int32} {q_readTable : Nat → Int32} {q_least : Nat → Int32} {q_made : Nat → Int32} {q_enough : Nat → Int32} {q_isWanted : Nat → Int32} {q_column : Nat → Int32} {q_foundColumn : Nat → Int32} {q_walls : Nat → Int64} {q_wallMany : Nat → Int32} {q_chosen : Nat → Int32} {r : Int32 × Int32 × Int32 × Int32 × Int32 × Int64 × Int32 × (Nat → Int32) × (Nat → Int32) × (Nat → Int32)} (h : f_X8_read fu q_textSize q_cursor q_start q_token q_number q_word q_fault q_st q_before q_text q_said = some r) : mm_Ok mX8_read [.ref 0] (W_X8 q_textSize q_cursor q_start q_token q_number q_word q_fault q_line q_foundPains q_foundLine q_deadMany q_deadSize q_deadLeast q_deadMost q_st q_before q_kept q_isKept q_refused q_text q_ones q_said q_readTable q_least q_made q_enough q_isWanted q_column q_foundColumn q_walls q_wallMany q_chosen) (P_X8_read q_textSize q_line q_foundPains q_foundLine q_deadMany q_deadSize q_deadLeast q_deadMost q_kept q_isKept q_refused q_text q_ones q_readTable q_least q_made q_enough q_isWanted q_column q_foundColumn q_walls q_wallMany q_chosen r) := by
  rw [f_X8_read] at h
  refine mm_Ok.of pn_X8 (l := [(0, .ref 0)]) rfl (Nat.le_of_ble_eq_true rfl) ?_
  refine mm_aload_n 0 dX8_read_0 rfl rfl (pc' := 1) rfl ?_
  obtain ⟨t1, h1, h⟩ := mm_bd h
  refine mm_call0 (As := []) (rest := []) cV_X8_174 (ok_X8_findFault h1) ⟨rfl, rfl, Nat.le_of_ble_eq_true rfl, Nat.le_of_ble_eq_true rfl⟩ dX8_read_1 rfl rfl rfl rfl (by rintro _ _ ⟨-, rfl⟩; rfl) (Nat.le_of_ble_eq_true rfl) ⟨Nat.le_of_ble_eq_true rfl, Nat.le_of_ble_eq_true rfl⟩ (pc' := 4) rfl ?_
  rintro rv w ⟨rfl, rfl⟩
  show mm_Wp _ _ _ _ 4 [(0, .ref 0)] [.int t1.1] (W_X8 q_textSize t1.2.1 t1.2.2.1 t1.2.2.2.1 t1.2.2.2.2.1 t1.2.2.2.2.2.1 t1.2.2.2.2.2.2.1 q_line q_foundPains q_foundLine q_deadMany q_deadSize q_deadLeast q_deadMost q_st q_before q_kept q_isKept q_refused q_text q_ones t1.2.2.2.2.2.2.2 q_readTable q_least q_made q_enough q_isWanted q_column q_foundColumn q_walls q_wallMany q_chosen)
  clear h1
  refine mm_istore_n dX8_read_4 rfl (by decide) (l' := [(1, .int t1.1), (0, .ref 0)]) rfl (pc' := 5) rfl ?_
  refine mm_iload_n 0 dX8_read_5 rfl rfl (pc' := 6) rfl ?_
  refine mm_iconst dX8_read_6 ki_m1 (pc' := 7) rfl ?_
  refine mm_icmp_eq (tgt := 15) dX8_read_7 (by decide) (pc' := 10) rfl (fun c => ?_) (fun c => ?_)
  · replace h := mm_it h c
    clear c
    refine mm_iconst dX8_read_15 ki_0 (pc' := 16) rfl ?_
    refine mm_istore_n dX8_read_16 rfl (by decide) (l' := [(2, .int (0 : Int32)), (1, .int t1.1), (0, .ref 0)]) rfl (pc' := 17) rfl ?_
    exact mm_sub [2, 0] rfl (s_X8_read_L17  _ _ _ h)
  · replace h := mm_if h c
    clear c
    refine mm_bipush dX8_read_10 kb_m10 (pc' := 12) rfl ?_
    refine mm_iload_n 0 dX8_read_12 rfl rfl (pc' := 13) rfl ?_
    refine mm_isub dX8_read_13 (pc' := 14) rfl ?_
    have h9 := Option.some.inj h
    subst h9
    exact mm_iret rfl dX8_read_14 ⟨rfl, rfl⟩

def P_X8_readAs (q_textSize : Int32) (q_cursor : Int32) (q_start : Int32) (q_token : Int32) (q_number : Int32) (q_word : Int64) (q_fault : Int32) (q_line : Int32) (q_foundPains : Int32) (q_foundLine : Int32) (q_deadMany : Int32) (q_deadSize : Int32) (q_deadLeast : Int32) (q_deadMost : Int32) (q_st : Nat → Int32) (q_before : Nat → Int32) (q_kept : Nat → Int32) (q_isKept : Nat → Int32) (q_refused : Nat → Int32) (q_text : Nat → Int32) (q_ones : Nat → Int32) (q_said : Nat → Int32) (q_readTable : Nat → Int32) (q_least : Nat → Int32) (q_made : Nat → Int32) (q_enough : Nat → Int32) (q_isWanted : Nat → Int32) (q_column : Nat → Int32) (q_foundColumn : Nat → Int32) (q_walls : Nat → Int64) (q_wallMany : Nat → Int32) (q_chosen : Nat → Int32) (r : Int32) : Option Value → mm_W → Prop := fun rv w => rv = some (.int r) ∧ w = (W_X8 q_textSize q_cursor q_start q_token q_number q_word q_fault q_line q_foundPains q_foundLine q_deadMany q_deadSize q_deadLeast q_deadMost q_st q_before q_kept q_isKept q_refused q_text q_ones q_said q_readTable q_least q_made q_enough q_isWanted q_column q_foundColumn q_walls q_wallMany q_chosen)
def X8_readAs_J79 (fu : Nat) (rec14 : Int32 → Int32 → Int32 → Option (Int32)) (q_st : Nat → Int32) (q_ones : Nat → Int32) (v1 : Int32) (v3 : Int32) (v4 : Int32) (s0 : Int32) : Option (Int32) := rec14 s0 v3 (v4 + (1 : Int32))
set_option maxHeartbeats 4000000 in
set_option maxRecDepth 100000 in
theorem s_X8_readAs_J79 {fu : Nat} {q_textSize : Int32} {q_cursor : Int32} {q_start : Int32} {q_token : Int32} {q_number : Int32} {q_word : Int64} {q_fault : Int32} {q_line : Int32} {q_foundPains : Int32} {q_foundLine : Int32} {q_deadMany : Int32} {q_deadSize : Int32} {q_deadLeast : Int32} {q_deadMost : Int32} {q_st : Nat → Int32} {q_before : Nat → Int32} {q_kept : Nat → Int32} {q_isKept : Nat → Int32} {q_refused : Nat → Int32} {q_text : Nat → Int32} {q_ones : Nat → Int32} {q_said : Nat → Int32} {q_readTable : Nat → Int32} {q_least : Nat → Int32} {q_made : Nat → Int32} {q_enough : Nat → Int32} {q_isWanted : Nat → Int32} {q_column : Nat → Int32} {q_foundColumn : Nat → Int32} {q_walls : Nat → Int64} {q_wallMany : Nat → Int32} {q_chosen : Nat → Int32} {r : Int32} {rec14 : Int32 → Int32 → Int32 → Option (Int32)} {v1 : Int32} {v3 : Int32} {v4 : Int32} {s0 : Int32} (hr14 : ∀ (y2 : Int32) (y3 : Int32) (y4 : Int32), rec14 y2 y3 y4 = some r → mm_Wp mX8_readAs (mm_R (P_X8_readAs q_textSize q_cursor q_start q_token q_number q_word q_fault q_line q_foundPains q_foundLine q_deadMany q_deadSize q_deadLeast q_deadMost q_st q_before q_kept q_isKept q_refused q_text q_ones q_said q_readTable q_least q_made q_enough q_isWanted q_column q_foundColumn q_walls q_wallMany q_chosen r)) 0 0 14 [(0, .ref 0), (1, .int v1), (2, .int y2), (3, .int y3), (4, .int y4)] [] (W_X8 q_textSize q_cursor q_start q_token q_number q_word q_fault q_line q_foundPains q_foundLine q_deadMany q_deadSize q_deadLeast q_deadMost q_st q_before q_kept q_isKept q_refused q_text q_ones q_said q_readTable q_least q_made q_enough q_isWanted q_column q_foundColumn q_walls q_wallMany q_chosen)) (h : X8_readAs_J79 fu rec14 q_st q_ones v1 v3 v4 s0 = some r) : mm_Wp mX8_readAs (mm_R (P_X8_readAs q_textSize q_cursor q_start q_token q_number q_word q_fault q_line q_foundPains q_foundLine q_deadMany q_deadSize q_deadLeast q_deadMost q_st q_before q_kept q_isKept q_refused q_text q_ones q_said q_readTable q_least q_made q_enough q_isWanted q_column q_foundColumn q_walls q_wallMany q_chosen r)) 0 0 79 [(0, .ref 0), (1, .int v1), (3, .int v3), (4, .int v4)] [.int s0] (W_X8 q_textSize q_cursor q_start q_token q_number q_word q_fault q_line q_foundPains q_foundLine q_deadMany q_deadSize q_deadLeast q_deadMost q_st q_before q_kept q_isKept q_refused q_text q_ones q_said q_readTable q_least q_made q_enough q_isWanted q_column q_foundColumn q_walls q_wallMany q_chosen) := by
  rw [X8_readAs_J79] at h
  refine mm_istore_n dX8_readAs_79 rfl (by decide) (l' := [(2, .int s0), (0, .ref 0), (1, .int v1), (3, .int v3), (4, .int v4)]) rfl (pc' := 80) rfl ?_
  refine mm_iinc 4 dX8_readAs_80 rfl ki_1 (by decide) (l' := [(4, .int (v4 + (1 : Int32))), (2, .int s0), (0, .ref 0), (1, .int v1), (3, .int v3)]) rfl (pc' := 83) rfl ?_
  refine mm_goto (tgt := 14) dX8_readAs_83 (by decide) ?_
  exact mm_sub [2, 3, 1, 4, 0] rfl (hr14 _ _ _ h)
def X8_readAs_J66 (fu : Nat) (rec14 : Int32 → Int32 → Int32 → Option (Int32)) (q_st : Nat → Int32) (q_ones : Nat → Int32) (v1 : Int32) (v2 : Int32) (v4 : Int32) (v5 : Int32) (s0 : Int32) : Option (Int32) := if v2 ≤ v5 then (X8_readAs_J79 fu rec14 q_st q_ones v1 s0 v4 v2) else (X8_readAs_J79 fu rec14 q_st q_ones v1 s0 v4 v5)
set_option maxHeartbeats 4000000 in
set_option maxRecDepth 100000 in
theorem s_X8_readAs_J66 {fu : Nat} {q_textSize : Int32} {q_cursor : Int32} {q_start : Int32} {q_token : Int32} {q_number : Int32} {q_word : Int64} {q_fault : Int32} {q_line : Int32} {q_foundPains : Int32} {q_foundLine : Int32} {q_deadMany : Int32} {q_deadSize : Int32} {q_deadLeast : Int32} {q_deadMost : Int32} {q_st : Nat → Int32} {q_before : Nat → Int32} {q_kept : Nat → Int32} {q_isKept : Nat → Int32} {q_refused : Nat → Int32} {q_text : Nat → Int32} {q_ones : Nat → Int32} {q_said : Nat → Int32} {q_readTable : Nat → Int32} {q_least : Nat → Int32} {q_made : Nat → Int32} {q_enough : Nat → Int32} {q_isWanted : Nat → Int32} {q_column : Nat → Int32} {q_foundColumn : Nat → Int32} {q_walls : Nat → Int64} {q_wallMany : Nat → Int32} {q_chosen : Nat → Int32} {r : Int32} {rec14 : Int32 → Int32 → Int32 → Option (Int32)} {v1 : Int32} {v2 : Int32} {v4 : Int32} {v5 : Int32} {s0 : Int32} (hr14 : ∀ (y2 : Int32) (y3 : Int32) (y4 : Int32), rec14 y2 y3 y4 = some r → mm_Wp mX8_readAs (mm_R (P_X8_readAs q_textSize q_cursor q_start q_token q_number q_word q_fault q_line q_foundPains q_foundLine q_deadMany q_deadSize q_deadLeast q_deadMost q_st q_before q_kept q_isKept q_refused q_text q_ones q_said q_readTable q_least q_made q_enough q_isWanted q_column q_foundColumn q_walls q_wallMany q_chosen r)) 0 0 14 [(0, .ref 0), (1, .int v1), (2, .int y2), (3, .int y3), (4, .int y4)] [] (W_X8 q_textSize q_cursor q_start q_token q_number q_word q_fault q_line q_foundPains q_foundLine q_deadMany q_deadSize q_deadLeast q_deadMost q_st q_before q_kept q_isKept q_refused q_text q_ones q_said q_readTable q_least q_made q_enough q_isWanted q_column q_foundColumn q_walls q_wallMany q_chosen)) (h : X8_readAs_J66 fu rec14 q_st q_ones v1 v2 v4 v5 s0 = some r) : mm_Wp mX8_readAs (mm_R (P_X8_readAs q_textSize q_cursor q_start q_token q_number q_word q_fault q_line q_foundPains q_foundLine q_deadMany q_deadSize q_deadLeast q_deadMost q_st q_before q_kept q_isKept q_refused q_text q_ones q_said q_readTable q_least q_made q_enough q_isWanted q_column q_foundColumn q_walls q_wallMany q_chosen r)) 0 0 66 [(0, .ref 0), (1, .int v1), (2, .int v2), (4, .int v4), (5, .int v5)] [.int s0] (W_X8 q_textSize q_cursor q_start q_token q_number q_word q_fault q_line q_foundPains q_foundLine q_deadMany q_deadSize q_deadLeast q_deadMost q_st q_before q_kept q_isKept q_refused q_text q_ones q_said q_readTable q_least q_made q_enough q_isWanted q_column q_foundColumn q_walls q_wallMany q_chosen) := by
  rw [X8_readAs_J66] at h
  refine mm_istore_n dX8_readAs_66 rfl (by decide) (l' := [(3, .int s0), (0, .ref 0), (1, .int v1), (2, .int v2), (4, .int v4), (5, .int v5)]) rfl (pc' := 67) rfl ?_
  refine mm_iload 5 dX8_readAs_67 rfl (pc' := 69) rfl ?_
  refine mm_iload_n 3 dX8_readAs_69 rfl rfl (pc' := 70) rfl ?_
  refine mm_icmp_ge (tgt := 78) dX8_readAs_70 (by decide) (pc' := 73) rfl (fun c => ?_) (fun c => ?_)
  · replace h := mm_it h c
    clear c
    refine mm_iload_n 3 dX8_readAs_78 rfl rfl (pc' := 79) rfl ?_
    exact mm_sub [1, 2, 0, 4] rfl (s_X8_readAs_J79 (hr14 := hr14) h)
  · replace h := mm_if h c
    clear c
    refine mm_iload 5 dX8_readAs_73 rfl (pc' := 75) rfl ?_
    refine mm_goto (tgt := 79) dX8_readAs_75 (by decide) ?_
    exact mm_sub [1, 2, 0, 4] rfl (s_X8_readAs_J79 (hr14 := hr14) h)
def X8_readAs_L14 (fu : Nat)  (q_st : Nat → Int32) (q_ones : Nat → Int32) (v1 : Int32) : Nat → Int32 → Int32 → Int32 → Option (Int32)
  | 0, _, _, _ => none
  | n + 1, v2, v3, v4 => if (q_st 3) ≤ v4 then (some (v3)) else (mm_rd q_st 354 ((30 : Int32) + v4) fun x39 => mm_rd q_ones 4096 (v1 ^^^ x39) fun x41 => if v2 ≤ x41 then (if x41 = v2 then (X8_readAs_J66 fu (X8_readAs_L14 fu q_st q_ones v1 n) q_st q_ones v1 v2 v4 x41 (-1 : Int32)) else (X8_readAs_J66 fu (X8_readAs_L14 fu q_st q_ones v1 n) q_st q_ones v1 v2 v4 x41 v3)) else (X8_readAs_J66 fu (X8_readAs_L14 fu q_st q_ones v1 n) q_st q_ones v1 v2 v4 x41 v4))
set_option maxHeartbeats 4000000 in
set_option maxRecDepth 100000 in
theorem s_X8_readAs_L14 {fu : Nat} {q_textSize : Int32} {q_cursor : Int32} {q_start : Int32} {q_token : Int32} {q_number : Int32} {q_word : Int64} {q_fault : Int32} {q_line : Int32} {q_foundPains : Int32} {q_foundLine : Int32} {q_deadMany : Int32} {q_deadSize : Int32} {q_deadLeast : Int32} {q_deadMost : Int32} {q_st : Nat → Int32} {q_before : Nat → Int32} {q_kept : Nat → Int32} {q_isKept : Nat → Int32} {q_refused : Nat → Int32} {q_text : Nat → Int32} {q_ones : Nat → Int32} {q_said : Nat → Int32} {q_readTable : Nat → Int32} {q_least : Nat → Int32} {q_made : Nat → Int32} {q_enough : Nat → Int32} {q_isWanted : Nat → Int32} {q_column : Nat → Int32} {q_foundColumn : Nat → Int32} {q_walls : Nat → Int64} {q_wallMany : Nat → Int32} {q_chosen : Nat → Int32} {r : Int32} {v1 : Int32} : ∀ (n : Nat) (v2 : Int32) (v3 : Int32) (v4 : Int32), X8_readAs_L14 fu q_st q_ones v1 n v2 v3 v4 = some r → mm_Wp mX8_readAs (mm_R (P_X8_readAs q_textSize q_cursor q_start q_token q_number q_word q_fault q_line q_foundPains q_foundLine q_deadMany q_deadSize q_deadLeast q_deadMost q_st q_before q_kept q_isKept q_refused q_text q_ones q_said q_readTable q_least q_made q_enough q_isWanted q_column q_foundColumn q_walls q_wallMany q_chosen r)) 0 0 14 [(0, .ref 0), (1, .int v1), (2, .int v2), (3, .int v3), (4, .int v4)] [] (W_X8 q_textSize q_cursor q_start q_token q_number q_word q_fault q_line q_foundPains q_foundLine q_deadMany q_deadSize q_deadLeast q_deadMost q_st q_before q_kept q_isKept q_refused q_text q_ones q_said q_readTable q_least q_made q_enough q_isWanted q_column q_foundColumn q_walls q_wallMany q_chosen) := by
  intro n
  induction n with
  | zero =>
    intro v2 v3 v4 h
    rw [X8_readAs_L14] at h
    cases h
  | succ n hr14 =>
    intro v2 v3 v4 h
    rw [X8_readAs_L14] at h
    refine mm_iload 4 dX8_readAs_14 rfl (pc' := 16) rfl ?_
    refine mm_aload_n 0 dX8_readAs_16 rfl rfl (pc' := 17) rfl ?_
    refine mm_getf fG_X8_7 dX8_readAs_17 rfl rfl (pc' := 20) rfl ?_
    refine mm_iconst dX8_readAs_20 ki_3 (pc' := 21) rfl ?_
    refine mm_iald dX8_readAs_21 rfl ki_3_354 (congrArg _ kt_3) (pc' := 22) rfl ?_
    refine mm_icmp_ge (tgt := 86) dX8_readAs_22 (by decide) (pc' := 25) rfl (fun c => ?_) (fun c => ?_)
    · replace h := mm_it h c
      clear c
      refine mm_iload_n 3 dX8_readAs_86 rfl rfl (pc' := 87) rfl ?_
      have h9 := Option.some.inj h
      subst h9
      exact mm_iret rfl dX8_readAs_87 ⟨rfl, rfl⟩
    · replace h := mm_if h c
      clear c
      refine mm_aload_n 0 dX8_readAs_25 rfl rfl (pc' := 26) rfl ?_
      refine mm_getf fG_X8_29 dX8_readAs_26 rfl rfl (pc' := 29) rfl ?_
      refine mm_iload_n 1 dX8_readAs_29 rfl rfl (pc' := 30) rfl ?_
      refine mm_aload_n 0 dX8_readAs_30 rfl rfl (pc' := 31) rfl ?_
      refine mm_getf fG_X8_7 dX8_readAs_31 rfl rfl (pc' := 34) rfl ?_
      refine mm_bipush dX8_readAs_34 kb_30 (pc' := 36) rfl ?_
      refine mm_iload 4 dX8_readAs_36 rfl (pc' := 38) rfl ?_
      refine mm_iadd dX8_readAs_38 (pc' := 39) rfl ?_
      obtain ⟨x39, c39, e39, h⟩ := mm_rd_of h
      refine mm_iald dX8_readAs_39 rfl c39 e39 (pc' := 40) rfl ?_
      clear c39 e39
      refine mm_ixor dX8_readAs_40 (pc' := 41) rfl ?_
      obtain ⟨x41, c41, e41, h⟩ := mm_rd_of h
      refine mm_iald dX8_readAs_41 rfl c41 e41 (pc' := 42) rfl ?_
      clear c41 e41
      refine mm_istore dX8_readAs_42 (by decide) (l' := [(5, .int x41), (0, .ref 0), (1, .int v1), (2, .int v2), (3, .int v3), (4, .int v4)]) rfl (pc' := 44) rfl ?_
      refine mm_iload 0 dX8_readAs_44 rfl (pc' := 46) rfl ?_
      refine mm_iload_n 3 dX8_readAs_46 rfl rfl (pc' := 47) rfl ?_
      refine mm_icmp_ge (tgt := 55) dX8_readAs_47 (by decide) (pc' := 50) rfl (fun c => ?_) (fun c => ?_)
      · replace h := mm_it h c
        clear c
        refine mm_iload 0 dX8_readAs_55 rfl (pc' := 57) rfl ?_
        refine mm_iload_n 3 dX8_readAs_57 rfl rfl (pc' := 58) rfl ?_
        refine mm_icmp_ne (tgt := 65) dX8_readAs_58 (by decide) (pc' := 61) rfl (fun c => ?_) (fun c => ?_)
        · replace h := mm_if h c
          clear c
          refine mm_iload_n 4 dX8_readAs_65 rfl rfl (pc' := 66) rfl ?_
          exact mm_sub [1, 2, 3, 5, 0] rfl (s_X8_readAs_J66 (hr14 := hr14) h)
        · replace h := mm_it h c
          clear c
          refine mm_iconst dX8_readAs_61 ki_m1 (pc' := 62) rfl ?_
          refine mm_goto (tgt := 66) dX8_readAs_62 (by decide) ?_
          exact mm_sub [1, 2, 3, 5, 0] rfl (s_X8_readAs_J66 (hr14 := hr14) h)
      · replace h := mm_if h c
        clear c
        refine mm_iload 5 dX8_readAs_50 rfl (pc' := 52) rfl ?_
        refine mm_goto (tgt := 66) dX8_readAs_52 (by decide) ?_
        exact mm_sub [1, 2, 3, 5, 0] rfl (s_X8_readAs_J66 (hr14 := hr14) h)
def f_X8_readAs (fu : Nat) (q_st : Nat → Int32) (q_ones : Nat → Int32) (v1 : Int32) : Option (Int32) := X8_readAs_L14 fu q_st q_ones v1 fu ((q_st 5) + (1 : Int32)) (-1 : Int32) (0 : Int32)
set_option maxHeartbeats 4000000 in
set_option maxRecDepth 100000 in
theorem ok_X8_readAs {fu : Nat} {q_textSize : Int32} {q_cursor : Int32} {q_start : Int32} {q_token : Int32} {q_number : Int32} {q_word : Int64} {q_fault : Int32} {q_line : Int32} {q_foundPains : Int32} {q_foundLine : Int32} {q_deadMany : Int32} {q_deadSize : Int32} {q_deadLeast : Int32} {q_deadMost : Int32} {q_st : Nat → Int32} {q_before : Nat → Int32} {q_kept : Nat → Int32} {q_isKept : Nat → Int32} {q_refused : Nat → Int32} {q_text : Nat → Int32} {q_ones : Nat → Int32} {q_said : Nat → Int32} {q_readTable : Nat → Int32} {q_least : Nat → Int32} {q_made : Nat → Int32} {q_enough : Nat → Int32} {q_isWanted : Nat → Int32} {q_column : Nat → Int32} {q_foundColumn : Nat → Int32} {q_walls : Nat → Int64} {q_wallMany : Nat → Int32} {q_chosen : Nat → Int32} {r : Int32} {v1 : Int32} (h : f_X8_readAs fu q_st q_ones v1 = some r) : mm_Ok mX8_readAs [.ref 0, .int v1] (W_X8 q_textSize q_cursor q_start q_token q_number q_word q_fault q_line q_foundPains q_foundLine q_deadMany q_deadSize q_deadLeast q_deadMost q_st q_before q_kept q_isKept q_refused q_text q_ones q_said q_readTable q_least q_made q_enough q_isWanted q_column q_foundColumn q_walls q_wallMany q_chosen) (P_X8_readAs q_textSize q_cursor q_start q_token q_number q_word q_fault q_line q_foundPains q_foundLine q_deadMany q_deadSize q_deadLeast q_deadMost q_st q_before q_kept q_isKept q_refused q_text q_ones q_said q_readTable q_least q_made q_enough q_isWanted q_column q_foundColumn q_walls q_wallMany q_chosen r) := by
  rw [f_X8_readAs] at h
  refine mm_Ok.of pn_X8 (l := [(0, .ref 0), (1, .int v1)]) rfl (Nat.le_of_ble_eq_true rfl) ?_
  refine mm_aload_n 0 dX8_readAs_0 rfl rfl (pc' := 1) rfl ?_
  refine mm_getf fG_X8_7 dX8_readAs_1 rfl rfl (pc' := 4) rfl ?_
  refine mm_iconst dX8_readAs_4 ki_5 (pc' := 5) rfl ?_
  refine mm_iald dX8_readAs_5 rfl ki_5_354 (congrArg _ kt_5) (pc' := 6) rfl ?_
  refine mm_iconst dX8_readAs_6 ki_1 (pc' := 7) rfl ?_
  refine mm_iadd dX8_readAs_7 (pc' := 8) rfl ?_
  refine mm_istore_n dX8_readAs_8 rfl (by decide) (l' := [(2, .int ((q_st 5) + (1 : Int32))), (0, .ref 0), (1, .int v1)]) rfl (pc' := 9) rfl ?_
  refine mm_iconst dX8_readAs_9 ki_m1 (pc' := 10) rfl ?_
  refine mm_istore_n dX8_readAs_10 rfl (by decide) (l' := [(3, .int (-1 : Int32)), (2, .int ((q_st 5) + (1 : Int32))), (0, .ref 0), (1, .int v1)]) rfl (pc' := 11) rfl ?_
  refine mm_iconst dX8_readAs_11 ki_0 (pc' := 12) rfl ?_
  refine mm_istore dX8_readAs_12 (by decide) (l' := [(4, .int (0 : Int32)), (3, .int (-1 : Int32)), (2, .int ((q_st 5) + (1 : Int32))), (0, .ref 0), (1, .int v1)]) rfl (pc' := 14) rfl ?_
  exact mm_sub [3, 4, 2, 1, 0] rfl (s_X8_readAs_L14  _ _ _ _ h)

def P_X8_findReads (q_textSize : Int32) (q_cursor : Int32) (q_start : Int32) (q_token : Int32) (q_number : Int32) (q_word : Int64) (q_fault : Int32) (q_line : Int32) (q_foundPains : Int32) (q_foundLine : Int32) (q_deadMany : Int32) (q_deadSize : Int32) (q_deadLeast : Int32) (q_deadMost : Int32) (q_st : Nat → Int32) (q_before : Nat → Int32) (q_kept : Nat → Int32) (q_isKept : Nat → Int32) (q_refused : Nat → Int32) (q_text : Nat → Int32) (q_ones : Nat → Int32) (q_said : Nat → Int32) (q_least : Nat → Int32) (q_made : Nat → Int32) (q_enough : Nat → Int32) (q_isWanted : Nat → Int32) (q_column : Nat → Int32) (q_foundColumn : Nat → Int32) (q_walls : Nat → Int64) (q_wallMany : Nat → Int32) (q_chosen : Nat → Int32) (r : (Nat → Int32)) : Option Value → mm_W → Prop := fun rv w => rv = none ∧ w = (W_X8 q_textSize q_cursor q_start q_token q_number q_word q_fault q_line q_foundPains q_foundLine q_deadMany q_deadSize q_deadLeast q_deadMost q_st q_before q_kept q_isKept q_refused q_text q_ones q_said r q_least q_made q_enough q_isWanted q_column q_foundColumn q_walls q_wallMany q_chosen)
def X8_findReads_L2 (fu : Nat)  (q_st : Nat → Int32) (q_ones : Nat → Int32)  : Nat → (Nat → Int32) → Int32 → Option ((Nat → Int32))
  | 0, _, _ => none
  | n + 1, q_readTable, v1 => if (4096 : Int32) ≤ v1 then (some (q_readTable)) else ((f_X8_readAs fu q_st q_ones v1).bind fun t16 => mm_ck 4096 v1 ((X8_findReads_L2 fu q_st q_ones n) (upd q_readTable v1.toNatClampNeg t16) (v1 + (1 : Int32))))
set_option maxHeartbeats 4000000 in
set_option maxRecDepth 100000 in
theorem s_X8_findReads_L2 {fu : Nat} {q_textSize : Int32} {q_cursor : Int32} {q_start : Int32} {q_token : Int32} {q_number : Int32} {q_word : Int64} {q_fault : Int32} {q_line : Int32} {q_foundPains : Int32} {q_foundLine : Int32} {q_deadMany : Int32} {q_deadSize : Int32} {q_deadLeast : Int32} {q_deadMost : Int32} {q_st : Nat → Int32} {q_before : Nat → Int32} {q_kept : Nat → Int32} {q_isKept : Nat → Int32} {q_refused : Nat → Int32} {q_text : Nat → Int32} {q_ones : Nat → Int32} {q_said : Nat → Int32} {q_least : Nat → Int32} {q_made : Nat → Int32} {q_enough : Nat → Int32} {q_isWanted : Nat → Int32} {q_column : Nat → Int32} {q_foundColumn : Nat → Int32} {q_walls : Nat → Int64} {q_wallMany : Nat → Int32} {q_chosen : Nat → Int32} {r : (Nat → Int32)} : ∀ (n : Nat) (q_readTable : Nat → Int32) (v1 : Int32), X8_findReads_L2 fu q_st q_ones n q_readTable v1 = some r → mm_Wp mX8_findReads (mm_R (P_X8_findReads q_textSize q_cursor q_start q_token q_number q_word q_fault q_line q_foundPains q_foundLine q_deadMany q_deadSize q_deadLeast q_deadMost q_st q_before q_kept q_isKept q_refused q_text q_ones q_said q_least q_made q_enough q_isWanted q_column q_foundColumn q_walls q_wallMany q_chosen r)) 0 0 2 [(0, .ref 0), (1, .int v1)] [] (W_X8 q_textSize q_cursor q_start q_token q_number q_word q_fault q_line q_foundPains q_foundLine q_deadMany q_deadSize q_deadLeast q_deadMost q_st q_before q_kept q_isKept q_refused q_text q_ones q_said q_readTable q_least q_made q_enough q_isWanted q_column q_foundColumn q_walls q_wallMany q_chosen) := by
  intro n
  induction n with
  | zero =>
    intro q_readTable v1 h
    rw [X8_findReads_L2] at h
    cases h
  | succ n hr2 =>
    intro q_readTable v1 h
    rw [X8_findReads_L2] at h
    refine mm_iload_n 1 dX8_findReads_2 rfl rfl (pc' := 3) rfl ?_
    refine mm_sipush dX8_findReads_3 ks_4096 (pc' := 6) rfl ?_
    refine mm_icmp_ge (tgt := 26) dX8_findReads_6 (by decide) (pc' := 9) rfl (fun c => ?_) (fun c => ?_)
    · replace h := mm_it h c
      clear c
      have h9 := Option.some.inj h
      subst h9
      exact mm_vret rfl dX8_findReads_26 ⟨rfl, rfl⟩
    · replace h := mm_if h c
      clear c
      refine mm_aload_n 0 dX8_findReads_9 rfl rfl (pc' := 10) rfl ?_
      refine mm_getf fG_X8_35 dX8_findReads_10 rfl rfl (pc' := 13) rfl ?_
      refine mm_iload_n 1 dX8_findReads_13 rfl rfl (pc' := 14) rfl ?_
      refine mm_aload_n 0 dX8_findReads_14 rfl rfl (pc' := 15) rfl ?_
      refine mm_iload_n 1 dX8_findReads_15 rfl rfl (pc' := 16) rfl ?_
      obtain ⟨t16, h16, h⟩ := mm_bd h
      refine mm_call0 (As := [.int v1]) (rest := [.int v1, .ref 9]) cV_X8_180 (ok_X8_readAs h16) ⟨rfl, rfl, Nat.le_of_ble_eq_true rfl, Nat.le_of_ble_eq_true rfl⟩ dX8_findReads_16 rfl rfl rfl rfl (by rintro _ _ ⟨-, rfl⟩; rfl) (Nat.le_of_ble_eq_true rfl) ⟨Nat.le_of_ble_eq_true rfl, Nat.le_of_ble_eq_true rfl⟩ (pc' := 19) rfl ?_
      rintro rv w ⟨rfl, rfl⟩
      show mm_Wp _ _ _ _ 19 [(0, .ref 0), (1, .int v1)] [.int t16, .int v1, .ref 9] (W_X8 q_textSize q_cursor q_start q_token q_number q_word q_fault q_line q_foundPains q_foundLine q_deadMany q_deadSize q_deadLeast q_deadMost q_st q_before q_kept q_isKept q_refused q_text q_ones q_said q_readTable q_least q_made q_enough q_isWanted q_column q_foundColumn q_walls q_wallMany q_chosen)
      clear h16
      obtain ⟨c19, h⟩ := mm_ck_of h
      refine mm_iast dX8_findReads_19 rfl c19 rfl (ws' := (W_X8 q_textSize q_cursor q_start q_token q_number q_word q_fault q_line q_foundPains q_foundLine q_deadMany q_deadSize q_deadLeast q_deadMost q_st q_before q_kept q_isKept q_refused q_text q_ones q_said (upd q_readTable v1.toNatClampNeg t16) q_least q_made q_enough q_isWanted q_column q_foundColumn q_walls q_wallMany q_chosen)) rfl (pc' := 20) rfl ?_
      clear c19
      refine mm_iinc 1 dX8_findReads_20 rfl ki_1 (by decide) (l' := [(1, .int (v1 + (1 : Int32))), (0, .ref 0)]) rfl (pc' := 23) rfl ?_
      refine mm_goto (tgt := 2) dX8_findReads_23 (by decide) ?_
      exact mm_sub [1, 0] rfl (hr2 _ _ h)
def f_X8_findReads (fu : Nat) (q_st : Nat → Int32) (q_ones : Nat → Int32) (q_readTable : Nat → Int32) : Option ((Nat → Int32)) := X8_findReads_L2 fu q_st q_ones fu q_readTable (0 : Int32)
set_option maxHeartbeats 4000000 in
set_option maxRecDepth 100000 in
theorem ok_X8_findReads {fu : Nat} {q_textSize : Int32} {q_cursor : Int32} {q_start : Int32} {q_token : Int32} {q_number : Int32} {q_word : Int64} {q_fault : Int32} {q_line : Int32} {q_foundPains : Int32} {q_foundLine : Int32} {q_deadMany : Int32} {q_deadSize : Int32} {q_deadLeast : Int32} {q_deadMost : Int32} {q_st : Nat → Int32} {q_before : Nat → Int32} {q_kept : Nat → Int32} {q_isKept : Nat → Int32} {q_refused : Nat → Int32} {q_text : Nat → Int32} {q_ones : Nat → Int32} {q_said : Nat → Int32} {q_readTable : Nat → Int32} {q_least : Nat → Int32} {q_made : Nat → Int32} {q_enough : Nat → Int32} {q_isWanted : Nat → Int32} {q_column : Nat → Int32} {q_foundColumn : Nat → Int32} {q_walls : Nat → Int64} {q_wallMany : Nat → Int32} {q_chosen : Nat → Int32} {r : (Nat → Int32)} (h : f_X8_findReads fu q_st q_ones q_readTable = some r) : mm_Ok mX8_findReads [.ref 0] (W_X8 q_textSize q_cursor q_start q_token q_number q_word q_fault q_line q_foundPains q_foundLine q_deadMany q_deadSize q_deadLeast q_deadMost q_st q_before q_kept q_isKept q_refused q_text q_ones q_said q_readTable q_least q_made q_enough q_isWanted q_column q_foundColumn q_walls q_wallMany q_chosen) (P_X8_findReads q_textSize q_cursor q_start q_token q_number q_word q_fault q_line q_foundPains q_foundLine q_deadMany q_deadSize q_deadLeast q_deadMost q_st q_before q_kept q_isKept q_refused q_text q_ones q_said q_least q_made q_enough q_isWanted q_column q_foundColumn q_walls q_wallMany q_chosen r) := by
  rw [f_X8_findReads] at h
  refine mm_Ok.of pn_X8 (l := [(0, .ref 0)]) rfl (Nat.le_of_ble_eq_true rfl) ?_
  refine mm_iconst dX8_findReads_0 ki_0 (pc' := 1) rfl ?_
  refine mm_istore_n dX8_findReads_1 rfl (by decide) (l' := [(1, .int (0 : Int32)), (0, .ref 0)]) rfl (pc' := 2) rfl ?_
  exact mm_sub [1, 0] rfl (s_X8_findReads_L2  _ _ _ h)

def P_X8_turned  (r : Int32) : Option Value → mm_W → Prop := fun rv w => rv = some (.int r) ∧ w = []
def X8_turned_L4 (fu : Nat)   (v0 : Int32) : Nat → Int32 → Int32 → Option (Int32)
  | 0, _, _ => none
  | n + 1, v1, v2 => if (12 : Int32) ≤ v2 then (some (v1)) else (mm_let (v1 ||| (((v0 >>> (v2 &&& 31)) &&& (1 : Int32)) <<< (((((3 : Int32) * (v2 / (3 : Int32))) + (2 : Int32)) - (v2 - v2 / (3 : Int32) * (3 : Int32))) &&& 31))) fun y29 => (X8_turned_L4 fu v0 n) y29 (v2 + (1 : Int32)))
set_option maxHeartbeats 4000000 in
set_option maxRecDepth 100000 in
theorem s_X8_turned_L4 {fu : Nat} {r : Int32} {v0 : Int32} : ∀ (n : Nat) (v1 : Int32) (v2 : Int32), X8_turned_L4 fu v0 n v1 v2 = some r → mm_Wp mX8_turned (mm_R (P_X8_turned r)) 0 0 4 [(0, .int v0), (1, .int v1), (2, .int v2)] [] [] := by
  intro n
  induction n with
  | zero =>
    intro v1 v2 h
    rw [X8_turned_L4] at h
    cases h
  | succ n hr4 =>
    intro v1 v2 h
    rw [X8_turned_L4] at h
    refine mm_iload_n 2 dX8_turned_4 rfl rfl (pc' := 5) rfl ?_
    refine mm_bipush dX8_turned_5 kb_12 (pc' := 7) rfl ?_
    refine mm_icmp_ge (tgt := 36) dX8_turned_7 (by decide) (pc' := 10) rfl (fun c => ?_) (fun c => ?_)
    · replace h := mm_it h c
      clear c
      refine mm_iload_n 1 dX8_turned_36 rfl rfl (pc' := 37) rfl ?_
      have h9 := Option.some.inj h
      subst h9
      exact mm_iret rfl dX8_turned_37 ⟨rfl, rfl⟩
    · replace h := mm_if h c
      clear c
      refine mm_iload_n 1 dX8_turned_10 rfl rfl (pc' := 11) rfl ?_
      refine mm_iload_n 0 dX8_turned_11 rfl rfl (pc' := 12) rfl ?_
      refine mm_iload_n 2 dX8_turned_12 rfl rfl (pc' := 13) rfl ?_
      refine mm_ishr dX8_turned_13 (pc' := 14) rfl ?_
      refine mm_iconst dX8_turned_14 ki_1 (pc' := 15) rfl ?_
      refine mm_iand dX8_turned_15 (pc' := 16) rfl ?_
      refine mm_iconst dX8_turned_16 ki_3 (pc' := 17) rfl ?_
      refine mm_iload_n 2 dX8_turned_17 rfl rfl (pc' := 18) rfl ?_
      refine mm_iconst dX8_turned_18 ki_3 (pc' := 19) rfl ?_
      refine mm_idiv dX8_turned_19 (by decide) (pc' := 20) rfl ?_
      refine mm_imul dX8_turned_20 (pc' := 21) rfl ?_
      refine mm_iconst dX8_turned_21 ki_2 (pc' := 22) rfl ?_
      refine mm_iadd dX8_turned_22 (pc' := 23) rfl ?_
      refine mm_iload_n 2 dX8_turned_23 rfl rfl (pc' := 24) rfl ?_
      refine mm_iconst dX8_turned_24 ki_3 (pc' := 25) rfl ?_
      refine mm_irem dX8_turned_25 (by decide) (pc' := 26) rfl ?_
      refine mm_isub dX8_turned_26 (pc' := 27) rfl ?_
      refine mm_ishl dX8_turned_27 (pc' := 28) rfl ?_
      refine mm_ior dX8_turned_28 (pc' := 29) rfl ?_
      refine mm_topi (fun y29 e => ?_)
      replace h := mm_let_of h y29 e
      clear e
      refine mm_istore_n dX8_turned_29 rfl (by decide) (l' := [(1, .int y29), (0, .int v0), (2, .int v2)]) rfl (pc' := 30) rfl ?_
      refine mm_iinc 2 dX8_turned_30 rfl ki_1 (by decide) (l' := [(2, .int (v2 + (1 : Int32))), (1, .int y29), (0, .int v0)]) rfl (pc' := 33) rfl ?_
      refine mm_goto (tgt := 4) dX8_turned_33 (by decide) ?_
      exact mm_sub [2, 1, 0] rfl (hr4 _ _ h)
def f_X8_turned (fu : Nat) (v0 : Int32) : Option (Int32) := X8_turned_L4 fu v0 fu (0 : Int32) (0 : Int32)
set_option maxHeartbeats 4000000 in
set_option maxRecDepth 100000 in
theorem ok_X8_turned {fu : Nat} {r : Int32} {v0 : Int32} (h : f_X8_turned fu v0 = some r) : mm_Ok mX8_turned [.int v0] [] (P_X8_turned r) := by
  rw [f_X8_turned] at h
  refine mm_Ok.of pn_X8 (l := [(0, .int v0)]) rfl (Nat.le_of_ble_eq_true rfl) ?_
  refine mm_iconst dX8_turned_0 ki_0 (pc' := 1) rfl ?_
  refine mm_istore_n dX8_turned_1 rfl (by decide) (l' := [(1, .int (0 : Int32)), (0, .int v0)]) rfl (pc' := 2) rfl ?_
  refine mm_iconst dX8_turned_2 ki_0 (pc' := 3) rfl ?_
  refine mm_istore_n dX8_turned_3 rfl (by decide) (l' := [(2, .int (0 : Int32)), (1, .int (0 : Int32)), (0, .int v0)]) rfl (pc' := 4) rfl ?_
  exact mm_sub [2, 1, 0] rfl (s_X8_turned_L4  _ _ _ h)

def P_X8_cellOf  (r : Int32) : Option Value → mm_W → Prop := fun rv w => rv = some (.int r) ∧ w = []
def f_X8_cellOf (fu : Nat) (v0 : Int32) (v1 : Int32) : Option (Int32) := some (((v0 + ((12 : Int32) * (v1 / (3 : Int32)))) + (v1 - v1 / (3 : Int32) * (3 : Int32))))
set_option maxHeartbeats 4000000 in
set_option maxRecDepth 100000 in
theorem ok_X8_cellOf {fu : Nat} {r : Int32} {v0 : Int32} {v1 : Int32} (h : f_X8_cellOf fu v0 v1 = some r) : mm_Ok mX8_cellOf [.int v0, .int v1] [] (P_X8_cellOf r) := by
  rw [f_X8_cellOf] at h
  refine mm_Ok.of pn_X8 (l := [(0, .int v0), (1, .int v1)]) rfl (Nat.le_of_ble_eq_true rfl) ?_
  refine mm_iload_n 0 dX8_cellOf_0 rfl rfl (pc' := 1) rfl ?_
  refine mm_bipush dX8_cellOf_1 kb_12 (pc' := 3) rfl ?_
  refine mm_iload_n 1 dX8_cellOf_3 rfl rfl (pc' := 4) rfl ?_
  refine mm_iconst dX8_cellOf_4 ki_3 (pc' := 5) rfl ?_
  refine mm_idiv dX8_cellOf_5 (by decide) (pc' := 6) rfl ?_
  refine mm_imul dX8_cellOf_6 (pc' := 7) rfl ?_
  refine mm_iadd dX8_cellOf_7 (pc' := 8) rfl ?_
  refine mm_iload_n 1 dX8_cellOf_8 rfl rfl (pc' := 9) rfl ?_
  refine mm_iconst dX8_cellOf_9 ki_3 (pc' := 10) rfl ?_
  refine mm_irem dX8_cellOf_10 (by decide) (pc' := 11) rfl ?_
  refine mm_iadd dX8_cellOf_11 (pc' := 12) rfl ?_
  have h9 := Option.some.inj h
  subst h9
  exact mm_iret rfl dX8_cellOf_12 ⟨rfl, rfl⟩

def P_X8_shapeAt (q_textSize : Int32) (q_cursor : Int32) (q_start : Int32) (q_token : Int32) (q_number : Int32) (q_word : Int64) (q_fault : Int32) (q_line : Int32) (q_foundPains : Int32) (q_foundLine : Int32) (q_deadMany : Int32) (q_deadSize : Int32) (q_deadLeast : Int32) (q_deadMost : Int32) (q_st : Nat → Int32) (q_before : Nat → Int32) (q_kept : Nat → Int32) (q_isKept : Nat → Int32) (q_refused : Nat → Int32) (q_text : Nat → Int32) (q_ones : Nat → Int32) (q_said : Nat → Int32) (q_readTable : Nat → Int32) (q_least : Nat → Int32) (q_made : Nat → Int32) (q_enough : Nat → Int32) (q_isWanted : Nat → Int32) (q_column : Nat → Int32) (q_foundColumn : Nat → Int32) (q_walls : Nat → Int64) (q_wallMany : Nat → Int32) (q_chosen : Nat → Int32) (r : Int32) : Option Value → mm_W → Prop := fun rv w => rv = some (.int r) ∧ w = (W_X8 q_textSize q_cursor q_start q_token q_number q_word q_fault q_line q_foundPains q_foundLine q_deadMany q_deadSize q_deadLeast q_deadMost q_st q_before q_kept q_isKept q_refused q_text q_ones q_said q_readTable q_least q_made q_enough q_isWanted q_column q_foundColumn q_walls q_wallMany q_chosen)
def X8_shapeAt_L5 (fu : Nat)  (q_st : Nat → Int32) (v1 : Int32) (v2 : Int32) : Nat → Int32 → Int32 → Option (Int32)
  | 0, _, _ => none
  | n + 1, v3, v4 => if (12 : Int32) ≤ v4 then (some (v3)) else ((f_X8_cellOf fu v2 v4).bind fun t27 => mm_rd q_st 354 (((96 : Int32) + ((60 : Int32) * v1)) + t27) fun x31 => mm_let (v3 ||| (x31 <<< (v4 &&& 31))) fun y36 => (X8_shapeAt_L5 fu q_st v1 v2 n) y36 (v4 + (1 : Int32)))
set_option maxHeartbeats 4000000 in
set_option maxRecDepth 100000 in
theorem s_X8_shapeAt_L5 {fu : Nat} {q_textSize : Int32} {q_cursor : Int32} {q_start : Int32} {q_token : Int32} {q_number : Int32} {q_word : Int64} {q_fault : Int32} {q_line : Int32} {q_foundPains : Int32} {q_foundLine : Int32} {q_deadMany : Int32} {q_deadSize : Int32} {q_deadLeast : Int32} {q_deadMost : Int32} {q_st : Nat → Int32} {q_before : Nat → Int32} {q_kept : Nat → Int32} {q_isKept : Nat → Int32} {q_refused : Nat → Int32} {q_text : Nat → Int32} {q_ones : Nat → Int32} {q_said : Nat → Int32} {q_readTable : Nat → Int32} {q_least : Nat → Int32} {q_made : Nat → Int32} {q_enough : Nat → Int32} {q_isWanted : Nat → Int32} {q_column : Nat → Int32} {q_foundColumn : Nat → Int32} {q_walls : Nat → Int64} {q_wallMany : Nat → Int32} {q_chosen : Nat → Int32} {r : Int32} {v1 : Int32} {v2 : Int32} : ∀ (n : Nat) (v3 : Int32) (v4 : Int32), X8_shapeAt_L5 fu q_st v1 v2 n v3 v4 = some r → mm_Wp mX8_shapeAt (mm_R (P_X8_shapeAt q_textSize q_cursor q_start q_token q_number q_word q_fault q_line q_foundPains q_foundLine q_deadMany q_deadSize q_deadLeast q_deadMost q_st q_before q_kept q_isKept q_refused q_text q_ones q_said q_readTable q_least q_made q_enough q_isWanted q_column q_foundColumn q_walls q_wallMany q_chosen r)) 0 0 5 [(0, .ref 0), (1, .int v1), (2, .int v2), (3, .int v3), (4, .int v4)] [] (W_X8 q_textSize q_cursor q_start q_token q_number q_word q_fault q_line q_foundPains q_foundLine q_deadMany q_deadSize q_deadLeast q_deadMost q_st q_before q_kept q_isKept q_refused q_text q_ones q_said q_readTable q_least q_made q_enough q_isWanted q_column q_foundColumn q_walls q_wallMany q_chosen) := by
  intro n
  induction n with
  | zero =>
    intro v3 v4 h
    rw [X8_shapeAt_L5] at h
    cases h
  | succ n hr5 =>
    intro v3 v4 h
    rw [X8_shapeAt_L5] at h
    refine mm_iload 4 dX8_shapeAt_5 rfl (pc' := 7) rfl ?_
    refine mm_bipush dX8_shapeAt_7 kb_12 (pc' := 9) rfl ?_
    refine mm_icmp_ge (tgt := 43) dX8_shapeAt_9 (by decide) (pc' := 12) rfl (fun c => ?_) (fun c => ?_)
    · replace h := mm_it h c
      clear c
      refine mm_iload_n 3 dX8_shapeAt_43 rfl rfl (pc' := 44) rfl ?_
      have h9 := Option.some.inj h
      subst h9
      exact mm_iret rfl dX8_shapeAt_44 ⟨rfl, rfl⟩
    · replace h := mm_if h c
      clear c
      refine mm_iload_n 3 dX8_shapeAt_12 rfl rfl (pc' := 13) rfl ?_
      refine mm_aload_n 0 dX8_shapeAt_13 rfl rfl (pc' := 14) rfl ?_
      refine mm_getf fG_X8_7 dX8_shapeAt_14 rfl rfl (pc' := 17) rfl ?_
      refine mm_bipush dX8_shapeAt_17 kb_96 (pc' := 19) rfl ?_
      refine mm_bipush dX8_shapeAt_19 kb_60 (pc' := 21) rfl ?_
      refine mm_iload_n 1 dX8_shapeAt_21 rfl rfl (pc' := 22) rfl ?_
      refine mm_imul dX8_shapeAt_22 (pc' := 23) rfl ?_
      refine mm_iadd dX8_shapeAt_23 (pc' := 24) rfl ?_
      refine mm_iload_n 2 dX8_shapeAt_24 rfl rfl (pc' := 25) rfl ?_
      refine mm_iload 4 dX8_shapeAt_25 rfl (pc' := 27) rfl ?_
      obtain ⟨t27, h27, h⟩ := mm_bd h
      refine mm_callS (As := [.int v2, .int v4]) (rest := [.int ((96 : Int32) + ((60 : Int32) * v1)), .ref 1, .int v3]) (av := [.int v2, .int v4]) (wc := []) (is := []) cS_X8_183 (ok_X8_cellOf h27) ⟨rfl, rfl, Nat.le_of_ble_eq_true rfl, Nat.le_of_ble_eq_true rfl⟩ dX8_shapeAt_27 rfl rfl rfl ⟨rfl, by decide, by decide⟩ (by rintro _ _ ⟨-, rfl⟩; rfl) (Nat.le_of_ble_eq_true rfl) ⟨Nat.le_of_ble_eq_true rfl, Nat.le_of_ble_eq_true rfl⟩ (pc' := 30) rfl ?_
      rintro rv w ⟨rfl, rfl⟩
      show mm_Wp _ _ _ _ 30 [(0, .ref 0), (1, .int v1), (2, .int v2), (3, .int v3), (4, .int v4)] [.int t27, .int ((96 : Int32) + ((60 : Int32) * v1)), .ref 1, .int v3] (W_X8 q_textSize q_cursor q_start q_token q_number q_word q_fault q_line q_foundPains q_foundLine q_deadMany q_deadSize q_deadLeast q_deadMost q_st q_before q_kept q_isKept q_refused q_text q_ones q_said q_readTable q_least q_made q_enough q_isWanted q_column q_foundColumn q_walls q_wallMany q_chosen)
      clear h27
      refine mm_iadd dX8_shapeAt_30 (pc' := 31) rfl ?_
      obtain ⟨x31, c31, e31, h⟩ := mm_rd_of h
      refine mm_iald dX8_shapeAt_31 rfl c31 e31 (pc' := 32) rfl ?_
      clear c31 e31
      refine mm_iload 4 dX8_shapeAt_32 rfl (pc' := 34) rfl ?_
      refine mm_ishl dX8_shapeAt_34 (pc' := 35) rfl ?_
      refine mm_ior dX8_shapeAt_35 (pc' := 36) rfl ?_
      refine mm_topi (fun y36 e => ?_)
      replace h := mm_let_of h y36 e
      clear e
      refine mm_istore_n dX8_shapeAt_36 rfl (by decide) (l' := [(3, .int y36), (0, .ref 0), (1, .int v1), (2, .int v2), (4, .int v4)]) rfl (pc' := 37) rfl ?_
      refine mm_iinc 4 dX8_shapeAt_37 rfl ki_1 (by decide) (l' := [(4, .int (v4 + (1 : Int32))), (3, .int y36), (0, .ref 0), (1, .int v1), (2, .int v2)]) rfl (pc' := 40) rfl ?_
      refine mm_goto (tgt := 5) dX8_shapeAt_40 (by decide) ?_
      exact mm_sub [2, 3, 4, 1, 0] rfl (hr5 _ _ h)
def f_X8_shapeAt (fu : Nat) (q_st : Nat → Int32) (v1 : Int32) (v2 : Int32) : Option (Int32) := X8_shapeAt_L5 fu q_st v1 v2 fu (0 : Int32) (0 : Int32)
set_option maxHeartbeats 4000000 in
set_option maxRecDepth 100000 in
theorem ok_X8_shapeAt {fu : Nat} {q_textSize : Int32} {q_cursor : Int32} {q_start : Int32} {q_token : Int32} {q_number : Int32} {q_word : Int64} {q_fault : Int32} {q_line : Int32} {q_foundPains : Int32} {q_foundLine : Int32} {q_deadMany : Int32} {q_deadSize : Int32} {q_deadLeast : Int32} {q_deadMost : Int32} {q_st : Nat → Int32} {q_before : Nat → Int32} {q_kept : Nat → Int32} {q_isKept : Nat → Int32} {q_refused : Nat → Int32} {q_text : Nat → Int32} {q_ones : Nat → Int32} {q_said : Nat → Int32} {q_readTable : Nat → Int32} {q_least : Nat → Int32} {q_made : Nat → Int32} {q_enough : Nat → Int32} {q_isWanted : Nat → Int32} {q_column : Nat → Int32} {q_foundColumn : Nat → Int32} {q_walls : Nat → Int64} {q_wallMany : Nat → Int32} {q_chosen : Nat → Int32} {r : Int32} {v1 : Int32} {v2 : Int32} (h : f_X8_shapeAt fu q_st v1 v2 = some r) : mm_Ok mX8_shapeAt [.ref 0, .int v1, .int v2] (W_X8 q_textSize q_cursor q_start q_token q_number q_word q_fault q_line q_foundPains q_foundLine q_deadMany q_deadSize q_deadLeast q_deadMost q_st q_before q_kept q_isKept q_refused q_text q_ones q_said q_readTable q_least q_made q_enough q_isWanted q_column q_foundColumn q_walls q_wallMany q_chosen) (P_X8_shapeAt q_textSize q_cursor q_start q_token q_number q_word q_fault q_line q_foundPains q_foundLine q_deadMany q_deadSize q_deadLeast q_deadMost q_st q_before q_kept q_isKept q_refused q_text q_ones q_said q_readTable q_least q_made q_enough q_isWanted q_column q_foundColumn q_walls q_wallMany q_chosen r) := by
  rw [f_X8_shapeAt] at h
  refine mm_Ok.of pn_X8 (l := [(0, .ref 0), (1, .int v1), (2, .int v2)]) rfl (Nat.le_of_ble_eq_true rfl) ?_
  refine mm_iconst dX8_shapeAt_0 ki_0 (pc' := 1) rfl ?_
  refine mm_istore_n dX8_shapeAt_1 rfl (by decide) (l' := [(3, .int (0 : Int32)), (0, .ref 0), (1, .int v1), (2, .int v2)]) rfl (pc' := 2) rfl ?_
  refine mm_iconst dX8_shapeAt_2 ki_0 (pc' := 3) rfl ?_
  refine mm_istore dX8_shapeAt_3 (by decide) (l' := [(4, .int (0 : Int32)), (3, .int (0 : Int32)), (0, .ref 0), (1, .int v1), (2, .int v2)]) rfl (pc' := 5) rfl ?_
  exact mm_sub [2, 3, 4, 1, 0] rfl (s_X8_shapeAt_L5  _ _ _ h)

def P_X8_reads (q_textSize : Int32) (q_cursor : Int32) (q_start : Int32) (q_token : Int32) (q_number : Int32) (q_word : Int64) (q_fault : Int32) (q_line : Int32) (q_foundPains : Int32) (q_foundLine : Int32) (q_deadMany : Int32) (q_deadSize : Int32) (q_deadLeast : Int32) (q_deadMost : Int32) (q_st : Nat → Int32) (q_before : Nat → Int32) (q_kept : Nat → Int32) (q_isKept : Nat → Int32) (q_text : Nat → Int32) (q_ones : Nat → Int32) (q_said : Nat → Int32) (q_readTable : Nat → Int32) (q_least : Nat → Int32) (q_made : Nat → Int32) (q_enough : Nat → Int32) (q_isWanted : Nat → Int32) (q_column : Nat → Int32) (q_foundColumn : Nat → Int32) (q_walls : Nat → Int64) (q_wallMany : Nat → Int32) (q_chosen : Nat → Int32) (r : Int32 × (Nat → Int32)) : Option Value → mm_W → Prop := fun rv w => rv = some (.int r.1) ∧ w = (W_X8 q_textSize q_cursor q_start q_token q_number q_word q_fault q_line q_foundPains q_foundLine q_deadMany q_deadSize q_deadLeast q_deadMost q_st q_before q_kept q_isKept r.2 q_text q_ones q_said q_readTable q_least q_made q_enough q_isWanted q_column q_foundColumn q_walls q_wallMany q_chosen)
def X8_reads_J31 (fu : Nat)  (q_st : Nat → Int32) (q_refused : Nat → Int32) (q_ones : Nat → Int32)  (s0 : Int32) : Option (Int32 × (Nat → Int32)) := (f_X8_readAs fu q_st q_ones s0).bind fun t31 => some (t31, q_refused)
set_option maxHeartbeats 4000000 in
set_option maxRecDepth 100000 in
theorem s_X8_reads_J31 {fu : Nat} {q_textSize : Int32} {q_cursor : Int32} {q_start : Int32} {q_token : Int32} {q_number : Int32} {q_word : Int64} {q_fault : Int32} {q_line : Int32} {q_foundPains : Int32} {q_foundLine : Int32} {q_deadMany : Int32} {q_deadSize : Int32} {q_deadLeast : Int32} {q_deadMost : Int32} {q_st : Nat → Int32} {q_before : Nat → Int32} {q_kept : Nat → Int32} {q_isKept : Nat → Int32} {q_refused : Nat → Int32} {q_text : Nat → Int32} {q_ones : Nat → Int32} {q_said : Nat → Int32} {q_readTable : Nat → Int32} {q_least : Nat → Int32} {q_made : Nat → Int32} {q_enough : Nat → Int32} {q_isWanted : Nat → Int32} {q_column : Nat → Int32} {q_foundColumn : Nat → Int32} {q_walls : Nat → Int64} {q_wallMany : Nat → Int32} {q_chosen : Nat → Int32} {r : Int32 × (Nat → Int32)} {s0 : Int32} (h : X8_reads_J31 fu q_st q_refused q_ones s0 = some r) : mm_Wp mX8_reads (mm_R (P_X8_reads q_textSize q_cursor q_start q_token q_number q_word q_fault q_line q_foundPains q_foundLine q_deadMany q_deadSize q_deadLeast q_deadMost q_st q_before q_kept q_isKept q_text q_ones q_said q_readTable q_least q_made q_enough q_isWanted q_column q_foundColumn q_walls q_wallMany q_chosen r)) 0 0 31 [] [.int s0, .ref 0] (W_X8 q_textSize q_cursor q_start q_token q_number q_word q_fault q_line q_foundPains q_foundLine q_deadMany q_deadSize q_deadLeast q_deadMost q_st q_before q_kept q_isKept q_refused q_text q_ones q_said q_readTable q_least q_made q_enough q_isWanted q_column q_foundColumn q_walls q_wallMany q_chosen) := by
  rw [X8_reads_J31] at h
  obtain ⟨t31, h31, h⟩ := mm_bd h
  refine mm_call0 (As := [.int s0]) (rest := []) cV_X8_180 (ok_X8_readAs h31) ⟨rfl, rfl, Nat.le_of_ble_eq_true rfl, Nat.le_of_ble_eq_true rfl⟩ dX8_reads_31 rfl rfl rfl rfl (by rintro _ _ ⟨-, rfl⟩; rfl) (Nat.le_of_ble_eq_true rfl) ⟨Nat.le_of_ble_eq_true rfl, Nat.le_of_ble_eq_true rfl⟩ (pc' := 34) rfl ?_
  rintro rv w ⟨rfl, rfl⟩
  show mm_Wp _ _ _ _ 34 [] [.int t31] (W_X8 q_textSize q_cursor q_start q_token q_number q_word q_fault q_line q_foundPains q_foundLine q_deadMany q_deadSize q_deadLeast q_deadMost q_st q_before q_kept q_isKept q_refused q_text q_ones q_said q_readTable q_least q_made q_enough q_isWanted q_column q_foundColumn q_walls q_wallMany q_chosen)
  clear h31
  have h9 := Option.some.inj h
  subst h9
  exact mm_iret rfl dX8_reads_34 ⟨rfl, rfl⟩
def f_X8_reads (fu : Nat) (q_st : Nat → Int32) (q_refused : Nat → Int32) (q_ones : Nat → Int32) (v1 : Int32) (v2 : Int32) : Option (Int32 × (Nat → Int32)) := (f_X8_in fu v1 (0 : Int32) (4095 : Int32)).bind fun t5 => if t5 = 0 then ((f_X8_told fu q_refused (-2 : Int32)).bind fun t14 => some (t14.1, t14.2)) else (if v2 = 0 then (X8_reads_J31 fu q_st q_refused q_ones v1) else ((f_X8_turned fu v1).bind fun t24 => X8_reads_J31 fu q_st q_refused q_ones t24))
set_option maxHeartbeats 4000000 in
set_option maxRecDepth 100000 in
theorem ok_X8_reads {fu : Nat} {q_textSize : Int32} {q_cursor : Int32} {q_start : Int32} {q_token : Int32} {q_number : Int32} {q_word : Int64} {q_fault : Int32} {q_line : Int32} {q_foundPains : Int32} {q_foundLine : Int32} {q_deadMany : Int32} {q_deadSize : Int32} {q_deadLeast : Int32} {q_deadMost : Int32} {q_st : Nat → Int32} {q_before : Nat → Int32} {q_kept : Nat → Int32} {q_isKept : Nat → Int32} {q_refused : Nat → Int32} {q_text : Nat → Int32} {q_ones : Nat → Int32} {q_said : Nat → Int32} {q_readTable : Nat → Int32} {q_least : Nat → Int32} {q_made : Nat → Int32} {q_enough : Nat → Int32} {q_isWanted : Nat → Int32} {q_column : Nat → Int32} {q_foundColumn : Nat → Int32} {q_walls : Nat → Int64} {q_wallMany : Nat → Int32} {q_chosen : Nat → Int32} {r : Int32 × (Nat → Int32)} {v1 : Int32} {v2 : Int32} (h : f_X8_reads fu q_st q_refused q_ones v1 v2 = some r) : mm_Ok mX8_reads [.ref 0, .int v1, .int v2] (W_X8 q_textSize q_cursor q_start q_token q_number q_word q_fault q_line q_foundPains q_foundLine q_deadMany q_deadSize q_deadLeast q_deadMost q_st q_before q_kept q_isKept q_refused q_text q_ones q_said q_readTable q_least q_made q_enough q_isWanted q_column q_foundColumn q_walls q_wallMany q_chosen) (P_X8_reads q_textSize q_cursor q_start q_token q_number q_word q_fault q_line q_foundPains q_foundLine q_deadMany q_deadSize q_deadLeast q_deadMost q_st q_before q_kept q_isKept q_text q_ones q_said q_readTable q_least q_made q_enough q_isWanted q_column q_foundColumn q_walls q_wallMany q_chosen r) := by
  rw [f_X8_reads] at h
  refine mm_Ok.of pn_X8 (l := [(0, .ref 0), (1, .int v1), (2, .int v2)]) rfl (Nat.le_of_ble_eq_true rfl) ?_
  refine mm_iload_n 1 dX8_reads_0 rfl rfl (pc' := 1) rfl ?_
  refine mm_iconst dX8_reads_1 ki_0 (pc' := 2) rfl ?_
  refine mm_sipush dX8_reads_2 ks_4095 (pc' := 5) rfl ?_
  obtain ⟨t5, h5, h⟩ := mm_bd h
  refine mm_callS (As := [.int v1, .int (0 : Int32), .int (4095 : Int32)]) (rest := []) (av := [.int v1, .int (0 : Int32), .int (4095 : Int32)]) (wc := []) (is := []) cS_X8_70 (ok_X8_in h5) ⟨rfl, rfl, Nat.le_of_ble_eq_true rfl, Nat.le_of_ble_eq_true rfl⟩ dX8_reads_5 rfl rfl rfl ⟨rfl, by decide, by decide⟩ (by rintro _ _ ⟨-, rfl⟩; rfl) (Nat.le_of_ble_eq_true rfl) ⟨Nat.le_of_ble_eq_true rfl, Nat.le_of_ble_eq_true rfl⟩ (pc' := 8) rfl ?_
  rintro rv w ⟨rfl, rfl⟩
  show mm_Wp _ _ _ _ 8 [(0, .ref 0), (1, .int v1), (2, .int v2)] [.int t5] (W_X8 q_textSize q_cursor q_start q_token q_number q_word q_fault q_line q_foundPains q_foundLine q_deadMany q_deadSize q_deadLeast q_deadMost q_st q_before q_kept q_isKept q_refused q_text q_ones q_said q_readTable q_least q_made q_enough q_isWanted q_column q_foundColumn q_walls q_wallMany q_chosen)
  clear h5
  refine mm_if_ne (tgt := 18) dX8_reads_8 (by decide) (pc' := 11) rfl (fun c => ?_) (fun c => ?_)
  · replace h := mm_if h c
    clear c
    refine mm_aload_n 0 dX8_reads_18 rfl rfl (pc' := 19) rfl ?_
    refine mm_iload_n 2 dX8_reads_19 rfl rfl (pc' := 20) rfl ?_
    refine mm_if_eq (tgt := 30) dX8_reads_20 (by decide) (pc' := 23) rfl (fun c => ?_) (fun c => ?_)
    · replace h := mm_it h c
      clear c
      refine mm_iload_n 1 dX8_reads_30 rfl rfl (pc' := 31) rfl ?_
      exact mm_sub [] rfl (s_X8_reads_J31  h)
    · replace h := mm_if h c
      clear c
      refine mm_iload_n 1 dX8_reads_23 rfl rfl (pc' := 24) rfl ?_
      obtain ⟨t24, h24, h⟩ := mm_bd h
      refine mm_callS (As := [.int v1]) (rest := [.ref 0]) (av := [.int v1]) (wc := []) (is := []) cS_X8_186 (ok_X8_turned h24) ⟨rfl, rfl, Nat.le_of_ble_eq_true rfl, Nat.le_of_ble_eq_true rfl⟩ dX8_reads_24 rfl rfl rfl ⟨rfl, by decide, by decide⟩ (by rintro _ _ ⟨-, rfl⟩; rfl) (Nat.le_of_ble_eq_true rfl) ⟨Nat.le_of_ble_eq_true rfl, Nat.le_of_ble_eq_true rfl⟩ (pc' := 27) rfl ?_
      rintro rv w ⟨rfl, rfl⟩
      show mm_Wp _ _ _ _ 27 [(0, .ref 0), (1, .int v1), (2, .int v2)] [.int t24, .ref 0] (W_X8 q_textSize q_cursor q_start q_token q_number q_word q_fault q_line q_foundPains q_foundLine q_deadMany q_deadSize q_deadLeast q_deadMost q_st q_before q_kept q_isKept q_refused q_text q_ones q_said q_readTable q_least q_made q_enough q_isWanted q_column q_foundColumn q_walls q_wallMany q_chosen)
      clear h24
      refine mm_goto (tgt := 31) dX8_reads_27 (by decide) ?_
      exact mm_sub [] rfl (s_X8_reads_J31  h)
  · replace h := mm_it h c
    clear c
    refine mm_aload_n 0 dX8_reads_11 rfl rfl (pc' := 12) rfl ?_
    refine mm_bipush dX8_reads_12 kb_m2 (pc' := 14) rfl ?_
    obtain ⟨t14, h14, h⟩ := mm_bd h
    refine mm_call0 (As := [.int (-2 : Int32)]) (rest := []) cV_X8_92 (ok_X8_told h14) ⟨rfl, rfl, Nat.le_of_ble_eq_true rfl, Nat.le_of_ble_eq_true rfl⟩ dX8_reads_14 rfl rfl rfl rfl (by rintro _ _ ⟨-, rfl⟩; rfl) (Nat.le_of_ble_eq_true rfl) ⟨Nat.le_of_ble_eq_true rfl, Nat.le_of_ble_eq_true rfl⟩ (pc' := 17) rfl ?_
    rintro rv w ⟨rfl, rfl⟩
    show mm_Wp _ _ _ _ 17 [(0, .ref 0), (1, .int v1), (2, .int v2)] [.int t14.1] (W_X8 q_textSize q_cursor q_start q_token q_number q_word q_fault q_line q_foundPains q_foundLine q_deadMany q_deadSize q_deadLeast q_deadMost q_st q_before q_kept q_isKept t14.2 q_text q_ones q_said q_readTable q_least q_made q_enough q_isWanted q_column q_foundColumn q_walls q_wallMany q_chosen)
    clear h14
    have h9 := Option.some.inj h
    subst h9
    exact mm_iret rfl dX8_reads_17 ⟨rfl, rfl⟩

def P_X8_shape (q_textSize : Int32) (q_cursor : Int32) (q_start : Int32) (q_token : Int32) (q_number : Int32) (q_word : Int64) (q_fault : Int32) (q_line : Int32) (q_foundPains : Int32) (q_foundLine : Int32) (q_deadMany : Int32) (q_deadSize : Int32) (q_deadLeast : Int32) (q_deadMost : Int32) (q_st : Nat → Int32) (q_before : Nat → Int32) (q_kept : Nat → Int32) (q_isKept : Nat → Int32) (q_text : Nat → Int32) (q_ones : Nat → Int32) (q_said : Nat → Int32) (q_readTable : Nat → Int32) (q_least : Nat → Int32) (q_made : Nat → Int32) (q_enough : Nat → Int32) (q_isWanted : Nat → Int32) (q_column : Nat → Int32) (q_foundColumn : Nat → Int32) (q_walls : Nat → Int64) (q_wallMany : Nat → Int32) (q_chosen : Nat → Int32) (r : Int32 × (Nat → Int32)) : Option Value → mm_W → Prop := fun rv w => rv = some (.int r.1) ∧ w = (W_X8 q_textSize q_cursor q_start q_token q_number q_word q_fault q_line q_foundPains q_foundLine q_deadMany q_deadSize q_deadLeast q_deadMost q_st q_before q_kept q_isKept r.2 q_text q_ones q_said q_readTable q_least q_made q_enough q_isWanted q_column q_foundColumn q_walls q_wallMany q_chosen)
def X8_shape_J24 (fu : Nat)  (q_st : Nat → Int32) (q_refused : Nat → Int32)   : Option (Int32 × (Nat → Int32)) := (f_X8_told fu q_refused (-2 : Int32)).bind fun t27 => some (t27.1, t27.2)
set_option maxHeartbeats 4000000 in
set_option maxRecDepth 100000 in
theorem s_X8_shape_J24 {fu : Nat} {q_textSize : Int32} {q_cursor : Int32} {q_start : Int32} {q_token : Int32} {q_number : Int32} {q_word : Int64} {q_fault : Int32} {q_line : Int32} {q_foundPains : Int32} {q_foundLine : Int32} {q_deadMany : Int32} {q_deadSize : Int32} {q_deadLeast : Int32} {q_deadMost : Int32} {q_st : Nat → Int32} {q_before : Nat → Int32} {q_kept : Nat → Int32} {q_isKept : Nat → Int32} {q_refused : Nat → Int32} {q_text : Nat → Int32} {q_ones : Nat → Int32} {q_said : Nat → Int32} {q_readTable : Nat → Int32} {q_least : Nat → Int32} {q_made : Nat → Int32} {q_enough : Nat → Int32} {q_isWanted : Nat → Int32} {q_column : Nat → Int32} {q_foundColumn : Nat → Int32} {q_walls : Nat → Int64} {q_wallMany : Nat → Int32} {q_chosen : Nat → Int32} {r : Int32 × (Nat → Int32)} (h : X8_shape_J24 fu q_st q_refused = some r) : mm_Wp mX8_shape (mm_R (P_X8_shape q_textSize q_cursor q_start q_token q_number q_word q_fault q_line q_foundPains q_foundLine q_deadMany q_deadSize q_deadLeast q_deadMost q_st q_before q_kept q_isKept q_text q_ones q_said q_readTable q_least q_made q_enough q_isWanted q_column q_foundColumn q_walls q_wallMany q_chosen r)) 0 0 24 [(0, .ref 0)] [] (W_X8 q_textSize q_cursor q_start q_token q_number q_word q_fault q_line q_foundPains q_foundLine q_deadMany q_deadSize q_deadLeast q_deadMost q_st q_before q_kept q_isKept q_refused q_text q_ones q_said q_readTable q_least q_made q_enough q_isWanted q_column q_foundColumn q_walls q_wallMany q_chosen) := by
  rw [X8_shape_J24] at h
  refine mm_aload_n 0 dX8_shape_24 rfl rfl (pc' := 25) rfl ?_
  refine mm_bipush dX8_shape_25 kb_m2 (pc' := 27) rfl ?_
  obtain ⟨t27, h27, h⟩ := mm_bd h
  refine mm_call0 (As := [.int (-2 : Int32)]) (rest := []) cV_X8_92 (ok_X8_told h27) ⟨rfl, rfl, Nat.le_of_ble_eq_true rfl, Nat.le_of_ble_eq_true rfl⟩ dX8_shape_27 rfl rfl rfl rfl (by rintro _ _ ⟨-, rfl⟩; rfl) (Nat.le_of_ble_eq_true rfl) ⟨Nat.le_of_ble_eq_true rfl, Nat.le_of_ble_eq_true rfl⟩ (pc' := 30) rfl ?_
  rintro rv w ⟨rfl, rfl⟩
  show mm_Wp _ _ _ _ 30 [(0, .ref 0)] [.int t27.1] (W_X8 q_textSize q_cursor q_start q_token q_number q_word q_fault q_line q_foundPains q_foundLine q_deadMany q_deadSize q_deadLeast q_deadMost q_st q_before q_kept q_isKept t27.2 q_text q_ones q_said q_readTable q_least q_made q_enough q_isWanted q_column q_foundColumn q_walls q_wallMany q_chosen)
  clear h27
  have h9 := Option.some.inj h
  subst h9
  exact mm_iret rfl dX8_shape_30 ⟨rfl, rfl⟩
def f_X8_shape (fu : Nat) (q_st : Nat → Int32) (q_refused : Nat → Int32) (v1 : Int32) (v2 : Int32) : Option (Int32 × (Nat → Int32)) := (f_X8_isHour fu v1).bind fun t1 => if t1 = 0 then (X8_shape_J24 fu q_st q_refused) else ((f_X8_isBox fu q_st v2).bind fun t9 => if t9 = 0 then (X8_shape_J24 fu q_st q_refused) else ((f_X8_shapeAt fu q_st v1 v2).bind fun t18 => some (t18, q_refused)))
set_option maxHeartbeats 4000000 in
set_option maxRecDepth 100000 in
theorem ok_X8_shape {fu : Nat} {q_textSize : Int32} {q_cursor : Int32} {q_start : Int32} {q_token : Int32} {q_number : Int32} {q_word : Int64} {q_fault : Int32} {q_line : Int32} {q_foundPains : Int32} {q_foundLine : Int32} {q_deadMany : Int32} {q_deadSize : Int32} {q_deadLeast : Int32} {q_deadMost : Int32} {q_st : Nat → Int32} {q_before : Nat → Int32} {q_kept : Nat → Int32} {q_isKept : Nat → Int32} {q_refused : Nat → Int32} {q_text : Nat → Int32} {q_ones : Nat → Int32} {q_said : Nat → Int32} {q_readTable : Nat → Int32} {q_least : Nat → Int32} {q_made : Nat → Int32} {q_enough : Nat → Int32} {q_isWanted : Nat → Int32} {q_column : Nat → Int32} {q_foundColumn : Nat → Int32} {q_walls : Nat → Int64} {q_wallMany : Nat → Int32} {q_chosen : Nat → Int32} {r : Int32 × (Nat → Int32)} {v1 : Int32} {v2 : Int32} (h : f_X8_shape fu q_st q_refused v1 v2 = some r) : mm_Ok mX8_shape [.ref 0, .int v1, .int v2] (W_X8 q_textSize q_cursor q_start q_token q_number q_word q_fault q_line q_foundPains q_foundLine q_deadMany q_deadSize q_deadLeast q_deadMost q_st q_before q_kept q_isKept q_refused q_text q_ones q_said q_readTable q_least q_made q_enough q_isWanted q_column q_foundColumn q_walls q_wallMany q_chosen) (P_X8_shape q_textSize q_cursor q_start q_token q_number q_word q_fault q_line q_foundPains q_foundLine q_deadMany q_deadSize q_deadLeast q_deadMost q_st q_before q_kept q_isKept q_text q_ones q_said q_readTable q_least q_made q_enough q_isWanted q_column q_foundColumn q_walls q_wallMany q_chosen r) := by
  rw [f_X8_shape] at h
  refine mm_Ok.of pn_X8 (l := [(0, .ref 0), (1, .int v1), (2, .int v2)]) rfl (Nat.le_of_ble_eq_true rfl) ?_
  refine mm_iload_n 1 dX8_shape_0 rfl rfl (pc' := 1) rfl ?_
  obtain ⟨t1, h1, h⟩ := mm_bd h
  refine mm_callS (As := [.int v1]) (rest := []) (av := [.int v1]) (wc := []) (is := []) cS_X8_85 (ok_X8_isHour h1) ⟨rfl, rfl, Nat.le_of_ble_eq_true rfl, Nat.le_of_ble_eq_true rfl⟩ dX8_shape_1 rfl rfl rfl ⟨rfl, by decide, by decide⟩ (by rintro _ _ ⟨-, rfl⟩; rfl) (Nat.le_of_ble_eq_true rfl) ⟨Nat.le_of_ble_eq_true rfl, Nat.le_of_ble_eq_true rfl⟩ (pc' := 4) rfl ?_
  rintro rv w ⟨rfl, rfl⟩
  show mm_Wp _ _ _ _ 4 [(0, .ref 0), (1, .int v1), (2, .int v2)] [.int t1] (W_X8 q_textSize q_cursor q_start q_token q_number q_word q_fault q_line q_foundPains q_foundLine q_deadMany q_deadSize q_deadLeast q_deadMost q_st q_before q_kept q_isKept q_refused q_text q_ones q_said q_readTable q_least q_made q_enough q_isWanted q_column q_foundColumn q_walls q_wallMany q_chosen)
  clear h1
  refine mm_if_eq (tgt := 24) dX8_shape_4 (by decide) (pc' := 7) rfl (fun c => ?_) (fun c => ?_)
  · replace h := mm_it h c
    clear c
    exact mm_sub [0] rfl (s_X8_shape_J24  h)
  · replace h := mm_if h c
    clear c
    refine mm_aload_n 0 dX8_shape_7 rfl rfl (pc' := 8) rfl ?_
    refine mm_iload_n 2 dX8_shape_8 rfl rfl (pc' := 9) rfl ?_
    obtain ⟨t9, h9, h⟩ := mm_bd h
    refine mm_call0 (As := [.int v2]) (rest := []) cV_X8_189 (ok_X8_isBox h9) ⟨rfl, rfl, Nat.le_of_ble_eq_true rfl, Nat.le_of_ble_eq_true rfl⟩ dX8_shape_9 rfl rfl rfl rfl (by rintro _ _ ⟨-, rfl⟩; rfl) (Nat.le_of_ble_eq_true rfl) ⟨Nat.le_of_ble_eq_true rfl, Nat.le_of_ble_eq_true rfl⟩ (pc' := 12) rfl ?_
    rintro rv w ⟨rfl, rfl⟩
    show mm_Wp _ _ _ _ 12 [(0, .ref 0), (1, .int v1), (2, .int v2)] [.int t9] (W_X8 q_textSize q_cursor q_start q_token q_number q_word q_fault q_line q_foundPains q_foundLine q_deadMany q_deadSize q_deadLeast q_deadMost q_st q_before q_kept q_isKept q_refused q_text q_ones q_said q_readTable q_least q_made q_enough q_isWanted q_column q_foundColumn q_walls q_wallMany q_chosen)
    clear h9
    refine mm_if_eq (tgt := 24) dX8_shape_12 (by decide) (pc' := 15) rfl (fun c => ?_) (fun c => ?_)
    · replace h := mm_it h c
      clear c
      exact mm_sub [0] rfl (s_X8_shape_J24  h)
    · replace h := mm_if h c
      clear c
      refine mm_aload_n 0 dX8_shape_15 rfl rfl (pc' := 16) rfl ?_
      refine mm_iload_n 1 dX8_shape_16 rfl rfl (pc' := 17) rfl ?_
      refine mm_iload_n 2 dX8_shape_17 rfl rfl (pc' := 18) rfl ?_
      obtain ⟨t18, h18, h⟩ := mm_bd h
      refine mm_call0 (As := [.int v1, .int v2]) (rest := []) cV_X8_192 (ok_X8_shapeAt h18) ⟨rfl, rfl, Nat.le_of_ble_eq_true rfl, Nat.le_of_ble_eq_true rfl⟩ dX8_shape_18 rfl rfl rfl rfl (by rintro _ _ ⟨-, rfl⟩; rfl) (Nat.le_of_ble_eq_true rfl) ⟨Nat.le_of_ble_eq_true rfl, Nat.le_of_ble_eq_true rfl⟩ (pc' := 21) rfl ?_
      rintro rv w ⟨rfl, rfl⟩
      show mm_Wp _ _ _ _ 21 [(0, .ref 0), (1, .int v1), (2, .int v2)] [.int t18] (W_X8 q_textSize q_cursor q_start q_token q_number q_word q_fault q_line q_foundPains q_foundLine q_deadMany q_deadSize q_deadLeast q_deadMost q_st q_before q_kept q_isKept q_refused q_text q_ones q_said q_readTable q_least q_made q_enough q_isWanted q_column q_foundColumn q_walls q_wallMany q_chosen)
      clear h18
      refine mm_goto (tgt := 30) dX8_shape_21 (by decide) ?_
      have h9 := Option.some.inj h
      subst h9
      exact mm_iret rfl dX8_shape_30 ⟨rfl, rfl⟩

def P_X8_says (q_textSize : Int32) (q_cursor : Int32) (q_start : Int32) (q_token : Int32) (q_number : Int32) (q_word : Int64) (q_fault : Int32) (q_line : Int32) (q_foundPains : Int32) (q_foundLine : Int32) (q_deadMany : Int32) (q_deadSize : Int32) (q_deadLeast : Int32) (q_deadMost : Int32) (q_st : Nat → Int32) (q_before : Nat → Int32) (q_kept : Nat → Int32) (q_isKept : Nat → Int32) (q_text : Nat → Int32) (q_ones : Nat → Int32) (q_said : Nat → Int32) (q_readTable : Nat → Int32) (q_least : Nat → Int32) (q_made : Nat → Int32) (q_enough : Nat → Int32) (q_isWanted : Nat → Int32) (q_column : Nat → Int32) (q_foundColumn : Nat → Int32) (q_walls : Nat → Int64) (q_wallMany : Nat → Int32) (q_chosen : Nat → Int32) (r : Int32 × (Nat → Int32)) : Option Value → mm_W → Prop := fun rv w => rv = some (.int r.1) ∧ w = (W_X8 q_textSize q_cursor q_start q_token q_number q_word q_fault q_line q_foundPains q_foundLine q_deadMany q_deadSize q_deadLeast q_deadMost q_st q_before q_kept q_isKept r.2 q_text q_ones q_said q_readTable q_least q_made q_enough q_isWanted q_column q_foundColumn q_walls q_wallMany q_chosen)
def X8_says_J31 (fu : Nat)  (q_st : Nat → Int32) (q_refused : Nat → Int32) (q_ones : Nat → Int32)   : Option (Int32 × (Nat → Int32)) := (f_X8_told fu q_refused (-2 : Int32)).bind fun t34 => some (t34.1, t34.2)
set_option maxHeartbeats 4000000 in
set_option maxRecDepth 100000 in
theorem s_X8_says_J31 {fu : Nat} {q_textSize : Int32} {q_cursor : Int32} {q_start : Int32} {q_token : Int32} {q_number : Int32} {q_word : Int64} {q_fault : Int32} {q_line : Int32} {q_foundPains : Int32} {q_foundLine : Int32} {q_deadMany : Int32} {q_deadSize : Int32} {q_deadLeast : Int32} {q_deadMost : Int32} {q_st : Nat → Int32} {q_before : Nat → Int32} {q_kept : Nat → Int32} {q_isKept : Nat → Int32} {q_refused : Nat → Int32} {q_text : Nat → Int32} {q_ones : Nat → Int32} {q_said : Nat → Int32} {q_readTable : Nat → Int32} {q_least : Nat → Int32} {q_made : Nat → Int32} {q_enough : Nat → Int32} {q_isWanted : Nat → Int32} {q_column : Nat → Int32} {q_foundColumn : Nat → Int32} {q_walls : Nat → Int64} {q_wallMany : Nat → Int32} {q_chosen : Nat → Int32} {r : Int32 × (Nat → Int32)} (h : X8_says_J31 fu q_st q_refused q_ones = some r) : mm_Wp mX8_says (mm_R (P_X8_says q_textSize q_cursor q_start q_token q_number q_word q_fault q_line q_foundPains q_foundLine q_deadMany q_deadSize q_deadLeast q_deadMost q_st q_before q_kept q_isKept q_text q_ones q_said q_readTable q_least q_made q_enough q_isWanted q_column q_foundColumn q_walls q_wallMany q_chosen r)) 0 0 31 [(0, .ref 0)] [] (W_X8 q_textSize q_cursor q_start q_token q_number q_word q_fault q_line q_foundPains q_foundLine q_deadMany q_deadSize q_deadLeast q_deadMost q_st q_before q_kept q_isKept q_refused q_text q_ones q_said q_readTable q_least q_made q_enough q_isWanted q_column q_foundColumn q_walls q_wallMany q_chosen) := by
  rw [X8_says_J31] at h
  refine mm_aload_n 0 dX8_says_31 rfl rfl (pc' := 32) rfl ?_
  refine mm_bipush dX8_says_32 kb_m2 (pc' := 34) rfl ?_
  obtain ⟨t34, h34, h⟩ := mm_bd h
  refine mm_call0 (As := [.int (-2 : Int32)]) (rest := []) cV_X8_92 (ok_X8_told h34) ⟨rfl, rfl, Nat.le_of_ble_eq_true rfl, Nat.le_of_ble_eq_true rfl⟩ dX8_says_34 rfl rfl rfl rfl (by rintro _ _ ⟨-, rfl⟩; rfl) (Nat.le_of_ble_eq_true rfl) ⟨Nat.le_of_ble_eq_true rfl, Nat.le_of_ble_eq_true rfl⟩ (pc' := 37) rfl ?_
  rintro rv w ⟨rfl, rfl⟩
  show mm_Wp _ _ _ _ 37 [(0, .ref 0)] [.int t34.1] (W_X8 q_textSize q_cursor q_start q_token q_number q_word q_fault q_line q_foundPains q_foundLine q_deadMany q_deadSize q_deadLeast q_deadMost q_st q_before q_kept q_isKept t34.2 q_text q_ones q_said q_readTable q_least q_made q_enough q_isWanted q_column q_foundColumn q_walls q_wallMany q_chosen)
  clear h34
  have h9 := Option.some.inj h
  subst h9
  exact mm_iret rfl dX8_says_37 ⟨rfl, rfl⟩
def X8_says_J104 (fu : Nat) (rec44 : Int32 → Int32 → Option (Int32 × (Nat → Int32))) (q_st : Nat → Int32) (q_refused : Nat → Int32) (q_ones : Nat → Int32) (v1 : Int32) (v2 : Int32) (v3 : Int32) (v4 : Int32) (v6 : Int32) (s0 : Int32) (s1 : Int32) : Option (Int32 × (Nat → Int32)) := rec44 (s1 ||| s0) (v6 + (1 : Int32))
set_option maxHeartbeats 4000000 in
set_option maxRecDepth 100000 in
theorem s_X8_says_J104 {fu : Nat} {q_textSize : Int32} {q_cursor : Int32} {q_start : Int32} {q_token : Int32} {q_number : Int32} {q_word : Int64} {q_fault : Int32} {q_line : Int32} {q_foundPains : Int32} {q_foundLine : Int32} {q_deadMany : Int32} {q_deadSize : Int32} {q_deadLeast : Int32} {q_deadMost : Int32} {q_st : Nat → Int32} {q_before : Nat → Int32} {q_kept : Nat → Int32} {q_isKept : Nat → Int32} {q_refused : Nat → Int32} {q_text : Nat → Int32} {q_ones : Nat → Int32} {q_said : Nat → Int32} {q_readTable : Nat → Int32} {q_least : Nat → Int32} {q_made : Nat → Int32} {q_enough : Nat → Int32} {q_isWanted : Nat → Int32} {q_column : Nat → Int32} {q_foundColumn : Nat → Int32} {q_walls : Nat → Int64} {q_wallMany : Nat → Int32} {q_chosen : Nat → Int32} {r : Int32 × (Nat → Int32)} {rec44 : Int32 → Int32 → Option (Int32 × (Nat → Int32))} {v1 : Int32} {v2 : Int32} {v3 : Int32} {v4 : Int32} {v6 : Int32} {s0 : Int32} {s1 : Int32} (hr44 : ∀ (y5 : Int32) (y6 : Int32), rec44 y5 y6 = some r → mm_Wp mX8_says (mm_R (P_X8_says q_textSize q_cursor q_start q_token q_number q_word q_fault q_line q_foundPains q_foundLine q_deadMany q_deadSize q_deadLeast q_deadMost q_st q_before q_kept q_isKept q_text q_ones q_said q_readTable q_least q_made q_enough q_isWanted q_column q_foundColumn q_walls q_wallMany q_chosen r)) 0 0 44 [(0, .ref 0), (1, .int v1), (2, .int v2), (3, .int v3), (4, .int v4), (5, .int y5), (6, .int y6)] [] (W_X8 q_textSize q_cursor q_start q_token q_number q_word q_fault q_line q_foundPains q_foundLine q_deadMany q_deadSize q_deadLeast q_deadMost q_st q_before q_kept q_isKept q_refused q_text q_ones q_said q_readTable q_least q_made q_enough q_isWanted q_column q_foundColumn q_walls q_wallMany q_chosen)) (h : X8_says_J104 fu rec44 q_st q_refused q_ones v1 v2 v3 v4 v6 s0 s1 = some r) : mm_Wp mX8_says (mm_R (P_X8_says q_textSize q_cursor q_start q_token q_number q_word q_fault q_line q_foundPains q_foundLine q_deadMany q_deadSize q_deadLeast q_deadMost q_st q_before q_kept q_isKept q_text q_ones q_said q_readTable q_least q_made q_enough q_isWanted q_column q_foundColumn q_walls q_wallMany q_chosen r)) 0 0 104 [(0, .ref 0), (1, .int v1), (2, .int v2), (3, .int v3), (4, .int v4), (6, .int v6)] [.int s0, .int s1] (W_X8 q_textSize q_cursor q_start q_token q_number q_word q_fault q_line q_foundPains q_foundLine q_deadMany q_deadSize q_deadLeast q_deadMost q_st q_before q_kept q_isKept q_refused q_text q_ones q_said q_readTable q_least q_made q_enough q_isWanted q_column q_foundColumn q_walls q_wallMany q_chosen) := by
  rw [X8_says_J104] at h
  refine mm_ior dX8_says_104 (pc' := 105) rfl ?_
  refine mm_istore dX8_says_105 (by decide) (l' := [(5, .int (s1 ||| s0)), (0, .ref 0), (1, .int v1), (2, .int v2), (3, .int v3), (4, .int v4), (6, .int v6)]) rfl (pc' := 107) rfl ?_
  refine mm_iinc 6 dX8_says_107 rfl ki_1 (by decide) (l' := [(6, .int (v6 + (1 : Int32))), (5, .int (s1 ||| s0)), (0, .ref 0), (1, .int v1), (2, .int v2), (3, .int v3), (4, .int v4)]) rfl (pc' := 110) rfl ?_
  refine mm_goto (tgt := 44) dX8_says_110 (by decide) ?_
  exact mm_sub [2, 3, 4, 5, 6, 1, 0] rfl (hr44 _ _ h)
def X8_says_J89 (fu : Nat) (rec44 : Int32 → Int32 → Option (Int32 × (Nat → Int32))) (q_st : Nat → Int32) (q_refused : Nat → Int32) (q_ones : Nat → Int32) (v1 : Int32) (v2 : Int32) (v3 : Int32) (v4 : Int32) (v6 : Int32) (s0 : Int32) (s2 : Int32) : Option (Int32 × (Nat → Int32)) := (f_X8_readAs fu q_st q_ones s0).bind fun t89 => if t89 = v3 then (X8_says_J104 fu rec44 q_st q_refused q_ones v1 v2 v3 v4 v6 ((1 : Int32) <<< (v6 &&& 31)) s2) else (X8_says_J104 fu rec44 q_st q_refused q_ones v1 v2 v3 v4 v6 (0 : Int32) s2)
set_option maxHeartbeats 4000000 in
set_option maxRecDepth 100000 in
theorem s_X8_says_J89 {fu : Nat} {q_textSize : Int32} {q_cursor : Int32} {q_start : Int32} {q_token : Int32} {q_number : Int32} {q_word : Int64} {q_fault : Int32} {q_line : Int32} {q_foundPains : Int32} {q_foundLine : Int32} {q_deadMany : Int32} {q_deadSize : Int32} {q_deadLeast : Int32} {q_deadMost : Int32} {q_st : Nat → Int32} {q_before : Nat → Int32} {q_kept : Nat → Int32} {q_isKept : Nat → Int32} {q_refused : Nat → Int32} {q_text : Nat → Int32} {q_ones : Nat → Int32} {q_said : Nat → Int32} {q_readTable : Nat → Int32} {q_least : Nat → Int32} {q_made : Nat → Int32} {q_enough : Nat → Int32} {q_isWanted : Nat → Int32} {q_column : Nat → Int32} {q_foundColumn : Nat → Int32} {q_walls : Nat → Int64} {q_wallMany : Nat → Int32} {q_chosen : Nat → Int32} {r : Int32 × (Nat → Int32)} {rec44 : Int32 → Int32 → Option (Int32 × (Nat → Int32))} {v1 : Int32} {v2 : Int32} {v3 : Int32} {v4 : Int32} {v6 : Int32} {s0 : Int32} {s2 : Int32} (hr44 : ∀ (y5 : Int32) (y6 : Int32), rec44 y5 y6 = some r → mm_Wp mX8_says (mm_R (P_X8_says q_textSize q_cursor q_start q_token q_number q_word q_fault q_line q_foundPains q_foundLine q_deadMany q_deadSize q_deadLeast q_deadMost q_st q_before q_kept q_isKept q_text q_ones q_said q_readTable q_least q_made q_enough q_isWanted q_column q_foundColumn q_walls q_wallMany q_chosen r)) 0 0 44 [(0, .ref 0), (1, .int v1), (2, .int v2), (3, .int v3), (4, .int v4), (5, .int y5), (6, .int y6)] [] (W_X8 q_textSize q_cursor q_start q_token q_number q_word q_fault q_line q_foundPains q_foundLine q_deadMany q_deadSize q_deadLeast q_deadMost q_st q_before q_kept q_isKept q_refused q_text q_ones q_said q_readTable q_least q_made q_enough q_isWanted q_column q_foundColumn q_walls q_wallMany q_chosen)) (h : X8_says_J89 fu rec44 q_st q_refused q_ones v1 v2 v3 v4 v6 s0 s2 = some r) : mm_Wp mX8_says (mm_R (P_X8_says q_textSize q_cursor q_start q_token q_number q_word q_fault q_line q_foundPains q_foundLine q_deadMany q_deadSize q_deadLeast q_deadMost q_st q_before q_kept q_isKept q_text q_ones q_said q_readTable q_least q_made q_enough q_isWanted q_column q_foundColumn q_walls q_wallMany q_chosen r)) 0 0 89 [(0, .ref 0), (1, .int v1), (2, .int v2), (3, .int v3), (4, .int v4), (6, .int v6)] [.int s0, .ref 0, .int s2] (W_X8 q_textSize q_cursor q_start q_token q_number q_word q_fault q_line q_foundPains q_foundLine q_deadMany q_deadSize q_deadLeast q_deadMost q_st q_before q_kept q_isKept q_refused q_text q_ones q_said q_readTable q_least q_made q_enough q_isWanted q_column q_foundColumn q_walls q_wallMany q_chosen) := by
  rw [X8_says_J89] at h
  obtain ⟨t89, h89, h⟩ := mm_bd h
  refine mm_call0 (As := [.int s0]) (rest := [.int s2]) cV_X8_180 (ok_X8_readAs h89) ⟨rfl, rfl, Nat.le_of_ble_eq_true rfl, Nat.le_of_ble_eq_true rfl⟩ dX8_says_89 rfl rfl rfl rfl (by rintro _ _ ⟨-, rfl⟩; rfl) (Nat.le_of_ble_eq_true rfl) ⟨Nat.le_of_ble_eq_true rfl, Nat.le_of_ble_eq_true rfl⟩ (pc' := 92) rfl ?_
  rintro rv w ⟨rfl, rfl⟩
  show mm_Wp _ _ _ _ 92 [(0, .ref 0), (1, .int v1), (2, .int v2), (3, .int v3), (4, .int v4), (6, .int v6)] [.int t89, .int s2] (W_X8 q_textSize q_cursor q_start q_token q_number q_word q_fault q_line q_foundPains q_foundLine q_deadMany q_deadSize q_deadLeast q_deadMost q_st q_before q_kept q_isKept q_refused q_text q_ones q_said q_readTable q_least q_made q_enough q_isWanted q_column q_foundColumn q_walls q_wallMany q_chosen)
  clear h89
  refine mm_iload_n 3 dX8_says_92 rfl rfl (pc' := 93) rfl ?_
  refine mm_icmp_ne (tgt := 103) dX8_says_93 (by decide) (pc' := 96) rfl (fun c => ?_) (fun c => ?_)
  · replace h := mm_if h c
    clear c
    refine mm_iconst dX8_says_103 ki_0 (pc' := 104) rfl ?_
    exact s_X8_says_J104 (hr44 := hr44) h
  · replace h := mm_it h c
    clear c
    refine mm_iconst dX8_says_96 ki_1 (pc' := 97) rfl ?_
    refine mm_iload 5 dX8_says_97 rfl (pc' := 99) rfl ?_
    refine mm_ishl dX8_says_99 (pc' := 100) rfl ?_
    refine mm_goto (tgt := 104) dX8_says_100 (by decide) ?_
    exact s_X8_says_J104 (hr44 := hr44) h
def X8_says_L44 (fu : Nat)  (q_st : Nat → Int32) (q_refused : Nat → Int32) (q_ones : Nat → Int32) (v1 : Int32) (v2 : Int32) (v3 : Int32) (v4 : Int32) : Nat → Int32 → Int32 → Option (Int32 × (Nat → Int32))
  | 0, _, _ => none
  | n + 1, v5, v6 => if (q_st 0) ≤ (v6 + (2 : Int32)) then (some (v5, q_refused)) else ((f_X8_shapeAt fu q_st v1 (((12 : Int32) * v2) + v6)).bind fun t66 => if v4 = 0 then (X8_says_J89 fu (X8_says_L44 fu q_st q_refused q_ones v1 v2 v3 v4 n) q_st q_refused q_ones v1 v2 v3 v4 v6 t66 v5) else ((f_X8_turned fu t66).bind fun t81 => X8_says_J89 fu (X8_says_L44 fu q_st q_refused q_ones v1 v2 v3 v4 n) q_st q_refused q_ones v1 v2 v3 v4 v6 t81 v5))
set_option maxHeartbeats 4000000 in
set_option maxRecDepth 100000 in
theorem s_X8_says_L44 {fu : Nat} {q_textSize : Int32} {q_cursor : Int32} {q_start : Int32} {q_token : Int32} {q_number : Int32} {q_word : Int64} {q_fault : Int32} {q_line : Int32} {q_foundPains : Int32} {q_foundLine : Int32} {q_deadMany : Int32} {q_deadSize : Int32} {q_deadLeast : Int32} {q_deadMost : Int32} {q_st : Nat → Int32} {q_before : Nat → Int32} {q_kept : Nat → Int32} {q_isKept : Nat → Int32} {q_refused : Nat → Int32} {q_text : Nat → Int32} {q_ones : Nat → Int32} {q_said : Nat → Int32} {q_readTable : Nat → Int32} {q_least : Nat → Int32} {q_made : Nat → Int32} {q_enough : Nat → Int32} {q_isWanted : Nat → Int32} {q_column : Nat → Int32} {q_foundColumn : Nat → Int32} {q_walls : Nat → Int64} {q_wallMany : Nat → Int32} {q_chosen : Nat → Int32} {r : Int32 × (Nat → Int32)} {v1 : Int32} {v2 : Int32} {v3 : Int32} {v4 : Int32} : ∀ (n : Nat) (v5 : Int32) (v6 : Int32), X8_says_L44 fu q_st q_refused q_ones v1 v2 v3 v4 n v5 v6 = some r → mm_Wp mX8_says (mm_R (P_X8_says q_textSize q_cursor q_start q_token q_number q_word q_fault q_line q_foundPains q_foundLine q_deadMany q_deadSize q_deadLeast q_deadMost q_st q_before q_kept q_isKept q_text q_ones q_said q_readTable q_least q_made q_enough q_isWanted q_column q_foundColumn q_walls q_wallMany q_chosen r)) 0 0 44 [(0, .ref 0), (1, .int v1), (2, .int v2), (3, .int v3), (4, .int v4), (5, .int v5), (6, .int v6)] [] (W_X8 q_textSize q_cursor q_start q_token q_number q_word q_fault q_line q_foundPains q_foundLine q_deadMany q_deadSize q_deadLeast q_deadMost q_st q_before q_kept q_isKept q_refused q_text q_ones q_said q_readTable q_least q_made q_enough q_isWanted q_column q_foundColumn q_walls q_wallMany q_chosen) := by
  intro n
  induction n with
  | zero =>
    intro v5 v6 h
    rw [X8_says_L44] at h
    cases h
  | succ n hr44 =>
    intro v5 v6 h
    rw [X8_says_L44] at h
    refine mm_iload 6 dX8_says_44 rfl (pc' := 46) rfl ?_
    refine mm_iconst dX8_says_46 ki_2 (pc' := 47) rfl ?_
    refine mm_iadd dX8_says_47 (pc' := 48) rfl ?_
    refine mm_aload_n 0 dX8_says_48 rfl rfl (pc' := 49) rfl ?_
    refine mm_getf fG_X8_7 dX8_says_49 rfl rfl (pc' := 52) rfl ?_
    refine mm_iconst dX8_says_52 ki_0 (pc' := 53) rfl ?_
    refine mm_iald dX8_says_53 rfl ki_0_354 (congrArg _ kt_0) (pc' := 54) rfl ?_
    refine mm_icmp_ge (tgt := 113) dX8_says_54 (by decide) (pc' := 57) rfl (fun c => ?_) (fun c => ?_)
    · replace h := mm_it h c
      clear c
      refine mm_iload 5 dX8_says_113 rfl (pc' := 115) rfl ?_
      have h9 := Option.some.inj h
      subst h9
      exact mm_iret rfl dX8_says_115 ⟨rfl, rfl⟩
    · replace h := mm_if h c
      clear c
      refine mm_aload_n 0 dX8_says_57 rfl rfl (pc' := 58) rfl ?_
      refine mm_iload_n 1 dX8_says_58 rfl rfl (pc' := 59) rfl ?_
      refine mm_bipush dX8_says_59 kb_12 (pc' := 61) rfl ?_
      refine mm_iload_n 2 dX8_says_61 rfl rfl (pc' := 62) rfl ?_
      refine mm_imul dX8_says_62 (pc' := 63) rfl ?_
      refine mm_iload 6 dX8_says_63 rfl (pc' := 65) rfl ?_
      refine mm_iadd dX8_says_65 (pc' := 66) rfl ?_
      obtain ⟨t66, h66, h⟩ := mm_bd h
      refine mm_call0 (As := [.int v1, .int (((12 : Int32) * v2) + v6)]) (rest := []) cV_X8_192 (ok_X8_shapeAt h66) ⟨rfl, rfl, Nat.le_of_ble_eq_true rfl, Nat.le_of_ble_eq_true rfl⟩ dX8_says_66 rfl rfl rfl rfl (by rintro _ _ ⟨-, rfl⟩; rfl) (Nat.le_of_ble_eq_true rfl) ⟨Nat.le_of_ble_eq_true rfl, Nat.le_of_ble_eq_true rfl⟩ (pc' := 69) rfl ?_
      rintro rv w ⟨rfl, rfl⟩
      show mm_Wp _ _ _ _ 69 [(0, .ref 0), (1, .int v1), (2, .int v2), (3, .int v3), (4, .int v4), (5, .int v5), (6, .int v6)] [.int t66] (W_X8 q_textSize q_cursor q_start q_token q_number q_word q_fault q_line q_foundPains q_foundLine q_deadMany q_deadSize q_deadLeast q_deadMost q_st q_before q_kept q_isKept q_refused q_text q_ones q_said q_readTable q_least q_made q_enough q_isWanted q_column q_foundColumn q_walls q_wallMany q_chosen)
      clear h66
      refine mm_istore dX8_says_69 (by decide) (l' := [(7, .int t66), (0, .ref 0), (1, .int v1), (2, .int v2), (3, .int v3), (4, .int v4), (5, .int v5), (6, .int v6)]) rfl (pc' := 71) rfl ?_
      refine mm_iload 6 dX8_says_71 rfl (pc' := 73) rfl ?_
      refine mm_aload_n 1 dX8_says_73 rfl rfl (pc' := 74) rfl ?_
      refine mm_iload 5 dX8_says_74 rfl (pc' := 76) rfl ?_
      refine mm_if_eq (tgt := 87) dX8_says_76 (by decide) (pc' := 79) rfl (fun c => ?_) (fun c => ?_)
      · replace h := mm_it h c
        clear c
        refine mm_iload 0 dX8_says_87 rfl (pc' := 89) rfl ?_
        exact mm_sub [1, 2, 3, 4, 5, 7] rfl (s_X8_says_J89 (hr44 := hr44) h)
      · replace h := mm_if h c
        clear c
        refine mm_iload 0 dX8_says_79 rfl (pc' := 81) rfl ?_
        obtain ⟨t81, h81, h⟩ := mm_bd h
        refine mm_callS (As := [.int t66]) (rest := [.ref 0, .int v5]) (av := [.int t66]) (wc := []) (is := []) cS_X8_186 (ok_X8_turned h81) ⟨rfl, rfl, Nat.le_of_ble_eq_true rfl, Nat.le_of_ble_eq_true rfl⟩ dX8_says_81 rfl rfl rfl ⟨rfl, by decide, by decide⟩ (by rintro _ _ ⟨-, rfl⟩; rfl) (Nat.le_of_ble_eq_true rfl) ⟨Nat.le_of_ble_eq_true rfl, Nat.le_of_ble_eq_true rfl⟩ (pc' := 84) rfl ?_
        rintro rv w ⟨rfl, rfl⟩
        show mm_Wp _ _ _ _ 84 [(7, .int t66), (0, .ref 0), (1, .int v1), (2, .int v2), (3, .int v3), (4, .int v4), (5, .int v5), (6, .int v6)] [.int t81, .ref 0, .int v5] (W_X8 q_textSize q_cursor q_start q_token q_number q_word q_fault q_line q_foundPains q_foundLine q_deadMany q_deadSize q_deadLeast q_deadMost q_st q_before q_kept q_isKept q_refused q_text q_ones q_said q_readTable q_least q_made q_enough q_isWanted q_column q_foundColumn q_walls q_wallMany q_chosen)
        clear h81
        refine mm_goto (tgt := 89) dX8_says_84 (by decide) ?_
        exact mm_sub [1, 2, 3, 4, 5, 7] rfl (s_X8_says_J89 (hr44 := hr44) h)
def f_X8_says (fu : Nat) (q_st : Nat → Int32) (q_refused : Nat → Int32) (q_ones : Nat → Int32) (v1 : Int32) (v2 : Int32) (v3 : Int32) (v4 : Int32) : Option (Int32 × (Nat → Int32)) := (f_X8_isHour fu v1).bind fun t1 => if t1 = 0 then (X8_says_J31 fu q_st q_refused q_ones) else ((f_X8_in fu v2 (0 : Int32) ((q_st 1) - (4 : Int32))).bind fun t17 => if t17 = 0 then (X8_says_J31 fu q_st q_refused q_ones) else ((f_X8_isLetter fu q_st v3).bind fun t25 => if t25 = 0 then (X8_says_J31 fu q_st q_refused q_ones) else (X8_says_L44 fu q_st q_refused q_ones v1 v2 v3 v4 fu (0 : Int32) (0 : Int32))))
set_option maxHeartbeats 4000000 in
set_option maxRecDepth 100000 in
theorem ok_X8_says {fu : Nat} {q_textSize : Int32} {q_cursor : Int32} {q_start : Int32} {q_token : Int32} {q_number : Int32} {q_word : Int64} {q_fault : Int32} {q_line : Int32} {q_foundPains : Int32} {q_foundLine : Int32} {q_deadMany : Int32} {q_deadSize : Int32} {q_deadLeast : Int32} {q_deadMost : Int32} {q_st : Nat → Int32} {q_before : Nat → Int32} {q_kept : Nat → Int32} {q_isKept : Nat → Int32} {q_refused : Nat → Int32} {q_text : Nat → Int32} {q_ones : Nat → Int32} {q_said : Nat → Int32} {q_readTable : Nat → Int32} {q_least : Nat → Int32} {q_made : Nat → Int32} {q_enough : Nat → Int32} {q_isWanted : Nat → Int32} {q_column : Nat → Int32} {q_foundColumn : Nat → Int32} {q_walls : Nat → Int64} {q_wallMany : Nat → Int32} {q_chosen : Nat → Int32} {r : Int32 × (Nat → Int32)} {v1 : Int32} {v2 : Int32} {v3 : Int32} {v4 : Int32} (h : f_X8_says fu q_st q_refused q_ones v1 v2 v3 v4 = some r) : mm_Ok mX8_says [.ref 0, .int v1, .int v2, .int v3, .int v4] (W_X8 q_textSize q_cursor q_start q_token q_number q_word q_fault q_line q_foundPains q_foundLine q_deadMany q_deadSize q_deadLeast q_deadMost q_st q_before q_kept q_isKept q_refused q_text q_ones q_said q_readTable q_least q_made q_enough q_isWanted q_column q_foundColumn q_walls q_wallMany q_chosen) (P_X8_says q_textSize q_cursor q_start q_token q_number q_word q_fault q_line q_foundPains q_foundLine q_deadMany q_deadSize q_deadLeast q_deadMost q_st q_before q_kept q_isKept q_text q_ones q_said q_readTable q_least q_made q_enough q_isWanted q_column q_foundColumn q_walls q_wallMany q_chosen r) := by
  rw [f_X8_says] at h
  refine mm_Ok.of pn_X8 (l := [(0, .ref 0), (1, .int v1), (2, .int v2), (3, .int v3), (4, .int v4)]) rfl (Nat.le_of_ble_eq_true rfl) ?_
  refine mm_iload_n 1 dX8_says_0 rfl rfl (pc' := 1) rfl ?_
  obtain ⟨t1, h1, h⟩ := mm_bd h
  refine mm_callS (As := [.int v1]) (rest := []) (av := [.int v1]) (wc := []) (is := []) cS_X8_85 (ok_X8_isHour h1) ⟨rfl, rfl, Nat.le_of_ble_eq_true rfl, Nat.le_of_ble_eq_true rfl⟩ dX8_says_1 rfl rfl rfl ⟨rfl, by decide, by decide⟩ (by rintro _ _ ⟨-, rfl⟩; rfl) (Nat.le_of_ble_eq_true rfl) ⟨Nat.le_of_ble_eq_true rfl, Nat.le_of_ble_eq_true rfl⟩ (pc' := 4) rfl ?_
  rintro rv w ⟨rfl, rfl⟩
  show mm_Wp _ _ _ _ 4 [(0, .ref 0), (1, .int v1), (2, .int v2), (3, .int v3), (4, .int v4)] [.int t1] (W_X8 q_textSize q_cursor q_start q_token q_number q_word q_fault q_line q_foundPains q_foundLine q_deadMany q_deadSize q_deadLeast q_deadMost q_st q_before q_kept q_isKept q_refused q_text q_ones q_said q_readTable q_least q_made q_enough q_isWanted q_column q_foundColumn q_walls q_wallMany q_chosen)
  clear h1
  refine mm_if_eq (tgt := 31) dX8_says_4 (by decide) (pc' := 7) rfl (fun c => ?_) (fun c => ?_)
  · replace h := mm_it h c
    clear c
    exact mm_sub [0] rfl (s_X8_says_J31  h)
  · replace h := mm_if h c
    clear c
    refine mm_iload_n 2 dX8_says_7 rfl rfl (pc' := 8) rfl ?_
    refine mm_iconst dX8_says_8 ki_0 (pc' := 9) rfl ?_
    refine mm_aload_n 0 dX8_says_9 rfl rfl (pc' := 10) rfl ?_
    refine mm_getf fG_X8_7 dX8_says_10 rfl rfl (pc' := 13) rfl ?_
    refine mm_iconst dX8_says_13 ki_1 (pc' := 14) rfl ?_
    refine mm_iald dX8_says_14 rfl ki_1_354 (congrArg _ kt_1) (pc' := 15) rfl ?_
    refine mm_iconst dX8_says_15 ki_4 (pc' := 16) rfl ?_
    refine mm_isub dX8_says_16 (pc' := 17) rfl ?_
    obtain ⟨t17, h17, h⟩ := mm_bd h
    refine mm_callS (As := [.int v2, .int (0 : Int32), .int ((q_st 1) - (4 : Int32))]) (rest := []) (av := [.int v2, .int (0 : Int32), .int ((q_st 1) - (4 : Int32))]) (wc := []) (is := []) cS_X8_70 (ok_X8_in h17) ⟨rfl, rfl, Nat.le_of_ble_eq_true rfl, Nat.le_of_ble_eq_true rfl⟩ dX8_says_17 rfl rfl rfl ⟨rfl, by decide, by decide⟩ (by rintro _ _ ⟨-, rfl⟩; rfl) (Nat.le_of_ble_eq_true rfl) ⟨Nat.le_of_ble_eq_true rfl, Nat.le_of_ble_eq_true rfl⟩ (pc' := 20) rfl ?_
    rintro rv w ⟨rfl, rfl⟩
    show mm_Wp _ _ _ _ 20 [(0, .ref 0), (1, .int v1), (2, .int v2), (3, .int v3), (4, .int v4)] [.int t17] (W_X8 q_textSize q_cursor q_start q_token q_number q_word q_fault q_line q_foundPains q_foundLine q_deadMany q_deadSize q_deadLeast q_deadMost q_st q_before q_kept q_isKept q_refused q_text q_ones q_said q_readTable q_least q_made q_enough q_isWanted q_column q_foundColumn q_walls q_wallMany q_chosen)
    clear h17
    refine mm_if_eq (tgt := 31) dX8_says_20 (by decide) (pc' := 23) rfl (fun c => ?_) (fun c => ?_)
    · replace h := mm_it h c
      clear c
      exact mm_sub [0] rfl (s_X8_says_J31  h)
    · replace h := mm_if h c
      clear c
      refine mm_aload_n 0 dX8_says_23 rfl rfl (pc' := 24) rfl ?_
      refine mm_iload_n 3 dX8_says_24 rfl rfl (pc' := 25) rfl ?_
      obtain ⟨t25, h25, h⟩ := mm_bd h
      refine mm_call0 (As := [.int v3]) (rest := []) cV_X8_100 (ok_X8_isLetter h25) ⟨rfl, rfl, Nat.le_of_ble_eq_true rfl, Nat.le_of_ble_eq_true rfl⟩ dX8_says_25 rfl rfl rfl rfl (by rintro _ _ ⟨-, rfl⟩; rfl) (Nat.le_of_ble_eq_true rfl) ⟨Nat.le_of_ble_eq_true rfl, Nat.le_of_ble_eq_true rfl⟩ (pc' := 28) rfl ?_
      rintro rv w ⟨rfl, rfl⟩
      show mm_Wp _ _ _ _ 28 [(0, .ref 0), (1, .int v1), (2, .int v2), (3, .int v3), (4, .int v4)] [.int t25] (W_X8 q_textSize q_cursor q_start q_token q_number q_word q_fault q_line q_foundPains q_foundLine q_deadMany q_deadSize q_deadLeast q_deadMost q_st q_before q_kept q_isKept q_refused q_text q_ones q_said q_readTable q_least q_made q_enough q_isWanted q_column q_foundColumn q_walls q_wallMany q_chosen)
      clear h25
      refine mm_if_ne (tgt := 38) dX8_says_28 (by decide) (pc' := 31) rfl (fun c => ?_) (fun c => ?_)
      · replace h := mm_if h c
        clear c
        refine mm_iconst dX8_says_38 ki_0 (pc' := 39) rfl ?_
        refine mm_istore dX8_says_39 (by decide) (l' := [(5, .int (0 : Int32)), (0, .ref 0), (1, .int v1), (2, .int v2), (3, .int v3), (4, .int v4)]) rfl (pc' := 41) rfl ?_
        refine mm_iconst dX8_says_41 ki_0 (pc' := 42) rfl ?_
        refine mm_istore dX8_says_42 (by decide) (l' := [(6, .int (0 : Int32)), (5, .int (0 : Int32)), (0, .ref 0), (1, .int v1), (2, .int v2), (3, .int v3), (4, .int v4)]) rfl (pc' := 44) rfl ?_
        exact mm_sub [2, 3, 4, 5, 6, 1, 0] rfl (s_X8_says_L44  _ _ _ h)
      · replace h := mm_it h c
        clear c
        exact mm_sub [0] rfl (s_X8_says_J31  h)

def P_X8_isWord (q_textSize : Int32) (q_cursor : Int32) (q_start : Int32) (q_token : Int32) (q_number : Int32) (q_word : Int64) (q_fault : Int32) (q_line : Int32) (q_foundPains : Int32) (q_foundLine : Int32) (q_deadMany : Int32) (q_deadSize : Int32) (q_deadLeast : Int32) (q_deadMost : Int32) (q_st : Nat → Int32) (q_before : Nat → Int32) (q_kept : Nat → Int32) (q_isKept : Nat → Int32) (q_refused : Nat → Int32) (q_text : Nat → Int32) (q_ones : Nat → Int32) (q_said : Nat → Int32) (q_readTable : Nat → Int32) (q_least : Nat → Int32) (q_made : Nat → Int32) (q_enough : Nat → Int32) (q_isWanted : Nat → Int32) (q_column : Nat → Int32) (q_foundColumn : Nat → Int32) (q_walls : Nat → Int64) (q_wallMany : Nat → Int32) (q_chosen : Nat → Int32) (r : Int32) : Option Value → mm_W → Prop := fun rv w => rv = some (.int r) ∧ w = (W_X8 q_textSize q_cursor q_start q_token q_number q_word q_fault q_line q_foundPains q_foundLine q_deadMany q_deadSize q_deadLeast q_deadMost q_st q_before q_kept q_isKept q_refused q_text q_ones q_said q_readTable q_least q_made q_enough q_isWanted q_column q_foundColumn q_walls q_wallMany q_chosen)
def X8_isWord_J38 (fu : Nat)  (q_st : Nat → Int32) (v2 : Int32)  : Option (Int32) := mm_gd (mm_zb v2) (some (v2))
set_option maxHeartbeats 4000000 in
set_option maxRecDepth 100000 in
theorem s_X8_isWord_J38 {fu : Nat} {q_textSize : Int32} {q_cursor : Int32} {q_start : Int32} {q_token : Int32} {q_number : Int32} {q_word : Int64} {q_fault : Int32} {q_line : Int32} {q_foundPains : Int32} {q_foundLine : Int32} {q_deadMany : Int32} {q_deadSize : Int32} {q_deadLeast : Int32} {q_deadMost : Int32} {q_st : Nat → Int32} {q_before : Nat → Int32} {q_kept : Nat → Int32} {q_isKept : Nat → Int32} {q_refused : Nat → Int32} {q_text : Nat → Int32} {q_ones : Nat → Int32} {q_said : Nat → Int32} {q_readTable : Nat → Int32} {q_least : Nat → Int32} {q_made : Nat → Int32} {q_enough : Nat → Int32} {q_isWanted : Nat → Int32} {q_column : Nat → Int32} {q_foundColumn : Nat → Int32} {q_walls : Nat → Int64} {q_wallMany : Nat → Int32} {q_chosen : Nat → Int32} {r : Int32} {v2 : Int32} (h : X8_isWord_J38 fu q_st v2 = some r) : mm_Wp mX8_isWord (mm_R (P_X8_isWord q_textSize q_cursor q_start q_token q_number q_word q_fault q_line q_foundPains q_foundLine q_deadMany q_deadSize q_deadLeast q_deadMost q_st q_before q_kept q_isKept q_refused q_text q_ones q_said q_readTable q_least q_made q_enough q_isWanted q_column q_foundColumn q_walls q_wallMany q_chosen r)) 0 0 38 [(2, .int v2)] [] (W_X8 q_textSize q_cursor q_start q_token q_number q_word q_fault q_line q_foundPains q_foundLine q_deadMany q_deadSize q_deadLeast q_deadMost q_st q_before q_kept q_isKept q_refused q_text q_ones q_said q_readTable q_least q_made q_enough q_isWanted q_column q_foundColumn q_walls q_wallMany q_chosen) := by
  rw [X8_isWord_J38] at h
  refine mm_iload_n 0 dX8_isWord_38 rfl rfl (pc' := 39) rfl ?_
  obtain ⟨c, h⟩ := mm_gd_of h
  have h9 := Option.some.inj h
  subst h9
  exact mm_zret rfl (mm_zb_of c) dX8_isWord_39 ⟨rfl, rfl⟩
def X8_isWord_L11 (fu : Nat)  (q_st : Nat → Int32)  : Nat → Int32 → Int32 → Option (Int32)
  | 0, _, _ => none
  | n + 1, v2, v3 => if v3 ≤ 0 then (X8_isWord_J38 fu q_st v2) else (if v2 = 0 then (X8_isWord_J38 fu q_st v2) else ((f_X8_isLetter fu q_st ((v3 - v3 / (10 : Int32) * (10 : Int32)) - (1 : Int32))).bind fun t26 => (X8_isWord_L11 fu q_st n) t26 (v3 / (10 : Int32))))
set_option maxHeartbeats 4000000 in
set_option maxRecDepth 100000 in
theorem s_X8_isWord_L11 {fu : Nat} {q_textSize : Int32} {q_cursor : Int32} {q_start : Int32} {q_token : Int32} {q_number : Int32} {q_word : Int64} {q_fault : Int32} {q_line : Int32} {q_foundPains : Int32} {q_foundLine : Int32} {q_deadMany : Int32} {q_deadSize : Int32} {q_deadLeast : Int32} {q_deadMost : Int32} {q_st : Nat → Int32} {q_before : Nat → Int32} {q_kept : Nat → Int32} {q_isKept : Nat → Int32} {q_refused : Nat → Int32} {q_text : Nat → Int32} {q_ones : Nat → Int32} {q_said : Nat → Int32} {q_readTable : Nat → Int32} {q_least : Nat → Int32} {q_made : Nat → Int32} {q_enough : Nat → Int32} {q_isWanted : Nat → Int32} {q_column : Nat → Int32} {q_foundColumn : Nat → Int32} {q_walls : Nat → Int64} {q_wallMany : Nat → Int32} {q_chosen : Nat → Int32} {r : Int32} : ∀ (n : Nat) (v2 : Int32) (v3 : Int32), X8_isWord_L11 fu q_st n v2 v3 = some r → mm_Wp mX8_isWord (mm_R (P_X8_isWord q_textSize q_cursor q_start q_token q_number q_word q_fault q_line q_foundPains q_foundLine q_deadMany q_deadSize q_deadLeast q_deadMost q_st q_before q_kept q_isKept q_refused q_text q_ones q_said q_readTable q_least q_made q_enough q_isWanted q_column q_foundColumn q_walls q_wallMany q_chosen r)) 0 0 11 [(0, .ref 0), (2, .int v2), (3, .int v3)] [] (W_X8 q_textSize q_cursor q_start q_token q_number q_word q_fault q_line q_foundPains q_foundLine q_deadMany q_deadSize q_deadLeast q_deadMost q_st q_before q_kept q_isKept q_refused q_text q_ones q_said q_readTable q_least q_made q_enough q_isWanted q_column q_foundColumn q_walls q_wallMany q_chosen) := by
  intro n
  induction n with
  | zero =>
    intro v2 v3 h
    rw [X8_isWord_L11] at h
    cases h
  | succ n hr11 =>
    intro v2 v3 h
    rw [X8_isWord_L11] at h
    refine mm_iload_n 2 dX8_isWord_11 rfl rfl (pc' := 12) rfl ?_
    refine mm_if_le (tgt := 38) dX8_isWord_12 (by decide) (pc' := 15) rfl (fun c => ?_) (fun c => ?_)
    · replace h := mm_it h c
      clear c
      exact mm_sub [1] rfl (s_X8_isWord_J38  h)
    · replace h := mm_if h c
      clear c
      refine mm_iload_n 1 dX8_isWord_15 rfl rfl (pc' := 16) rfl ?_
      refine mm_if_eq (tgt := 38) dX8_isWord_16 (by decide) (pc' := 19) rfl (fun c => ?_) (fun c => ?_)
      · replace h := mm_it h c
        clear c
        exact mm_sub [1] rfl (s_X8_isWord_J38  h)
      · replace h := mm_if h c
        clear c
        refine mm_aload_n 0 dX8_isWord_19 rfl rfl (pc' := 20) rfl ?_
        refine mm_iload_n 2 dX8_isWord_20 rfl rfl (pc' := 21) rfl ?_
        refine mm_bipush dX8_isWord_21 kb_10 (pc' := 23) rfl ?_
        refine mm_irem dX8_isWord_23 (by decide) (pc' := 24) rfl ?_
        refine mm_iconst dX8_isWord_24 ki_1 (pc' := 25) rfl ?_
        refine mm_isub dX8_isWord_25 (pc' := 26) rfl ?_
        obtain ⟨t26, h26, h⟩ := mm_bd h
        refine mm_call0 (As := [.int ((v3 - v3 / (10 : Int32) * (10 : Int32)) - (1 : Int32))]) (rest := []) cV_X8_100 (ok_X8_isLetter h26) ⟨rfl, rfl, Nat.le_of_ble_eq_true rfl, Nat.le_of_ble_eq_true rfl⟩ dX8_isWord_26 rfl rfl rfl rfl (by rintro _ _ ⟨-, rfl⟩; rfl) (Nat.le_of_ble_eq_true rfl) ⟨Nat.le_of_ble_eq_true rfl, Nat.le_of_ble_eq_true rfl⟩ (pc' := 29) rfl ?_
        rintro rv w ⟨rfl, rfl⟩
        show mm_Wp _ _ _ _ 29 [(0, .ref 0), (2, .int v2), (3, .int v3)] [.int t26] (W_X8 q_textSize q_cursor q_start q_token q_number q_word q_fault q_line q_foundPains q_foundLine q_deadMany q_deadSize q_deadLeast q_deadMost q_st q_before q_kept q_isKept q_refused q_text q_ones q_said q_readTable q_least q_made q_enough q_isWanted q_column q_foundColumn q_walls q_wallMany q_chosen)
        clear h26
        refine mm_istore_n dX8_isWord_29 rfl (by decide) (l' := [(2, .int t26), (0, .ref 0), (3, .int v3)]) rfl (pc' := 30) rfl ?_
        refine mm_iload_n 2 dX8_isWord_30 rfl rfl (pc' := 31) rfl ?_
        refine mm_bipush dX8_isWord_31 kb_10 (pc' := 33) rfl ?_
        refine mm_idiv dX8_isWord_33 (by decide) (pc' := 34) rfl ?_
        refine mm_istore_n dX8_isWord_34 rfl (by decide) (l' := [(3, .int (v3 / (10 : Int32))), (2, .int t26), (0, .ref 0)]) rfl (pc' := 35) rfl ?_
        refine mm_goto (tgt := 11) dX8_isWord_35 (by decide) ?_
        exact mm_sub [2, 1, 0] rfl (hr11 _ _ h)
def f_X8_isWord (fu : Nat) (q_st : Nat → Int32) (v1 : Int32) : Option (Int32) := (f_X8_in fu v1 (1 : Int32) (666 : Int32)).bind fun t5 => X8_isWord_L11 fu q_st fu t5 v1
set_option maxHeartbeats 4000000 in
set_option maxRecDepth 100000 in
theorem ok_X8_isWord {fu : Nat} {q_textSize : Int32} {q_cursor : Int32} {q_start : Int32} {q_token : Int32} {q_number : Int32} {q_word : Int64} {q_fault : Int32} {q_line : Int32} {q_foundPains : Int32} {q_foundLine : Int32} {q_deadMany : Int32} {q_deadSize : Int32} {q_deadLeast : Int32} {q_deadMost : Int32} {q_st : Nat → Int32} {q_before : Nat → Int32} {q_kept : Nat → Int32} {q_isKept : Nat → Int32} {q_refused : Nat → Int32} {q_text : Nat → Int32} {q_ones : Nat → Int32} {q_said : Nat → Int32} {q_readTable : Nat → Int32} {q_least : Nat → Int32} {q_made : Nat → Int32} {q_enough : Nat → Int32} {q_isWanted : Nat → Int32} {q_column : Nat → Int32} {q_foundColumn : Nat → Int32} {q_walls : Nat → Int64} {q_wallMany : Nat → Int32} {q_chosen : Nat → Int32} {r : Int32} {v1 : Int32} (h : f_X8_isWord fu q_st v1 = some r) : mm_Ok mX8_isWord [.ref 0, .int v1] (W_X8 q_textSize q_cursor q_start q_token q_number q_word q_fault q_line q_foundPains q_foundLine q_deadMany q_deadSize q_deadLeast q_deadMost q_st q_before q_kept q_isKept q_refused q_text q_ones q_said q_readTable q_least q_made q_enough q_isWanted q_column q_foundColumn q_walls q_wallMany q_chosen) (P_X8_isWord q_textSize q_cursor q_start q_token q_number q_word q_fault q_line q_foundPains q_foundLine q_deadMany q_deadSize q_deadLeast q_deadMost q_st q_before q_kept q_isKept q_refused q_text q_ones q_said q_readTable q_least q_made q_enough q_isWanted q_column q_foundColumn q_walls q_wallMany q_chosen r) := by
  rw [f_X8_isWord] at h
  refine mm_Ok.of pn_X8 (l := [(0, .ref 0), (1, .int v1)]) rfl (Nat.le_of_ble_eq_true rfl) ?_
  refine mm_iload_n 1 dX8_isWord_0 rfl rfl (pc' := 1) rfl ?_
  refine mm_iconst dX8_isWord_1 ki_1 (pc' := 2) rfl ?_
  refine mm_sipush dX8_isWord_2 ks_666 (pc' := 5) rfl ?_
  obtain ⟨t5, h5, h⟩ := mm_bd h
  refine mm_callS (As := [.int v1, .int (1 : Int32), .int (666 : Int32)]) (rest := []) (av := [.int v1, .int (1 : Int32), .int (666 : Int32)]) (wc := []) (is := []) cS_X8_70 (ok_X8_in h5) ⟨rfl, rfl, Nat.le_of_ble_eq_true rfl, Nat.le_of_ble_eq_true rfl⟩ dX8_isWord_5 rfl rfl rfl ⟨rfl, by decide, by decide⟩ (by rintro _ _ ⟨-, rfl⟩; rfl) (Nat.le_of_ble_eq_true rfl) ⟨Nat.le_of_ble_eq_true rfl, Nat.le_of_ble_eq_true rfl⟩ (pc' := 8) rfl ?_
  rintro rv w ⟨rfl, rfl⟩
  show mm_Wp _ _ _ _ 8 [(0, .ref 0), (1, .int v1)] [.int t5] (W_X8 q_textSize q_cursor q_start q_token q_number q_word q_fault q_line q_foundPains q_foundLine q_deadMany q_deadSize q_deadLeast q_deadMost q_st q_before q_kept q_isKept q_refused q_text q_ones q_said q_readTable q_least q_made q_enough q_isWanted q_column q_foundColumn q_walls q_wallMany q_chosen)
  clear h5
  refine mm_istore_n dX8_isWord_8 rfl (by decide) (l' := [(2, .int t5), (0, .ref 0), (1, .int v1)]) rfl (pc' := 9) rfl ?_
  refine mm_iload_n 2 dX8_isWord_9 rfl rfl (pc' := 10) rfl ?_
  refine mm_istore_n dX8_isWord_10 rfl (by decide) (l' := [(3, .int v1), (2, .int t5), (0, .ref 0), (1, .int v1)]) rfl (pc' := 11) rfl ?_
  exact mm_sub [2, 1, 0] rfl (s_X8_isWord_L11  _ _ _ h)

def P_X8_longOf  (r : Int32) : Option Value → mm_W → Prop := fun rv w => rv = some (.int r) ∧ w = []
def f_X8_longOf (fu : Nat) (v0 : Int32) : Option (Int32) := if v0 ≤ (99 : Int32) then (if v0 ≤ (9 : Int32) then (some ((1 : Int32))) else (some ((2 : Int32)))) else (some ((3 : Int32)))
set_option maxHeartbeats 4000000 in
set_option maxRecDepth 100000 in
theorem ok_X8_longOf {fu : Nat} {r : Int32} {v0 : Int32} (h : f_X8_longOf fu v0 = some r) : mm_Ok mX8_longOf [.int v0] [] (P_X8_longOf r) := by
  rw [f_X8_longOf] at h
  refine mm_Ok.of pn_X8 (l := [(0, .int v0)]) rfl (Nat.le_of_ble_eq_true rfl) ?_
  refine mm_iload_n 0 dX8_longOf_0 rfl rfl (pc' := 1) rfl ?_
  refine mm_bipush dX8_longOf_1 kb_99 (pc' := 3) rfl ?_
  refine mm_icmp_le (tgt := 10) dX8_longOf_3 (by decide) (pc' := 6) rfl (fun c => ?_) (fun c => ?_)
  · replace h := mm_it h c
    clear c
    refine mm_iload_n 0 dX8_longOf_10 rfl rfl (pc' := 11) rfl ?_
    refine mm_bipush dX8_longOf_11 kb_9 (pc' := 13) rfl ?_
    refine mm_icmp_le (tgt := 20) dX8_longOf_13 (by decide) (pc' := 16) rfl (fun c => ?_) (fun c => ?_)
    · replace h := mm_it h c
      clear c
      refine mm_iconst dX8_longOf_20 ki_1 (pc' := 21) rfl ?_
      have h9 := Option.some.inj h
      subst h9
      exact mm_iret rfl dX8_longOf_21 ⟨rfl, rfl⟩
    · replace h := mm_if h c
      clear c
      refine mm_iconst dX8_longOf_16 ki_2 (pc' := 17) rfl ?_
      refine mm_goto (tgt := 21) dX8_longOf_17 (by decide) ?_
      have h9 := Option.some.inj h
      subst h9
      exact mm_iret rfl dX8_longOf_21 ⟨rfl, rfl⟩
  · replace h := mm_if h c
    clear c
    refine mm_iconst dX8_longOf_6 ki_3 (pc' := 7) rfl ?_
    refine mm_goto (tgt := 21) dX8_longOf_7 (by decide) ?_
    have h9 := Option.some.inj h
    subst h9
    exact mm_iret rfl dX8_longOf_21 ⟨rfl, rfl⟩
